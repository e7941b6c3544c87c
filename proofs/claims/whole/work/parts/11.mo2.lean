set_option maxHeartbeats 4000000 in
set_option maxRecDepth 100000 in
/-- zero(r) -/
theorem t_Mo_zero (l : Launch) (D : va_G) (cs : Nat → ClassId) (Z : (Nat → Prop) → State → Heap → Prop) (hZo : fm_Zok Z) (ad : Nat → Nat) (μ : fm_Mu) (V : Nat → Int) (M : Nat → Int → Int) (sz : Nat) (r : Int) (hM : moS cs μ ad V M) (hr0 : 0 ≤ r ∧ r < 7) : Met l y_Mo_zero (Cond.code y_Mo_zero c_Mo_zero 2 none :: wA) ({ frames := 0, cells := 0, slots := 0, locals := 0 }) (fm_Pc D clsA (tysA cs) Z μ sz [.ref (ad 0), .int (iN (r))]) (moQv D cs ad μ sz (fun V' M' => V' = V ∧ Fr M M' r ∧ Rg M' r 0 0 0 0)) 0 0 (fm_A μ sz) := by
  refine mo_of hM (by decide +kernel) (Nat.le_of_ble_eq_true rfl) (fun p e s m below meth c S hr hlocks hsz hm hK hZ hA ls hl => ?_)
  subst hsz
  obtain ⟨hx, hb, hml, hown, hts⟩ := id S
  have hl : lv_has ls 2 [(0, .ref (ad 0)), (1, .int (iN (r)))] := hl
  refine lv_aload_n hx hb d_Mo_zero_0 rfl (lv_at hl 0 rfl) ?_
  refine mo_get 3 S hK hm (by decide) k469 rfl rfl d_Mo_zero_1 ?_
  refine lv_iload_n hx hb d_Mo_zero_4 rfl (lv_at hl 1 rfl) ?_
  refine fm_iconst S d_Mo_zero_5 ?_
  refine mo_iast 2 S hK hm (by decide) (by simp only [moLen]; omega) d_Mo_zero_6 (fun M1 H locs eM1 hm => ?_)
  refine lv_aload_n hx hb d_Mo_zero_7 rfl (lv_at hl 0 rfl) ?_
  refine mo_get 4 S hK hm (by decide) k470 rfl rfl d_Mo_zero_8 ?_
  refine lv_iload_n hx hb d_Mo_zero_11 rfl (lv_at hl 1 rfl) ?_
  refine fm_iconst S d_Mo_zero_12 ?_
  refine mo_iast 3 S hK hm (by decide) (by simp only [moLen]; omega) d_Mo_zero_13 (fun M2 H locs eM2 hm => ?_)
  refine lv_aload_n hx hb d_Mo_zero_14 rfl (lv_at hl 0 rfl) ?_
  refine mo_get 5 S hK hm (by decide) k471 rfl rfl d_Mo_zero_15 ?_
  refine lv_iload_n hx hb d_Mo_zero_18 rfl (lv_at hl 1 rfl) ?_
  refine fm_iconst S d_Mo_zero_19 ?_
  refine mo_iast 4 S hK hm (by decide) (by simp only [moLen]; omega) d_Mo_zero_20 (fun M3 H locs eM3 hm => ?_)
  refine mo_vret S hr hlocks hK hm d_Mo_zero_21 ?_
  exact ⟨rfl, (Fr.s eM1 (by decide)).tr ((Fr.s eM2 (by decide)).tr (Fr.s eM3 (by decide))), by subst eM3 eM2 eM1; refine ⟨?_, ?_, ?_, fun k h1 h2 => ?_, rfl⟩ <;> first | (exfalso; omega) | (simp [setA, uI])⟩

set_option maxHeartbeats 4000000 in
set_option maxRecDepth 100000 in
/-- Mo_digitAt -/
theorem t_Mo_digitAt (l : Launch) (D : va_G) (cs : Nat → ClassId) (Z : (Nat → Prop) → State → Heap → Prop) (hZo : fm_Zok Z) (ad : Nat → Nat) (μ : fm_Mu) (V : Nat → Int) (M : Nat → Int → Int) (sz : Nat) (r : Int) (P : Int) (n : Nat) (N : Nat) (x : Int) (sg : Int) (hM : moS cs μ ad V M) (hr0 : 0 ≤ r ∧ r < 7) (hg : Rg M r n N x sg) (hb0 : n ≤ 320 ∧ -1000000 ≤ x ∧ x ≤ 1000000 ∧ -1000000 ≤ P ∧ P ≤ 1000000) : Met l y_Mo_digitAt (Cond.code y_Mo_digitAt c_Mo_digitAt 4 (some .int) :: wA) ({ frames := 0, cells := 0, slots := 0, locals := 0 }) (fm_Pc D clsA (tysA cs) Z μ sz [.ref (ad 0), .int (iN (r)), .int (iN (P))]) (fm_Si (fun z => z = dgt N x P)) 0 0 (fun _ => False) := by
  refine mo_of hM (by decide +kernel) (Nat.le_of_ble_eq_true rfl) (fun p e s m below meth c S hr hlocks hsz hm hK hZ hA ls hl => ?_)
  subst hsz
  obtain ⟨hx, hb, hml, hown, hts⟩ := id S
  have hl : lv_has ls 4 [(0, .ref (ad 0)), (1, .int (iN (r))), (2, .int (iN (P)))] := hl
  have h2 := hg.1
  have h3 := hg.2.1
  refine lv_iload_n hx hb d_Mo_digitAt_0 rfl (lv_at hl 2 rfl) ?_
  refine lv_aload_n hx hb d_Mo_digitAt_1 rfl (lv_at hl 0 rfl) ?_
  refine mo_get 4 S hK hm (by decide) k470 rfl rfl d_Mo_digitAt_2 ?_
  refine lv_iload_n hx hb d_Mo_digitAt_5 rfl (lv_at hl 1 rfl) ?_
  refine mo_iald 3 S hK hm (by decide) (by simp only [moLen]; omega) d_Mo_digitAt_6 ?_
  refine fm_isub S d_Mo_digitAt_7 ?_
  refine fm_topi (fun x1 hx1 => ?_)
  refine lv_istore_n (lv' := [(3, .int (iN (x1))), (0, .ref (ad 0)), (1, .int (iN (r))), (2, .int (iN (P)))]) hx hb d_Mo_digitAt_8 rfl hl (by decide) rfl (fun ls hl => ?_)
  refine lv_iload_n hx hb d_Mo_digitAt_9 rfl (lv_at hl 0 rfl) ?_
  refine fm_if_lt (tgt := 38) S (by omega) d_Mo_digitAt_10 (by decide) (fun c2 => ?_) (fun c2 => ?_)
  · refine fm_iconst S d_Mo_digitAt_38 ?_
    refine fm_iretS S hr hlocks d_Mo_digitAt_39 ?_
    have e : x1 = P - x := by omega
    subst e
    first | exact hg.at (by omega) (by omega) | exact (hg.out (by omega)).symm
  · refine lv_iload_n hx hb d_Mo_digitAt_13 rfl (lv_at hl 0 rfl) ?_
    refine lv_aload_n hx hb d_Mo_digitAt_14 rfl (lv_at hl 1 rfl) ?_
    refine mo_get 3 S hK hm (by decide) k469 rfl rfl d_Mo_digitAt_15 ?_
    refine lv_iload_n hx hb d_Mo_digitAt_18 rfl (lv_at hl 2 rfl) ?_
    refine mo_iald 2 S hK hm (by decide) (by simp only [moLen]; omega) d_Mo_digitAt_19 ?_
    refine fm_icmp_ge (tgt := 38) S (by omega) (by omega) d_Mo_digitAt_20 (by decide) (fun c3 => ?_) (fun c3 => ?_)
    · refine fm_iconst S d_Mo_digitAt_38 ?_
      refine fm_iretS S hr hlocks d_Mo_digitAt_39 ?_
      have e : x1 = P - x := by omega
      subst e
      first | exact hg.at (by omega) (by omega) | exact (hg.out (by omega)).symm
    · refine lv_aload_n hx hb d_Mo_digitAt_23 rfl (lv_at hl 1 rfl) ?_
      refine mo_get 2 S hK hm (by decide) k468 rfl rfl d_Mo_digitAt_24 ?_
      refine fm_sipush S d_Mo_digitAt_27 (by decide) ?_
      refine lv_iload_n hx hb d_Mo_digitAt_30 rfl (lv_at hl 2 rfl) ?_
      refine fm_imul S d_Mo_digitAt_31 ?_
      refine lv_iload_n hx hb d_Mo_digitAt_32 rfl (lv_at hl 0 rfl) ?_
      refine fm_iadd S d_Mo_digitAt_33 ?_
      refine mo_iald 1 S hK hm (by decide) (by simp only [moLen]; omega) d_Mo_digitAt_34 ?_
      refine lv_goto (tgt := 39) hx hb d_Mo_digitAt_35 (by decide) ?_
      refine fm_iretS S hr hlocks d_Mo_digitAt_39 ?_
      have e : x1 = P - x := by omega
      subst e
      first | exact hg.at (by omega) (by omega) | exact (hg.out (by omega)).symm

set_option maxHeartbeats 4000000 in
set_option maxRecDepth 100000 in
/-- L_copy -/
theorem L_copy {p : Program} {l : Launch} {e : Env} {s : State} {m : MethodId} {args : Array Value} {below : List Frame} {meth : Method} {c : Code} {Q : State → Prop} {D : va_G} {cs : Nat → ClassId} {Z : (Nat → Prop) → State → Heap → Prop} {ad : Nat → Nat} {μ0 : fm_Mu} {A : Nat → Prop} {R : Room} (S : CallFix p m c c_Mo_copy 4 s args wA "ArithmeticFormsModel") (hK : va_K D clsA (tysA cs) s) (hZo : fm_Zok Z) (hZ : Z A s s.heap) (hA : ∀ q, s.heap.size ≤ q → A q) (V : Nat → Int) (M0 : Nat → Int → Int) (f t : Int) (n : Nat) (hft : 0 ≤ f ∧ f < 7 ∧ 0 ≤ t ∧ t < 7 ∧ f ≠ t ∧ n ≤ 320) (hn0 : M0 2 f = n) (kk42 : ∀ (M : Nat → Int → Int) (k : Int) (H : Heap) (locs : List Loc) (ls : Array Slot), (k = n) → (CpI M0 M f t k) → lv_has ls 4 [(3, .int (iN (k))), (0, .ref (ad 0)), (1, .int (iN (f))), (2, .int (iN (t)))] → moW D A s.heap μ0 cs ad V M H locs → W p l e R s m args below meth c H locs 0 0 Q (F0 m 42 ls [])) : ∀ (fu : Nat) (M : Nat → Int → Int) (k : Int) (H : Heap) (locs : List Loc) (ls : Array Slot), n - k < (fu : Int) → (0 ≤ k ∧ k ≤ n) → (CpI M0 M f t k) → lv_has ls 4 [(3, .int (iN (k))), (0, .ref (ad 0)), (1, .int (iN (f))), (2, .int (iN (t)))] → moW D A s.heap μ0 cs ad V M H locs → W p l e R s m args below meth c H locs 0 0 Q (F0 m 2 ls []) := by
  obtain ⟨hx, hb, hml, hown, hts⟩ := id S
  intro fu
  induction fu with
  | zero =>
    intro M k H locs ls hn hk hc hl hm
    exfalso; omega
  | succ fu ih =>
    intro M k H locs ls hn hk hc hl hm
    have e2 : M 2 f = n := by rw [hc.2.1.1]; exact hn0
    refine lv_iload_n hx hb d_Mo_copy_2 rfl (lv_at hl 0 rfl) ?_
    refine lv_aload_n hx hb d_Mo_copy_3 rfl (lv_at hl 1 rfl) ?_
    refine mo_get 3 S hK hm (by decide) k469 rfl rfl d_Mo_copy_4 ?_
    refine lv_iload_n hx hb d_Mo_copy_7 rfl (lv_at hl 2 rfl) ?_
    refine mo_iald 2 S hK hm (by decide) (by simp only [moLen]; omega) d_Mo_copy_8 ?_
    refine fm_icmp_ge (tgt := 42) S (by omega) (by omega) d_Mo_copy_9 (by decide) (fun c1 => ?_) (fun c1 => ?_)
    · exact kk42 M k _ _ _ (by omega) (hc) (lv_sub hl [0, 1, 2, 3] rfl) hm
    · refine lv_aload_n hx hb d_Mo_copy_12 rfl (lv_at hl 1 rfl) ?_
      refine mo_get 2 S hK hm (by decide) k468 rfl rfl d_Mo_copy_13 ?_
      refine fm_sipush S d_Mo_copy_16 (by decide) ?_
      refine lv_iload_n hx hb d_Mo_copy_19 rfl (lv_at hl 3 rfl) ?_
      refine fm_imul S d_Mo_copy_20 ?_
      refine lv_iload_n hx hb d_Mo_copy_21 rfl (lv_at hl 0 rfl) ?_
      refine fm_iadd S d_Mo_copy_22 ?_
      refine lv_aload_n hx hb d_Mo_copy_23 rfl (lv_at hl 1 rfl) ?_
      refine mo_get 2 S hK hm (by decide) k468 rfl rfl d_Mo_copy_24 ?_
      refine fm_sipush S d_Mo_copy_27 (by decide) ?_
      refine lv_iload_n hx hb d_Mo_copy_30 rfl (lv_at hl 2 rfl) ?_
      refine fm_imul S d_Mo_copy_31 ?_
      refine lv_iload_n hx hb d_Mo_copy_32 rfl (lv_at hl 0 rfl) ?_
      refine fm_iadd S d_Mo_copy_33 ?_
      refine mo_iald 1 S hK hm (by decide) (by simp only [moLen]; omega) d_Mo_copy_34 ?_
      refine mo_iast 1 S hK hm (by decide) (by simp only [moLen]; omega) d_Mo_copy_35 (fun M2 H locs eM2 hm => ?_)
      refine lv_iinc (v := iN ((k + 1))) (lv' := [(3, .int (iN ((k + 1)))), (0, .ref (ad 0)), (1, .int (iN (f))), (2, .int (iN (t)))]) hx hb d_Mo_copy_36 hl (k := 0) rfl (iN_add _ _) (by decide) rfl (fun ls hl => ?_)
      refine lv_goto (tgt := 2) hx hb d_Mo_copy_39 (by decide) ?_
      exact ih M2 (k + 1) _ _ _ (by omega) (by omega) (hc.step hft.2.2.2.2.1 (by omega) eM2) (lv_sub hl [0, 1, 2, 3] rfl) hm

set_option maxHeartbeats 4000000 in
set_option maxRecDepth 100000 in
/-- copy(f, t) -/
theorem t_Mo_copy (l : Launch) (D : va_G) (cs : Nat → ClassId) (Z : (Nat → Prop) → State → Heap → Prop) (hZo : fm_Zok Z) (ad : Nat → Nat) (μ : fm_Mu) (V : Nat → Int) (M : Nat → Int → Int) (sz : Nat) (f : Int) (t : Int) (n : Nat) (N : Nat) (x : Int) (sg : Int) (hM : moS cs μ ad V M) (hg : Rg M f n N x sg) (hft : 0 ≤ f ∧ f < 7 ∧ 0 ≤ t ∧ t < 7 ∧ f ≠ t ∧ n ≤ 320) : Met l y_Mo_copy (Cond.code y_Mo_copy c_Mo_copy 4 none :: wA) ({ frames := 0, cells := 0, slots := 0, locals := 0 }) (fm_Pc D clsA (tysA cs) Z μ sz [.ref (ad 0), .int (iN (f)), .int (iN (t))]) (moQv D cs ad μ sz (fun V' M' => V' = V ∧ Fr M M' t ∧ Rg M' t n N x sg)) 0 0 (fm_A μ sz) := by
  refine mo_of hM (by decide +kernel) (Nat.le_of_ble_eq_true rfl) (fun p e s m below meth c S hr hlocks hsz hm hK hZ hA ls hl => ?_)
  subst hsz
  obtain ⟨hx, hb, hml, hown, hts⟩ := id S
  have hl : lv_has ls 4 [(0, .ref (ad 0)), (1, .int (iN (f))), (2, .int (iN (t)))] := hl
  refine fm_iconst S d_Mo_copy_0 ?_
  refine lv_istore_n (lv' := [(3, .int (iN (0))), (0, .ref (ad 0)), (1, .int (iN (f))), (2, .int (iN (t)))]) hx hb d_Mo_copy_1 rfl hl (by decide) rfl (fun ls hl => ?_)
  refine L_copy (Z := Z) S hK hZo hZ hA V M f t n hft hg.1 (fun M1 k H locs ls hk hc hl hm => ?_) (n + 1) M 0 _ _ _ (by omega) (by omega) (CpI.start M f t) (lv_sub hl [0, 1, 2, 3] rfl) hm
  refine lv_aload_n hx hb d_Mo_copy_42 rfl (lv_at hl 1 rfl) ?_
  refine mo_get 3 S hK hm (by decide) k469 rfl rfl d_Mo_copy_43 ?_
  refine lv_iload_n hx hb d_Mo_copy_46 rfl (lv_at hl 3 rfl) ?_
  refine lv_aload_n hx hb d_Mo_copy_47 rfl (lv_at hl 1 rfl) ?_
  refine mo_get 3 S hK hm (by decide) k469 rfl rfl d_Mo_copy_48 ?_
  refine lv_iload_n hx hb d_Mo_copy_51 rfl (lv_at hl 2 rfl) ?_
  refine mo_iald 2 S hK hm (by decide) (by simp only [moLen]; omega) d_Mo_copy_52 ?_
  refine mo_iast 2 S hK hm (by decide) (by simp only [moLen]; omega) d_Mo_copy_53 (fun M2 H locs eM2 hm => ?_)
  refine lv_aload_n hx hb d_Mo_copy_54 rfl (lv_at hl 1 rfl) ?_
  refine mo_get 4 S hK hm (by decide) k470 rfl rfl d_Mo_copy_55 ?_
  refine lv_iload_n hx hb d_Mo_copy_58 rfl (lv_at hl 3 rfl) ?_
  refine lv_aload_n hx hb d_Mo_copy_59 rfl (lv_at hl 1 rfl) ?_
  refine mo_get 4 S hK hm (by decide) k470 rfl rfl d_Mo_copy_60 ?_
  refine lv_iload_n hx hb d_Mo_copy_63 rfl (lv_at hl 2 rfl) ?_
  refine mo_iald 3 S hK hm (by decide) (by simp only [moLen]; omega) d_Mo_copy_64 ?_
  refine mo_iast 3 S hK hm (by decide) (by simp only [moLen]; omega) d_Mo_copy_65 (fun M3 H locs eM3 hm => ?_)
  refine lv_aload_n hx hb d_Mo_copy_66 rfl (lv_at hl 1 rfl) ?_
  refine mo_get 5 S hK hm (by decide) k471 rfl rfl d_Mo_copy_67 ?_
  refine lv_iload_n hx hb d_Mo_copy_70 rfl (lv_at hl 3 rfl) ?_
  refine lv_aload_n hx hb d_Mo_copy_71 rfl (lv_at hl 1 rfl) ?_
  refine mo_get 5 S hK hm (by decide) k471 rfl rfl d_Mo_copy_72 ?_
  refine lv_iload_n hx hb d_Mo_copy_75 rfl (lv_at hl 2 rfl) ?_
  refine mo_iald 4 S hK hm (by decide) (by simp only [moLen]; omega) d_Mo_copy_76 ?_
  refine mo_iast 4 S hK hm (by decide) (by simp only [moLen]; omega) d_Mo_copy_77 (fun M4 H locs eM4 hm => ?_)
  refine mo_vret S hr hlocks hK hm d_Mo_copy_78 ?_
  subst hk
  exact ⟨rfl, hc.fin hft.2.2.2.2.1 hg eM2 eM3 eM4⟩

set_option maxHeartbeats 4000000 in
set_option maxRecDepth 100000 in
/-- L_drop -/
theorem L_drop {p : Program} {l : Launch} {e : Env} {s : State} {m : MethodId} {args : Array Value} {below : List Frame} {meth : Method} {c : Code} {Q : State → Prop} {D : va_G} {cs : Nat → ClassId} {Z : (Nat → Prop) → State → Heap → Prop} {ad : Nat → Nat} {μ0 : fm_Mu} {A : Nat → Prop} {R : Room} (S : CallFix p m c c_Mo_drop 4 s args wA "ArithmeticFormsModel") (hK : va_K D clsA (tysA cs) s) (hZo : fm_Zok Z) (hZ : Z A s s.heap) (hA : ∀ q, s.heap.size ≤ q → A q) (V : Nat → Int) (M0 : Nat → Int → Int) (r d : Int) (n : Nat) (hrd : 0 ≤ r ∧ r < 7 ∧ 0 ≤ d ∧ n + d ≤ 320) (hn0 : M0 2 r = n) (kk64 : ∀ (M : Nat → Int → Int) (k : Int) (H : Heap) (locs : List Loc) (ls : Array Slot), (k = n) → (DrI M0 M r d k) → lv_has ls 4 [(3, .int (iN (k))), (0, .ref (ad 0)), (1, .int (iN (r))), (2, .int (iN (d)))] → moW D A s.heap μ0 cs ad V M H locs → W p l e R s m args below meth c H locs 0 0 Q (F0 m 64 ls [])) : ∀ (fu : Nat) (M : Nat → Int → Int) (k : Int) (H : Heap) (locs : List Loc) (ls : Array Slot), n - k < (fu : Int) → (0 ≤ k ∧ k ≤ n) → (DrI M0 M r d k) → lv_has ls 4 [(3, .int (iN (k))), (0, .ref (ad 0)), (1, .int (iN (r))), (2, .int (iN (d)))] → moW D A s.heap μ0 cs ad V M H locs → W p l e R s m args below meth c H locs 0 0 Q (F0 m 22 ls []) := by
  obtain ⟨hx, hb, hml, hown, hts⟩ := id S
  intro fu
  induction fu with
  | zero =>
    intro M k H locs ls hn hk hc hl hm
    exfalso; omega
  | succ fu ih =>
    intro M k H locs ls hn hk hc hl hm
    have e2 : M 2 r = n := by rw [hc.2.1.1]; exact hn0
    refine lv_iload_n hx hb d_Mo_drop_22 rfl (lv_at hl 0 rfl) ?_
    refine lv_aload_n hx hb d_Mo_drop_23 rfl (lv_at hl 1 rfl) ?_
    refine mo_get 3 S hK hm (by decide) k469 rfl rfl d_Mo_drop_24 ?_
    refine lv_iload_n hx hb d_Mo_drop_27 rfl (lv_at hl 2 rfl) ?_
    refine mo_iald 2 S hK hm (by decide) (by simp only [moLen]; omega) d_Mo_drop_28 ?_
    refine fm_icmp_ge (tgt := 64) S (by omega) (by omega) d_Mo_drop_29 (by decide) (fun c1 => ?_) (fun c1 => ?_)
    · exact kk64 M k _ _ _ (by omega) (hc) (lv_sub hl [0, 1, 2, 3] rfl) hm
    · refine lv_aload_n hx hb d_Mo_drop_32 rfl (lv_at hl 1 rfl) ?_
      refine mo_get 2 S hK hm (by decide) k468 rfl rfl d_Mo_drop_33 ?_
      refine fm_sipush S d_Mo_drop_36 (by decide) ?_
      refine lv_iload_n hx hb d_Mo_drop_39 rfl (lv_at hl 2 rfl) ?_
      refine fm_imul S d_Mo_drop_40 ?_
      refine lv_iload_n hx hb d_Mo_drop_41 rfl (lv_at hl 0 rfl) ?_
      refine fm_iadd S d_Mo_drop_42 ?_
      refine lv_aload_n hx hb d_Mo_drop_43 rfl (lv_at hl 1 rfl) ?_
      refine mo_get 2 S hK hm (by decide) k468 rfl rfl d_Mo_drop_44 ?_
      refine fm_sipush S d_Mo_drop_47 (by decide) ?_
      refine lv_iload_n hx hb d_Mo_drop_50 rfl (lv_at hl 2 rfl) ?_
      refine fm_imul S d_Mo_drop_51 ?_
      refine lv_iload_n hx hb d_Mo_drop_52 rfl (lv_at hl 0 rfl) ?_
      refine fm_iadd S d_Mo_drop_53 ?_
      refine lv_iload_n hx hb d_Mo_drop_54 rfl (lv_at hl 3 rfl) ?_
      refine fm_iadd S d_Mo_drop_55 ?_
      refine mo_iald 1 S hK hm (by decide) (by simp only [moLen]; omega) d_Mo_drop_56 ?_
      refine mo_iast 1 S hK hm (by decide) (by simp only [moLen]; omega) d_Mo_drop_57 (fun M2 H locs eM2 hm => ?_)
      refine lv_iinc (v := iN ((k + 1))) (lv' := [(3, .int (iN ((k + 1)))), (0, .ref (ad 0)), (1, .int (iN (r))), (2, .int (iN (d)))]) hx hb d_Mo_drop_58 hl (k := 0) rfl (iN_add _ _) (by decide) rfl (fun ls hl => ?_)
      refine lv_goto (tgt := 22) hx hb d_Mo_drop_61 (by decide) ?_
      exact ih M2 (k + 1) _ _ _ (by omega) (by omega) (hc.step hrd.2.2.1 (by omega) eM2) (lv_sub hl [0, 1, 2, 3] rfl) hm

set_option maxHeartbeats 4000000 in
set_option maxRecDepth 100000 in
/-- drop(r, d) -/
theorem t_Mo_drop (l : Launch) (D : va_G) (cs : Nat → ClassId) (Z : (Nat → Prop) → State → Heap → Prop) (hZo : fm_Zok Z) (ad : Nat → Nat) (μ : fm_Mu) (V : Nat → Int) (M : Nat → Int → Int) (sz : Nat) (r : Int) (d0 : Int) (d : Nat) (n : Nat) (N : Nat) (x : Int) (sg : Int) (hM : moS cs μ ad V M) (hd0 : d0 = (d : Int)) (hg : Rg M r n N x sg) (hrd : 0 ≤ r ∧ r < 7 ∧ d ≤ n ∧ n ≤ 320) : Met l y_Mo_drop (Cond.code y_Mo_drop c_Mo_drop 4 none :: wA) ({ frames := 0, cells := 0, slots := 0, locals := 0 }) (fm_Pc D clsA (tysA cs) Z μ sz [.ref (ad 0), .int (iN (r)), .int (iN (d0))]) (moQv D cs ad μ sz (fun V' M' => V' = V ∧ Fr M M' r ∧ Rg M' r (n - d) (N / 10 ^ d) (x + d) sg)) 0 0 (fm_A μ sz) := by
  refine mo_of hM (by decide +kernel) (Nat.le_of_ble_eq_true rfl) (fun p e s m below meth c S hr hlocks hsz hm hK hZ hA ls hl => ?_)
  subst hsz
  obtain ⟨hx, hb, hml, hown, hts⟩ := id S
  subst hd0
  have hl : lv_has ls 4 [(0, .ref (ad 0)), (1, .int (iN (r))), (2, .int (iN ((d : Int))))] := hl
  refine lv_aload_n hx hb d_Mo_drop_0 rfl (lv_at hl 0 rfl) ?_
  refine mo_get 3 S hK hm (by decide) k469 rfl rfl d_Mo_drop_1 ?_
  refine lv_iload_n hx hb d_Mo_drop_4 rfl (lv_at hl 1 rfl) ?_
  refine lv_dup2_11 hx hb d_Mo_drop_5 rfl rfl ?_
  refine mo_iald 2 S hK hm (by decide) (by simp only [moLen]; omega) d_Mo_drop_6 ?_
  refine lv_iload_n hx hb d_Mo_drop_7 rfl (lv_at hl 2 rfl) ?_
  refine fm_isub S d_Mo_drop_8 ?_
  refine mo_iast 2 S hK hm (by decide) (by simp only [moLen]; omega) d_Mo_drop_9 (fun M1 H locs eM1 hm => ?_)
  refine lv_aload_n hx hb d_Mo_drop_10 rfl (lv_at hl 0 rfl) ?_
  refine mo_get 4 S hK hm (by decide) k470 rfl rfl d_Mo_drop_11 ?_
  refine lv_iload_n hx hb d_Mo_drop_14 rfl (lv_at hl 1 rfl) ?_
  refine lv_dup2_11 hx hb d_Mo_drop_15 rfl rfl ?_
  refine mo_iald 3 S hK hm (by decide) (by simp only [moLen]; omega) d_Mo_drop_16 ?_
  refine lv_iload_n hx hb d_Mo_drop_17 rfl (lv_at hl 2 rfl) ?_
  refine fm_iadd S d_Mo_drop_18 ?_
  refine mo_iast 3 S hK hm (by decide) (by simp only [moLen]; omega) d_Mo_drop_19 (fun M2 H locs eM2 hm => ?_)
  refine fm_iconst S d_Mo_drop_20 ?_
  refine lv_istore_n (lv' := [(3, .int (iN (0))), (0, .ref (ad 0)), (1, .int (iN (r))), (2, .int (iN ((d : Int))))]) hx hb d_Mo_drop_21 rfl hl (by decide) rfl (fun ls hl => ?_)
  refine L_drop (Z := Z) S hK hZo hZ hA V M2 r d (n - d) (by omega) (by subst eM2 eM1; simp [setA, uI]; rw [hg.1]; omega) (fun M3 k H locs ls hk hc hl hm => ?_) ((n - d) + 1) M2 0 _ _ _ (by omega) (by omega) (DrI.start M2 r d) (lv_sub hl [0, 1, 2, 3] rfl) hm
  refine mo_vret S hr hlocks hK hm d_Mo_drop_64 ?_
  subst hk
  exact ⟨rfl, DrI.fin hrd.2.2.1 hg eM1 eM2 hc⟩

set_option maxHeartbeats 4000000 in
set_option maxRecDepth 100000 in
/-- L_whole -/
theorem L_whole {p : Program} {l : Launch} {e : Env} {s : State} {m : MethodId} {args : Array Value} {below : List Frame} {meth : Method} {c : Code} {Q : State → Prop} {D : va_G} {cs : Nat → ClassId} {Z : (Nat → Prop) → State → Heap → Prop} {ad : Nat → Nat} {μ0 : fm_Mu} {A : Nat → Prop} {R : Room} (S : CallFix p m c c_Mo_whole 9 s args wA "ArithmeticFormsModel") (hK : va_K D clsA (tysA cs) s) (hZo : fm_Zok Z) (hZ : Z A s s.heap) (hA : ∀ q, s.heap.size ≤ q → A q) (V : Nat → Int) (M0 : Nat → Int → Int) (v ex r : Int) (hr0 : 0 ≤ r ∧ r < 7) (hv : inJ v) (kk82 : ∀ (M : Nat → Int → Int) (left : Int) (j : Nat) (H : Heap) (locs : List Loc) (ls : Array Slot), (left = 0) → (WhI M0 M r v left j) → lv_has ls 9 [(5, .long (jN (left))), (0, .ref (ad 0)), (1, .long (jN (v))), (3, .int (iN (ex))), (4, .int (iN (r)))] → moW D A s.heap μ0 cs ad V M H locs → W p l e R s m args below meth c H locs 0 0 Q (F0 m 82 ls [])) : ∀ (fu : Nat) (M : Nat → Int → Int) (left : Int) (j : Nat) (H : Heap) (locs : List Loc) (ls : Array Slot), (left.natAbs : Int) < (fu : Int) → (WhI M0 M r v left j) → lv_has ls 9 [(5, .long (jN (left))), (0, .ref (ad 0)), (1, .long (jN (v))), (3, .int (iN (ex))), (4, .int (iN (r)))] → moW D A s.heap μ0 cs ad V M H locs → W p l e R s m args below meth c H locs 0 0 Q (F0 m 9 ls []) := by
  obtain ⟨hx, hb, hml, hown, hts⟩ := id S
  intro fu
  induction fu with
  | zero =>
    intro M left j H locs ls hn hc hl hm
    exfalso; omega
  | succ fu ih =>
    intro M left j H locs ls hn hc hl hm
    have hb9 := hc.bd hv
    have e2 : M 2 r = j := hc.2.1.1
    refine lv_lload hx hb d_Mo_whole_9 (lv_at hl 0 rfl) ?_
    refine fm_lconst0 S d_Mo_whole_11 ?_
    refine fm_lcmp S (by omega) (by omega) d_Mo_whole_12 ?_
    refine fm_if_eq (tgt := 82) S (fm_cmp_in _ _) d_Mo_whole_13 (by decide) (fun c1 => ?_) (fun c1 => ?_)
    · rw [fm_cmp_eq] at c1
      exact kk82 M left j _ _ _ (c1) (hc) (lv_sub hl [0, 1, 2, 3, 4] rfl) hm
    · rw [fm_cmp_eq] at c1
      have hj := hc.lt hv c1
      have ht1 : (left.tmod 10).natAbs = left.natAbs % 10 := Int.natAbs_tmod left 10
      have ht2 : (left.tdiv 10).natAbs = left.natAbs / 10 := Int.natAbs_tdiv left 10
      refine lv_lload hx hb d_Mo_whole_16 (lv_at hl 0 rfl) ?_
      refine lv_ldc2 (v := jN 10) hx hb hown (hts _ k554) d_Mo_whole_18 ?_
      refine fm_lrem S (by omega) d_Mo_whole_21 ?_
      refine fm_topl (fun x2 hx2 => ?_)
      refine lv_lstore (lv' := [(7, .long (jN (x2))), (5, .long (jN (left))), (0, .ref (ad 0)), (1, .long (jN (v))), (3, .int (iN (ex))), (4, .int (iN (r)))]) hx hb d_Mo_whole_22 hl (by decide) rfl (fun ls hl => ?_)
      refine lv_aload_n hx hb d_Mo_whole_24 rfl (lv_at hl 2 rfl) ?_
      refine mo_get 2 S hK hm (by decide) k468 rfl rfl d_Mo_whole_25 ?_
      refine fm_sipush S d_Mo_whole_28 (by decide) ?_
      refine lv_iload hx hb d_Mo_whole_31 (lv_at hl 5 rfl) ?_
      refine fm_imul S d_Mo_whole_33 ?_
      refine lv_aload_n hx hb d_Mo_whole_34 rfl (lv_at hl 2 rfl) ?_
      refine mo_get 3 S hK hm (by decide) k469 rfl rfl d_Mo_whole_35 ?_
      refine lv_iload hx hb d_Mo_whole_38 (lv_at hl 5 rfl) ?_
      refine mo_iald 2 S hK hm (by decide) (by simp only [moLen]; omega) d_Mo_whole_40 ?_
      refine fm_iadd S d_Mo_whole_41 ?_
      refine lv_lload hx hb d_Mo_whole_42 (lv_at hl 0 rfl) ?_
      refine fm_lconst0 S d_Mo_whole_44 ?_
      refine fm_lcmp S (by omega) (by omega) d_Mo_whole_45 ?_
      refine fm_if_ge (tgt := 56) S (fm_cmp_in _ _) d_Mo_whole_46 (by decide) (fun c3 => ?_) (fun c3 => ?_)
      · rw [fm_cmp_ge] at c3
        refine lv_lload hx hb d_Mo_whole_56 (lv_at hl 0 rfl) ?_
        refine fm_topl (fun x4 hx4 => ?_)
        have hdx4 : x4 = ((left.natAbs % 10 : Nat) : Int) := by omega
        refine fm_l2i S d_Mo_whole_58 ?_
        refine mo_iast 1 S hK hm (by decide) (by simp only [moLen]; omega) d_Mo_whole_59 (fun M5 H locs eM5 hm => ?_)
        refine lv_aload_n hx hb d_Mo_whole_60 rfl (lv_at hl 2 rfl) ?_
        refine mo_get 3 S hK hm (by decide) k469 rfl rfl d_Mo_whole_61 ?_
        refine lv_iload hx hb d_Mo_whole_64 (lv_at hl 5 rfl) ?_
        refine lv_dup2_11 hx hb d_Mo_whole_66 rfl rfl ?_
        refine mo_iald 2 S hK hm (by decide) (by simp only [moLen]; omega) d_Mo_whole_67 ?_
        refine fm_iconst S d_Mo_whole_68 ?_
        refine fm_iadd S d_Mo_whole_69 ?_
        refine mo_iast 2 S hK hm (by decide) (by simp only [moLen]; omega) d_Mo_whole_70 (fun M6 H locs eM6 hm => ?_)
        refine lv_lload hx hb d_Mo_whole_71 (lv_at hl 1 rfl) ?_
        refine lv_ldc2 (v := jN 10) hx hb hown (hts _ k554) d_Mo_whole_73 ?_
        refine fm_ldiv S (by omega) d_Mo_whole_76 ?_
        refine fm_topl (fun x7 hx7 => ?_)
        refine lv_lstore (lv' := [(5, .long (jN (x7))), (7, .long (jN (x2))), (0, .ref (ad 0)), (1, .long (jN (v))), (3, .int (iN (ex))), (4, .int (iN (r)))]) hx hb d_Mo_whole_77 hl (by decide) rfl (fun ls hl => ?_)
        refine lv_goto (tgt := 9) hx hb d_Mo_whole_79 (by decide) ?_
        exact ih M6 x7 (j + 1) _ _ _ (by omega) (by have e9 := hx7; rw [e9]; exact hc.step (by omega) c1 hdx4 eM5 eM6) (lv_sub hl [0, 2, 3, 4, 5] rfl) hm
      · rw [fm_cmp_ge] at c3
        refine fm_lconst0 S d_Mo_whole_49 ?_
        refine lv_lload hx hb d_Mo_whole_50 (lv_at hl 0 rfl) ?_
        refine fm_lsub S d_Mo_whole_52 ?_
        refine lv_goto (tgt := 58) hx hb d_Mo_whole_53 (by decide) ?_
        refine fm_topl (fun x8 hx8 => ?_)
        have hdx8 : x8 = ((left.natAbs % 10 : Nat) : Int) := by omega
        refine fm_l2i S d_Mo_whole_58 ?_
        refine mo_iast 1 S hK hm (by decide) (by simp only [moLen]; omega) d_Mo_whole_59 (fun M9 H locs eM9 hm => ?_)
        refine lv_aload_n hx hb d_Mo_whole_60 rfl (lv_at hl 2 rfl) ?_
        refine mo_get 3 S hK hm (by decide) k469 rfl rfl d_Mo_whole_61 ?_
        refine lv_iload hx hb d_Mo_whole_64 (lv_at hl 5 rfl) ?_
        refine lv_dup2_11 hx hb d_Mo_whole_66 rfl rfl ?_
        refine mo_iald 2 S hK hm (by decide) (by simp only [moLen]; omega) d_Mo_whole_67 ?_
        refine fm_iconst S d_Mo_whole_68 ?_
        refine fm_iadd S d_Mo_whole_69 ?_
        refine mo_iast 2 S hK hm (by decide) (by simp only [moLen]; omega) d_Mo_whole_70 (fun M10 H locs eM10 hm => ?_)
        refine lv_lload hx hb d_Mo_whole_71 (lv_at hl 1 rfl) ?_
        refine lv_ldc2 (v := jN 10) hx hb hown (hts _ k554) d_Mo_whole_73 ?_
        refine fm_ldiv S (by omega) d_Mo_whole_76 ?_
        refine fm_topl (fun x11 hx11 => ?_)
        refine lv_lstore (lv' := [(5, .long (jN (x11))), (7, .long (jN (x2))), (0, .ref (ad 0)), (1, .long (jN (v))), (3, .int (iN (ex))), (4, .int (iN (r)))]) hx hb d_Mo_whole_77 hl (by decide) rfl (fun ls hl => ?_)
        refine lv_goto (tgt := 9) hx hb d_Mo_whole_79 (by decide) ?_
        exact ih M10 x11 (j + 1) _ _ _ (by omega) (by have e9 := hx11; rw [e9]; exact hc.step (by omega) c1 hdx8 eM9 eM10) (lv_sub hl [0, 2, 3, 4, 5] rfl) hm

set_option maxHeartbeats 4000000 in
set_option maxRecDepth 100000 in
/-- whole(v, ex, r) -/
theorem t_Mo_whole (l : Launch) (D : va_G) (cs : Nat → ClassId) (Z : (Nat → Prop) → State → Heap → Prop) (hZo : fm_Zok Z) (ad : Nat → Nat) (μ : fm_Mu) (V : Nat → Int) (M : Nat → Int → Int) (sz : Nat) (v : Int) (ex : Int) (r : Int) (hM : moS cs μ ad V M) (hr0 : 0 ≤ r ∧ r < 7) (hv : inJ v) : Met l y_Mo_whole (Cond.code y_Mo_whole c_Mo_whole 9 none :: wA) ({ frames := 1, cells := 0, slots := 0, locals := 21 }) (fm_Pc D clsA (tysA cs) Z μ sz [.ref (ad 0), .long (jN (v)), .int (iN (ex)), .int (iN (r))]) (moQv D cs ad μ sz (fun V' M' => V' = V ∧ Fr M M' r ∧ Rg M' r (nd v.natAbs) v.natAbs (if v = 0 then 0 else ex) (sgn v))) 0 0 (fm_A μ sz) := by
  refine mo_of hM (by decide +kernel) (Nat.le_of_ble_eq_true rfl) (fun p e s m below meth c S hr hlocks hsz hm hK hZ hA ls hl => ?_)
  subst hsz
  obtain ⟨hx, hb, hml, hown, hts⟩ := id S
  have hl : lv_has ls 9 [(0, .ref (ad 0)), (1, .long (jN (v))), (3, .int (iN (ex))), (4, .int (iN (r)))] := hl
  refine lv_aload_n hx hb d_Mo_whole_0 rfl (lv_at hl 0 rfl) ?_
  refine lv_iload hx hb d_Mo_whole_1 (lv_at hl 3 rfl) ?_
  refine mo_cvS (n := 1) (As := [.int (iN (r))]) (rest := []) S hK hZo hZ hA hm (fun μ sz hM => t_Mo_zero l D cs Z hZo ad μ V M sz r hM (by omega)) (gV k550 k552 ks20 k6 k553) (by decide) (by decide +kernel) rfl hl.1 rfl (Nat.le_of_ble_eq_true rfl) ⟨Nat.le_of_ble_eq_true rfl, Nat.le_of_ble_eq_true rfl⟩ d_Mo_whole_3 (fun M2 H locs q1 hm => ?_)
  obtain ⟨frM2, rgM2⟩ := q1
  refine lv_lload_n hx hb d_Mo_whole_6 rfl (lv_at hl 1 rfl) ?_
  refine lv_lstore (lv' := [(5, .long (jN (v))), (0, .ref (ad 0)), (1, .long (jN (v))), (3, .int (iN (ex))), (4, .int (iN (r)))]) hx hb d_Mo_whole_7 hl (by decide) rfl (fun ls hl => ?_)
  refine L_whole (Z := Z) S hK hZo hZ hA V M v ex r hr0 hv (fun M3 left j H locs ls hk hc hl hm => ?_) (v.natAbs + 1) M2 v 0 _ _ _ (by omega) (WhI.start frM2 rgM2) (lv_sub hl [0, 1, 2, 3, 4] rfl) hm
  refine lv_aload_n hx hb d_Mo_whole_82 rfl (lv_at hl 1 rfl) ?_
  refine mo_get 5 S hK hm (by decide) k471 rfl rfl d_Mo_whole_83 ?_
  refine lv_iload hx hb d_Mo_whole_86 (lv_at hl 4 rfl) ?_
  refine lv_lload_n hx hb d_Mo_whole_88 rfl (lv_at hl 2 rfl) ?_
  refine fm_lconst0 S d_Mo_whole_89 ?_
  refine fm_lcmp S (by omega) (by omega) d_Mo_whole_90 ?_
  refine fm_if_ge (tgt := 98) S (fm_cmp_in _ _) d_Mo_whole_91 (by decide) (fun c4 => ?_) (fun c4 => ?_)
  · rw [fm_cmp_ge] at c4
    refine lv_lload_n hx hb d_Mo_whole_98 rfl (lv_at hl 2 rfl) ?_
    refine fm_lconst0 S d_Mo_whole_99 ?_
    refine fm_lcmp S (by omega) (by omega) d_Mo_whole_100 ?_
    refine fm_if_le (tgt := 108) S (fm_cmp_in _ _) d_Mo_whole_101 (by decide) (fun c5 => ?_) (fun c5 => ?_)
    · rw [fm_cmp_le] at c5
      refine fm_iconst S d_Mo_whole_108 ?_
      refine mo_iast 4 S hK hm (by decide) (by simp only [moLen]; omega) d_Mo_whole_109 (fun M6 H locs eM6 hm => ?_)
      refine lv_aload_n hx hb d_Mo_whole_110 rfl (lv_at hl 1 rfl) ?_
      refine mo_get 4 S hK hm (by decide) k470 rfl rfl d_Mo_whole_111 ?_
      refine lv_iload hx hb d_Mo_whole_114 (lv_at hl 4 rfl) ?_
      refine lv_lload_n hx hb d_Mo_whole_116 rfl (lv_at hl 2 rfl) ?_
      refine fm_lconst0 S d_Mo_whole_117 ?_
      refine fm_lcmp S (by omega) (by omega) d_Mo_whole_118 ?_
      refine fm_if_ne (tgt := 126) S (fm_cmp_in _ _) d_Mo_whole_119 (by decide) (fun c7 => ?_) (fun c7 => ?_)
      · rw [fm_cmp_eq] at c7
        refine lv_iload_n hx hb d_Mo_whole_126 rfl (lv_at hl 3 rfl) ?_
        refine mo_iast 3 S hK hm (by decide) (by simp only [moLen]; omega) d_Mo_whole_127 (fun M8 H locs eM8 hm => ?_)
        refine mo_vret S hr hlocks hK hm d_Mo_whole_128 ?_
        subst hk
        exact ⟨rfl, WhI.fin hc eM6 eM8 (by unfold sgn; (repeat' split) <;> omega) (by (repeat' split) <;> omega)⟩
      · rw [fm_cmp_eq] at c7
        refine fm_iconst S d_Mo_whole_122 ?_
        refine lv_goto (tgt := 127) hx hb d_Mo_whole_123 (by decide) ?_
        refine mo_iast 3 S hK hm (by decide) (by simp only [moLen]; omega) d_Mo_whole_127 (fun M9 H locs eM9 hm => ?_)
        refine mo_vret S hr hlocks hK hm d_Mo_whole_128 ?_
        subst hk
        exact ⟨rfl, WhI.fin hc eM6 eM9 (by unfold sgn; (repeat' split) <;> omega) (by (repeat' split) <;> omega)⟩
    · rw [fm_cmp_le] at c5
      refine fm_iconst S d_Mo_whole_104 ?_
      refine lv_goto (tgt := 109) hx hb d_Mo_whole_105 (by decide) ?_
      refine mo_iast 4 S hK hm (by decide) (by simp only [moLen]; omega) d_Mo_whole_109 (fun M10 H locs eM10 hm => ?_)
      refine lv_aload_n hx hb d_Mo_whole_110 rfl (lv_at hl 1 rfl) ?_
      refine mo_get 4 S hK hm (by decide) k470 rfl rfl d_Mo_whole_111 ?_
      refine lv_iload hx hb d_Mo_whole_114 (lv_at hl 4 rfl) ?_
      refine lv_lload_n hx hb d_Mo_whole_116 rfl (lv_at hl 2 rfl) ?_
      refine fm_lconst0 S d_Mo_whole_117 ?_
      refine fm_lcmp S (by omega) (by omega) d_Mo_whole_118 ?_
      refine fm_if_ne (tgt := 126) S (fm_cmp_in _ _) d_Mo_whole_119 (by decide) (fun c11 => ?_) (fun c11 => ?_)
      · rw [fm_cmp_eq] at c11
        refine lv_iload_n hx hb d_Mo_whole_126 rfl (lv_at hl 3 rfl) ?_
        refine mo_iast 3 S hK hm (by decide) (by simp only [moLen]; omega) d_Mo_whole_127 (fun M12 H locs eM12 hm => ?_)
        refine mo_vret S hr hlocks hK hm d_Mo_whole_128 ?_
        subst hk
        exact ⟨rfl, WhI.fin hc eM10 eM12 (by unfold sgn; (repeat' split) <;> omega) (by (repeat' split) <;> omega)⟩
      · rw [fm_cmp_eq] at c11
        refine fm_iconst S d_Mo_whole_122 ?_
        refine lv_goto (tgt := 127) hx hb d_Mo_whole_123 (by decide) ?_
        refine mo_iast 3 S hK hm (by decide) (by simp only [moLen]; omega) d_Mo_whole_127 (fun M13 H locs eM13 hm => ?_)
        refine mo_vret S hr hlocks hK hm d_Mo_whole_128 ?_
        subst hk
        exact ⟨rfl, WhI.fin hc eM10 eM13 (by unfold sgn; (repeat' split) <;> omega) (by (repeat' split) <;> omega)⟩
  · rw [fm_cmp_ge] at c4
    refine fm_iconst S d_Mo_whole_94 ?_
    refine lv_goto (tgt := 109) hx hb d_Mo_whole_95 (by decide) ?_
    refine mo_iast 4 S hK hm (by decide) (by simp only [moLen]; omega) d_Mo_whole_109 (fun M14 H locs eM14 hm => ?_)
    refine lv_aload_n hx hb d_Mo_whole_110 rfl (lv_at hl 1 rfl) ?_
    refine mo_get 4 S hK hm (by decide) k470 rfl rfl d_Mo_whole_111 ?_
    refine lv_iload hx hb d_Mo_whole_114 (lv_at hl 4 rfl) ?_
    refine lv_lload_n hx hb d_Mo_whole_116 rfl (lv_at hl 2 rfl) ?_
    refine fm_lconst0 S d_Mo_whole_117 ?_
    refine fm_lcmp S (by omega) (by omega) d_Mo_whole_118 ?_
    refine fm_if_ne (tgt := 126) S (fm_cmp_in _ _) d_Mo_whole_119 (by decide) (fun c15 => ?_) (fun c15 => ?_)
    · rw [fm_cmp_eq] at c15
      refine lv_iload_n hx hb d_Mo_whole_126 rfl (lv_at hl 3 rfl) ?_
      refine mo_iast 3 S hK hm (by decide) (by simp only [moLen]; omega) d_Mo_whole_127 (fun M16 H locs eM16 hm => ?_)
      refine mo_vret S hr hlocks hK hm d_Mo_whole_128 ?_
      subst hk
      exact ⟨rfl, WhI.fin hc eM14 eM16 (by unfold sgn; (repeat' split) <;> omega) (by (repeat' split) <;> omega)⟩
    · rw [fm_cmp_eq] at c15
      refine fm_iconst S d_Mo_whole_122 ?_
      refine lv_goto (tgt := 127) hx hb d_Mo_whole_123 (by decide) ?_
      refine mo_iast 3 S hK hm (by decide) (by simp only [moLen]; omega) d_Mo_whole_127 (fun M17 H locs eM17 hm => ?_)
      refine mo_vret S hr hlocks hK hm d_Mo_whole_128 ?_
      subst hk
      exact ⟨rfl, WhI.fin hc eM14 eM17 (by unfold sgn; (repeat' split) <;> omega) (by (repeat' split) <;> omega)⟩

set_option maxHeartbeats 4000000 in
set_option maxRecDepth 100000 in
/-- L_cut1 -/
theorem L_cut1 {p : Program} {l : Launch} {e : Env} {s : State} {m : MethodId} {args : Array Value} {below : List Frame} {meth : Method} {c : Code} {Q : State → Prop} {D : va_G} {cs : Nat → ClassId} {Z : (Nat → Prop) → State → Heap → Prop} {ad : Nat → Nat} {μ0 : fm_Mu} {A : Nat → Prop} {R : Room} (S : CallFix p m c c_Mo_cut 5 s args wA "ArithmeticFormsModel") (hK : va_K D clsA (tysA cs) s) (hZo : fm_Zok Z) (hZ : Z A s s.heap) (hA : ∀ q, s.heap.size ≤ q → A q) (V : Nat → Int) (M0 : Nat → Int → Int) (r mo x sg : Int) (N : Nat) (hr0 : 0 ≤ r ∧ r < 7) (kk44 : ∀ (M : Nat → Int → Int) (k : Nat) (H : Heap) (locs : List Loc) (ls : Array Slot), (k = nd N) → (Rg M r k N x sg) → (Fr M0 M r) → lv_has ls 5 [(0, .ref (ad 0)), (1, .int (iN (r))), (2, .int (iN (mo)))] → moW D A s.heap μ0 cs ad V M H locs → W p l e R s m args below meth c H locs 0 0 Q (F0 m 44 ls [])) : ∀ (fu : Nat) (M : Nat → Int → Int) (k : Nat) (H : Heap) (locs : List Loc) (ls : Array Slot), (k : Int) < (fu : Int) → (k ≤ 320) → (Rg M r k N x sg) → (Fr M0 M r) → lv_has ls 5 [(0, .ref (ad 0)), (1, .int (iN (r))), (2, .int (iN (mo)))] → moW D A s.heap μ0 cs ad V M H locs → W p l e R s m args below meth c H locs 0 0 Q (F0 m 0 ls []) := by
  obtain ⟨hx, hb, hml, hown, hts⟩ := id S
  intro fu
  induction fu with
  | zero =>
    intro M k H locs ls hn hk hg hF hl hm
    exfalso; omega
  | succ fu ih =>
    intro M k H locs ls hn hk hg hF hl hm
    have e2 : M 2 r = k := hg.1
    refine lv_aload_n hx hb d_Mo_cut_0 rfl (lv_at hl 0 rfl) ?_
    refine mo_get 3 S hK hm (by decide) k469 rfl rfl d_Mo_cut_1 ?_
    refine lv_iload_n hx hb d_Mo_cut_4 rfl (lv_at hl 1 rfl) ?_
    refine mo_iald 2 S hK hm (by decide) (by simp only [moLen]; omega) d_Mo_cut_5 ?_
    refine fm_if_le (tgt := 44) S (by omega) d_Mo_cut_6 (by decide) (fun c1 => ?_) (fun c1 => ?_)
    · exact kk44 M k _ _ _ (hg.ndE (Or.inl (by omega))) (hg) (hF) (lv_sub hl [0, 1, 2] rfl) hm
    · obtain ⟨j, rfl⟩ : ∃ j : Nat, k = j + 1 := ⟨k - 1, by omega⟩
      have e3 : 320 * r + M 2 r - 1 = 320 * r + j := by omega
      refine lv_aload_n hx hb d_Mo_cut_9 rfl (lv_at hl 0 rfl) ?_
      refine mo_get 2 S hK hm (by decide) k468 rfl rfl d_Mo_cut_10 ?_
      refine fm_sipush S d_Mo_cut_13 (by decide) ?_
      refine lv_iload_n hx hb d_Mo_cut_16 rfl (lv_at hl 1 rfl) ?_
      refine fm_imul S d_Mo_cut_17 ?_
      refine lv_aload_n hx hb d_Mo_cut_18 rfl (lv_at hl 0 rfl) ?_
      refine mo_get 3 S hK hm (by decide) k469 rfl rfl d_Mo_cut_19 ?_
      refine lv_iload_n hx hb d_Mo_cut_22 rfl (lv_at hl 1 rfl) ?_
      refine mo_iald 2 S hK hm (by decide) (by simp only [moLen]; omega) d_Mo_cut_23 ?_
      refine fm_iadd S d_Mo_cut_24 ?_
      refine fm_iconst S d_Mo_cut_25 ?_
      refine fm_isub S d_Mo_cut_26 ?_
      refine mo_iald 1 S hK hm (by decide) (by simp only [moLen]; omega) d_Mo_cut_27 ?_
      have hdb : 0 ≤ M 1 (320 * r + M 2 r - 1) ∧ M 1 (320 * r + M 2 r - 1) ≤ 9 := by rw [e3]; exact hg.2.2.2.1 j (by omega) (by omega)
      refine fm_if_ne (tgt := 44) S (by omega) d_Mo_cut_28 (by decide) (fun c2 => ?_) (fun c2 => ?_)
      · exact kk44 M (j + 1) _ _ _ (hg.ndE (Or.inr (by rw [e3] at c2; rw [show 320 * r + (((j + 1 : Nat) : Int) - 1) = 320 * r + j by omega]; exact c2))) (hg) (hF) (lv_sub hl [0, 1, 2] rfl) hm
      · refine lv_aload_n hx hb d_Mo_cut_31 rfl (lv_at hl 0 rfl) ?_
        refine mo_get 3 S hK hm (by decide) k469 rfl rfl d_Mo_cut_32 ?_
        refine lv_iload_n hx hb d_Mo_cut_35 rfl (lv_at hl 1 rfl) ?_
        refine lv_dup2_11 hx hb d_Mo_cut_36 rfl rfl ?_
        refine mo_iald 2 S hK hm (by decide) (by simp only [moLen]; omega) d_Mo_cut_37 ?_
        refine fm_iconst S d_Mo_cut_38 ?_
        refine fm_isub S d_Mo_cut_39 ?_
        refine mo_iast 2 S hK hm (by decide) (by simp only [moLen]; omega) d_Mo_cut_40 (fun M3 H locs eM3 hm => ?_)
        refine lv_goto (tgt := 0) hx hb d_Mo_cut_41 (by decide) ?_
        exact ih M3 j _ _ _ (by omega) (by omega) (hg.strip (by rw [e3] at c2; exact c2) eM3 (by omega)) (hF.tr (Fr.s eM3 (by decide))) (lv_sub hl [0, 1, 2] rfl) hm

set_option maxHeartbeats 4000000 in
set_option maxRecDepth 100000 in
/-- L_cut2 -/
theorem L_cut2 {p : Program} {l : Launch} {e : Env} {s : State} {m : MethodId} {args : Array Value} {below : List Frame} {meth : Method} {c : Code} {Q : State → Prop} {D : va_G} {cs : Nat → ClassId} {Z : (Nat → Prop) → State → Heap → Prop} {ad : Nat → Nat} {μ0 : fm_Mu} {A : Nat → Prop} {R : Room} (S : CallFix p m c c_Mo_cut 5 s args wA "ArithmeticFormsModel") (hK : va_K D clsA (tysA cs) s) (hZo : fm_Zok Z) (hZ : Z A s s.heap) (hA : ∀ q, s.heap.size ≤ q → A q) (V : Nat → Int) (M0 : Nat → Int → Int) (r mo : Int) (n : Nat) (hr0 : 0 ≤ r ∧ r < 7) (hn : n ≤ 320) (hn0 : M0 2 r = n) (hd : dOk (M0 1) (320 * r) n) (kk100 : ∀ (M : Nat → Int → Int) (k : Int) (H : Heap) (locs : List Loc) (ls : Array Slot), (M = M0) → (0 ≤ k ∧ k ≤ n) → (∀ q : Int, 0 ≤ q → q < k → M0 1 (320 * r + q) = 0) → (k = n ∨ M0 1 (320 * r + k) ≠ 0) → lv_has ls 5 [(3, .int (iN (k))), (0, .ref (ad 0)), (1, .int (iN (r))), (2, .int (iN (mo)))] → moW D A s.heap μ0 cs ad V M H locs → W p l e R s m args below meth c H locs 0 0 Q (F0 m 100 ls [])) : ∀ (fu : Nat) (M : Nat → Int → Int) (k : Int) (H : Heap) (locs : List Loc) (ls : Array Slot), n - k < (fu : Int) → (M = M0) → (0 ≤ k ∧ k ≤ n) → (∀ q : Int, 0 ≤ q → q < k → M0 1 (320 * r + q) = 0) → lv_has ls 5 [(3, .int (iN (k))), (0, .ref (ad 0)), (1, .int (iN (r))), (2, .int (iN (mo)))] → moW D A s.heap μ0 cs ad V M H locs → W p l e R s m args below meth c H locs 0 0 Q (F0 m 69 ls []) := by
  obtain ⟨hx, hb, hml, hown, hts⟩ := id S
  intro fu
  induction fu with
  | zero =>
    intro M k H locs ls hn hM0 hk hz hl hm
    exfalso; omega
  | succ fu ih =>
    intro M k H locs ls hn hM0 hk hz hl hm
    have e2 : M 2 r = n := by rw [hM0]; exact hn0
    refine lv_iload_n hx hb d_Mo_cut_69 rfl (lv_at hl 0 rfl) ?_
    refine lv_aload_n hx hb d_Mo_cut_70 rfl (lv_at hl 1 rfl) ?_
    refine mo_get 3 S hK hm (by decide) k469 rfl rfl d_Mo_cut_71 ?_
    refine lv_iload_n hx hb d_Mo_cut_74 rfl (lv_at hl 2 rfl) ?_
    refine mo_iald 2 S hK hm (by decide) (by simp only [moLen]; omega) d_Mo_cut_75 ?_
    refine fm_icmp_ge (tgt := 100) S (by omega) (by omega) d_Mo_cut_76 (by decide) (fun c1 => ?_) (fun c1 => ?_)
    · exact kk100 M k _ _ _ (hM0) (hk) (hz) (Or.inl (by omega)) (lv_sub hl [0, 1, 2, 3] rfl) hm
    · refine lv_aload_n hx hb d_Mo_cut_79 rfl (lv_at hl 1 rfl) ?_
      refine mo_get 2 S hK hm (by decide) k468 rfl rfl d_Mo_cut_80 ?_
      refine fm_sipush S d_Mo_cut_83 (by decide) ?_
      refine lv_iload_n hx hb d_Mo_cut_86 rfl (lv_at hl 2 rfl) ?_
      refine fm_imul S d_Mo_cut_87 ?_
      refine lv_iload_n hx hb d_Mo_cut_88 rfl (lv_at hl 0 rfl) ?_
      refine fm_iadd S d_Mo_cut_89 ?_
      refine mo_iald 1 S hK hm (by decide) (by simp only [moLen]; omega) d_Mo_cut_90 ?_
      have hdb := hd k (by omega) (by omega)
      rw [← hM0] at hdb
      refine fm_if_ne (tgt := 100) S (by omega) d_Mo_cut_91 (by decide) (fun c2 => ?_) (fun c2 => ?_)
      · exact kk100 M k _ _ _ (hM0) (hk) (hz) (Or.inr (by rw [← hM0]; exact c2)) (lv_sub hl [0, 1, 2, 3] rfl) hm
      · refine lv_iinc (v := iN ((k + 1))) (lv' := [(3, .int (iN ((k + 1)))), (0, .ref (ad 0)), (1, .int (iN (r))), (2, .int (iN (mo)))]) hx hb d_Mo_cut_94 hl (k := 0) rfl (iN_add _ _) (by decide) rfl (fun ls hl => ?_)
        refine lv_goto (tgt := 69) hx hb d_Mo_cut_97 (by decide) ?_
        exact ih M (k + 1) _ _ _ (by omega) (hM0) (by omega) (fun q h1 h2 => by
              by_cases hq : q = k
              · rw [hq, ← hM0]; exact c2
              · exact hz q h1 (by omega)) (lv_sub hl [0, 1, 2, 3] rfl) hm

set_option maxHeartbeats 4000000 in
set_option maxRecDepth 100000 in
/-- cut(r, most) -/
theorem t_Mo_cut (l : Launch) (D : va_G) (cs : Nat → ClassId) (Z : (Nat → Prop) → State → Heap → Prop) (hZo : fm_Zok Z) (ad : Nat → Nat) (μ : fm_Mu) (V : Nat → Int) (M : Nat → Int → Int) (sz : Nat) (r : Int) (m0 : Int) (most : Nat) (n : Nat) (N : Nat) (x : Int) (sg : Int) (hM : moS cs μ ad V M) (hm0 : m0 = (most : Int)) (hmo : 1 ≤ most ∧ most ≤ 1000) (hr0 : 0 ≤ r ∧ r < 7) (hn : n ≤ 320 ∧ -1000000 ≤ x ∧ x ≤ 1000000) (hg : Rg M r n N x sg) : Met l y_Mo_cut (Cond.code y_Mo_cut c_Mo_cut 5 (some .int) :: wA) ({ frames := 1, cells := 0, slots := 0, locals := 23 }) (fm_Pc D clsA (tysA cs) Z μ sz [.ref (ad 0), .int (iN (r)), .int (iN (m0))]) (moQi D cs ad μ sz (fun z V' M' => V' = V ∧ Fr M M' r ∧ cutOk M' r most N x sg z)) 0 0 (fm_A μ sz) := by
  refine mo_of hM (by decide +kernel) (Nat.le_of_ble_eq_true rfl) (fun p e s m below meth c S hr hlocks hsz hm hK hZ hA ls hl => ?_)
  subst hsz
  obtain ⟨hx, hb, hml, hown, hts⟩ := id S
  subst hm0
  have hl : lv_has ls 5 [(0, .ref (ad 0)), (1, .int (iN (r))), (2, .int (iN ((most : Int))))] := hl
  refine L_cut1 (Z := Z) S hK hZo hZ hA V M r most x sg N hr0 (fun M1 k H locs ls hk rg0 fr0 hl hm => ?_) (n + 1) M n _ _ _ (by omega) (by omega) (hg) (Fr.rf) (lv_sub hl [0, 1, 2] rfl) hm
  subst hk
  have e2 : M1 2 r = nd N := rg0.1
  have hlt := nd_le (show N < 10 ^ n from hg.lt)
  obtain ⟨N1, hN1⟩ : ∃ y : Nat, y = N / 10 ^ (nd N - most) := ⟨_, rfl⟩
  obtain ⟨x1, hx1⟩ : ∃ y : Int, y = x + (nd N - most : Nat) := ⟨_, rfl⟩
  have hnd1 : nd N1 = nd N - (nd N - most) := by rw [hN1]; exact nd_div
  refine lv_aload_n hx hb d_Mo_cut_44 rfl (lv_at hl 0 rfl) ?_
  refine mo_get 3 S hK hm (by decide) k469 rfl rfl d_Mo_cut_45 ?_
  refine lv_iload_n hx hb d_Mo_cut_48 rfl (lv_at hl 1 rfl) ?_
  refine mo_iald 2 S hK hm (by decide) (by simp only [moLen]; omega) d_Mo_cut_49 ?_
  refine lv_iload_n hx hb d_Mo_cut_50 rfl (lv_at hl 2 rfl) ?_
  refine fm_icmp_le (tgt := 67) S (by omega) (by omega) d_Mo_cut_51 (by decide) (fun c2 => ?_) (fun c2 => ?_)
  · have hg1 : Rg M1 r (nd N1) N1 x1 sg := by
      have h0 : nd N - most = 0 := by omega
      rw [hnd1, hx1, hN1, h0]
      simpa using rg0
    have e5 : M1 2 r = nd N1 := hg1.1
    refine fm_iconst S d_Mo_cut_67 ?_
    refine lv_istore_n (lv' := [(3, .int (iN (0))), (0, .ref (ad 0)), (1, .int (iN (r))), (2, .int (iN ((most : Int))))]) hx hb d_Mo_cut_68 rfl hl (by decide) rfl (fun ls hl => ?_)
    refine L_cut2 (Z := Z) S hK hZo hZ hA V M1 r most (nd N1) hr0 (by omega) hg1.1 hg1.2.2.2.1 (fun M3 k H locs ls hMe hk hz hex hl hm => ?_) (nd N1 + 1) M1 0 _ _ _ (by omega) (rfl) (by omega) (fun q h1 h2 => by omega) (lv_sub hl [0, 1, 2, 3] rfl) hm
    rw [hMe] at hm
    have hk2 := hg1.tzE rfl hz hk hex
    refine lv_iload_n hx hb d_Mo_cut_100 rfl (lv_at hl 0 rfl) ?_
    refine fm_if_le (tgt := 110) S (by omega) d_Mo_cut_101 (by decide) (fun c4 => ?_) (fun c4 => ?_)
    · have hg2 : Rg M1 r (nd (cutC most N)) (cutC most N) (cutX most N x) sg := by
        have h0 : tz N1 = 0 := by omega
        unfold cutC cutX
        rw [← hN1, ← hx1, h0]
        simpa using hg1
      have e6 := hg2.1
      have e7 := hg2.2.1
      have e8 := cut_nd (x := x) (N := N) hmo.1
      have e9 := cut_bd N x hmo.1
      refine lv_aload_n hx hb d_Mo_cut_110 rfl (lv_at hl 1 rfl) ?_
      refine mo_get 3 S hK hm (by decide) k469 rfl rfl d_Mo_cut_111 ?_
      refine lv_iload_n hx hb d_Mo_cut_114 rfl (lv_at hl 2 rfl) ?_
      refine mo_iald 2 S hK hm (by decide) (by simp only [moLen]; omega) d_Mo_cut_115 ?_
      refine lv_aload_n hx hb d_Mo_cut_116 rfl (lv_at hl 1 rfl) ?_
      refine mo_get 4 S hK hm (by decide) k470 rfl rfl d_Mo_cut_117 ?_
      refine lv_iload_n hx hb d_Mo_cut_120 rfl (lv_at hl 2 rfl) ?_
      refine mo_iald 3 S hK hm (by decide) (by simp only [moLen]; omega) d_Mo_cut_121 ?_
      refine fm_iadd S d_Mo_cut_122 ?_
      refine fm_iconst S d_Mo_cut_123 ?_
      refine fm_isub S d_Mo_cut_124 ?_
      refine fm_topi (fun x5 hx5 => ?_)
      refine lv_istore (lv' := [(4, .int (iN (x5))), (3, .int (iN (k))), (0, .ref (ad 0)), (1, .int (iN (r))), (2, .int (iN ((most : Int))))]) hx hb d_Mo_cut_125 hl (by decide) rfl (fun ls hl => ?_)
      refine lv_aload_n hx hb d_Mo_cut_127 rfl (lv_at hl 2 rfl) ?_
      refine mo_get 3 S hK hm (by decide) k469 rfl rfl d_Mo_cut_128 ?_
      refine lv_iload_n hx hb d_Mo_cut_131 rfl (lv_at hl 3 rfl) ?_
      refine mo_iald 2 S hK hm (by decide) (by simp only [moLen]; omega) d_Mo_cut_132 ?_
      refine fm_if_eq (tgt := 143) S (by omega) d_Mo_cut_133 (by decide) (fun c6 => ?_) (fun c6 => ?_)
      · refine lv_aload_n hx hb d_Mo_cut_143 rfl (lv_at hl 2 rfl) ?_
        refine lv_iload_n hx hb d_Mo_cut_144 rfl (lv_at hl 3 rfl) ?_
        refine mo_cvS (n := 1) (As := [.int (iN (r))]) (rest := []) S hK hZo hZ hA hm (fun μ sz hM => t_Mo_zero l D cs Z hZo ad μ V M1 sz r hM (by omega)) (gV k550 k552 ks20 k6 k553) (by decide) (by decide +kernel) rfl hl.1 rfl (Nat.le_of_ble_eq_true rfl) ⟨Nat.le_of_ble_eq_true rfl, Nat.le_of_ble_eq_true rfl⟩ d_Mo_cut_145 (fun M8 H locs q7 hm => ?_)
        obtain ⟨frM8, rgM8⟩ := q7
        refine fm_iconst S d_Mo_cut_148 ?_
        refine mo_iret S hr hlocks hK hm d_Mo_cut_149 ?_
        exact ⟨rfl, (fr0).tr frM8, Or.inl ⟨by omega, rfl, rgM8⟩⟩
      · refine lv_iload hx hb d_Mo_cut_136 (lv_at hl 0 rfl) ?_
        refine fm_bipush S d_Mo_cut_138 (by decide) ?_
        refine fm_icmp_ge (tgt := 150) S (by omega) (by omega) d_Mo_cut_140 (by decide) (fun c9 => ?_) (fun c9 => ?_)
        · refine lv_iload hx hb d_Mo_cut_150 (lv_at hl 0 rfl) ?_
          refine fm_bipush S d_Mo_cut_152 (by decide) ?_
          refine fm_icmp_lt (tgt := 161) S (by omega) (by omega) d_Mo_cut_154 (by decide) (fun c10 => ?_) (fun c10 => ?_)
          · refine fm_iconst S d_Mo_cut_161 ?_
            refine mo_iret S hr hlocks hK hm d_Mo_cut_162 ?_
            exact ⟨rfl, fr0, Or.inr ⟨by omega, by omega, by split <;> omega, hg2⟩⟩
          · refine fm_iconst S d_Mo_cut_157 ?_
            refine lv_goto (tgt := 162) hx hb d_Mo_cut_158 (by decide) ?_
            refine mo_iret S hr hlocks hK hm d_Mo_cut_162 ?_
            exact ⟨rfl, fr0, Or.inr ⟨by omega, by omega, by split <;> omega, hg2⟩⟩
        · refine lv_aload_n hx hb d_Mo_cut_143 rfl (lv_at hl 2 rfl) ?_
          refine lv_iload_n hx hb d_Mo_cut_144 rfl (lv_at hl 3 rfl) ?_
          refine mo_cvS (n := 1) (As := [.int (iN (r))]) (rest := []) S hK hZo hZ hA hm (fun μ sz hM => t_Mo_zero l D cs Z hZo ad μ V M1 sz r hM (by omega)) (gV k550 k552 ks20 k6 k553) (by decide) (by decide +kernel) rfl hl.1 rfl (Nat.le_of_ble_eq_true rfl) ⟨Nat.le_of_ble_eq_true rfl, Nat.le_of_ble_eq_true rfl⟩ d_Mo_cut_145 (fun M12 H locs q11 hm => ?_)
          obtain ⟨frM12, rgM12⟩ := q11
          refine fm_iconst S d_Mo_cut_148 ?_
          refine mo_iret S hr hlocks hK hm d_Mo_cut_149 ?_
          exact ⟨rfl, (fr0).tr frM12, Or.inl ⟨by omega, rfl, rgM12⟩⟩
    · refine lv_aload_n hx hb d_Mo_cut_104 rfl (lv_at hl 1 rfl) ?_
      refine lv_iload_n hx hb d_Mo_cut_105 rfl (lv_at hl 2 rfl) ?_
      refine lv_iload_n hx hb d_Mo_cut_106 rfl (lv_at hl 0 rfl) ?_
      refine mo_cvS (n := 2) (As := [.int (iN (r)), .int (iN (k))]) (rest := []) S hK hZo hZ hA hm (fun μ sz hM => t_Mo_drop l D cs Z hZo ad μ V M1 sz r k (tz N1) (nd N1) N1 x1 sg hM (by omega) hg1 (by omega)) (gV k559 k561 ks22 k6 k562) (by decide) (by decide +kernel) rfl hl.1 rfl (Nat.le_of_ble_eq_true rfl) ⟨Nat.le_of_ble_eq_true rfl, Nat.le_of_ble_eq_true rfl⟩ d_Mo_cut_107 (fun M14 H locs q13 hm => ?_)
      obtain ⟨frM14, rgM14⟩ := q13
      have hg2 : Rg M14 r (nd (cutC most N)) (cutC most N) (cutX most N x) sg := by
        unfold cutC cutX
        rw [← hN1, ← hx1, nd_div]
        exact rgM14
      have e6 := hg2.1
      have e7 := hg2.2.1
      have e8 := cut_nd (x := x) (N := N) hmo.1
      have e9 := cut_bd N x hmo.1
      refine lv_aload_n hx hb d_Mo_cut_110 rfl (lv_at hl 1 rfl) ?_
      refine mo_get 3 S hK hm (by decide) k469 rfl rfl d_Mo_cut_111 ?_
      refine lv_iload_n hx hb d_Mo_cut_114 rfl (lv_at hl 2 rfl) ?_
      refine mo_iald 2 S hK hm (by decide) (by simp only [moLen]; omega) d_Mo_cut_115 ?_
      refine lv_aload_n hx hb d_Mo_cut_116 rfl (lv_at hl 1 rfl) ?_
      refine mo_get 4 S hK hm (by decide) k470 rfl rfl d_Mo_cut_117 ?_
      refine lv_iload_n hx hb d_Mo_cut_120 rfl (lv_at hl 2 rfl) ?_
      refine mo_iald 3 S hK hm (by decide) (by simp only [moLen]; omega) d_Mo_cut_121 ?_
      refine fm_iadd S d_Mo_cut_122 ?_
      refine fm_iconst S d_Mo_cut_123 ?_
      refine fm_isub S d_Mo_cut_124 ?_
      refine fm_topi (fun x15 hx15 => ?_)
      refine lv_istore (lv' := [(4, .int (iN (x15))), (3, .int (iN (k))), (0, .ref (ad 0)), (1, .int (iN (r))), (2, .int (iN ((most : Int))))]) hx hb d_Mo_cut_125 hl (by decide) rfl (fun ls hl => ?_)
      refine lv_aload_n hx hb d_Mo_cut_127 rfl (lv_at hl 2 rfl) ?_
      refine mo_get 3 S hK hm (by decide) k469 rfl rfl d_Mo_cut_128 ?_
      refine lv_iload_n hx hb d_Mo_cut_131 rfl (lv_at hl 3 rfl) ?_
      refine mo_iald 2 S hK hm (by decide) (by simp only [moLen]; omega) d_Mo_cut_132 ?_
      refine fm_if_eq (tgt := 143) S (by omega) d_Mo_cut_133 (by decide) (fun c16 => ?_) (fun c16 => ?_)
      · refine lv_aload_n hx hb d_Mo_cut_143 rfl (lv_at hl 2 rfl) ?_
        refine lv_iload_n hx hb d_Mo_cut_144 rfl (lv_at hl 3 rfl) ?_
        refine mo_cvS (n := 1) (As := [.int (iN (r))]) (rest := []) S hK hZo hZ hA hm (fun μ sz hM => t_Mo_zero l D cs Z hZo ad μ V M14 sz r hM (by omega)) (gV k550 k552 ks20 k6 k553) (by decide) (by decide +kernel) rfl hl.1 rfl (Nat.le_of_ble_eq_true rfl) ⟨Nat.le_of_ble_eq_true rfl, Nat.le_of_ble_eq_true rfl⟩ d_Mo_cut_145 (fun M18 H locs q17 hm => ?_)
        obtain ⟨frM18, rgM18⟩ := q17
        refine fm_iconst S d_Mo_cut_148 ?_
        refine mo_iret S hr hlocks hK hm d_Mo_cut_149 ?_
        exact ⟨rfl, ((fr0).tr frM14).tr frM18, Or.inl ⟨by omega, rfl, rgM18⟩⟩
      · refine lv_iload hx hb d_Mo_cut_136 (lv_at hl 0 rfl) ?_
        refine fm_bipush S d_Mo_cut_138 (by decide) ?_
        refine fm_icmp_ge (tgt := 150) S (by omega) (by omega) d_Mo_cut_140 (by decide) (fun c19 => ?_) (fun c19 => ?_)
        · refine lv_iload hx hb d_Mo_cut_150 (lv_at hl 0 rfl) ?_
          refine fm_bipush S d_Mo_cut_152 (by decide) ?_
          refine fm_icmp_lt (tgt := 161) S (by omega) (by omega) d_Mo_cut_154 (by decide) (fun c20 => ?_) (fun c20 => ?_)
          · refine fm_iconst S d_Mo_cut_161 ?_
            refine mo_iret S hr hlocks hK hm d_Mo_cut_162 ?_
            exact ⟨rfl, (fr0).tr frM14, Or.inr ⟨by omega, by omega, by split <;> omega, hg2⟩⟩
          · refine fm_iconst S d_Mo_cut_157 ?_
            refine lv_goto (tgt := 162) hx hb d_Mo_cut_158 (by decide) ?_
            refine mo_iret S hr hlocks hK hm d_Mo_cut_162 ?_
            exact ⟨rfl, (fr0).tr frM14, Or.inr ⟨by omega, by omega, by split <;> omega, hg2⟩⟩
        · refine lv_aload_n hx hb d_Mo_cut_143 rfl (lv_at hl 2 rfl) ?_
          refine lv_iload_n hx hb d_Mo_cut_144 rfl (lv_at hl 3 rfl) ?_
          refine mo_cvS (n := 1) (As := [.int (iN (r))]) (rest := []) S hK hZo hZ hA hm (fun μ sz hM => t_Mo_zero l D cs Z hZo ad μ V M14 sz r hM (by omega)) (gV k550 k552 ks20 k6 k553) (by decide) (by decide +kernel) rfl hl.1 rfl (Nat.le_of_ble_eq_true rfl) ⟨Nat.le_of_ble_eq_true rfl, Nat.le_of_ble_eq_true rfl⟩ d_Mo_cut_145 (fun M22 H locs q21 hm => ?_)
          obtain ⟨frM22, rgM22⟩ := q21
          refine fm_iconst S d_Mo_cut_148 ?_
          refine mo_iret S hr hlocks hK hm d_Mo_cut_149 ?_
          exact ⟨rfl, ((fr0).tr frM14).tr frM22, Or.inl ⟨by omega, rfl, rgM22⟩⟩
  · refine lv_aload_n hx hb d_Mo_cut_54 rfl (lv_at hl 0 rfl) ?_
    refine lv_iload_n hx hb d_Mo_cut_55 rfl (lv_at hl 1 rfl) ?_
    refine lv_aload_n hx hb d_Mo_cut_56 rfl (lv_at hl 0 rfl) ?_
    refine mo_get 3 S hK hm (by decide) k469 rfl rfl d_Mo_cut_57 ?_
    refine lv_iload_n hx hb d_Mo_cut_60 rfl (lv_at hl 1 rfl) ?_
    refine mo_iald 2 S hK hm (by decide) (by simp only [moLen]; omega) d_Mo_cut_61 ?_
    refine lv_iload_n hx hb d_Mo_cut_62 rfl (lv_at hl 2 rfl) ?_
    refine fm_isub S d_Mo_cut_63 ?_
    refine mo_cvS (n := 2) (As := [.int (iN (r)), .int (iN (((M1 2 r) - (most : Int))))]) (rest := []) S hK hZo hZ hA hm (fun μ sz hM => t_Mo_drop l D cs Z hZo ad μ V M1 sz r ((M1 2 r) - (most : Int)) (nd N - most) (nd N) N x sg hM (by omega) rg0 (by omega)) (gV k559 k561 ks22 k6 k562) (by decide) (by decide +kernel) rfl hl.1 rfl (Nat.le_of_ble_eq_true rfl) ⟨Nat.le_of_ble_eq_true rfl, Nat.le_of_ble_eq_true rfl⟩ d_Mo_cut_64 (fun M24 H locs q23 hm => ?_)
    obtain ⟨frM24, rgM24⟩ := q23
    have hg1 : Rg M24 r (nd N1) N1 x1 sg := by
      rw [hnd1, hx1, hN1]
      exact rgM24
    have e5 : M24 2 r = nd N1 := hg1.1
    refine fm_iconst S d_Mo_cut_67 ?_
    refine lv_istore_n (lv' := [(3, .int (iN (0))), (0, .ref (ad 0)), (1, .int (iN (r))), (2, .int (iN ((most : Int))))]) hx hb d_Mo_cut_68 rfl hl (by decide) rfl (fun ls hl => ?_)
    refine L_cut2 (Z := Z) S hK hZo hZ hA V M24 r most (nd N1) hr0 (by omega) hg1.1 hg1.2.2.2.1 (fun M25 k H locs ls hMe hk hz hex hl hm => ?_) (nd N1 + 1) M24 0 _ _ _ (by omega) (rfl) (by omega) (fun q h1 h2 => by omega) (lv_sub hl [0, 1, 2, 3] rfl) hm
    rw [hMe] at hm
    have hk2 := hg1.tzE rfl hz hk hex
    refine lv_iload_n hx hb d_Mo_cut_100 rfl (lv_at hl 0 rfl) ?_
    refine fm_if_le (tgt := 110) S (by omega) d_Mo_cut_101 (by decide) (fun c26 => ?_) (fun c26 => ?_)
    · have hg2 : Rg M24 r (nd (cutC most N)) (cutC most N) (cutX most N x) sg := by
        have h0 : tz N1 = 0 := by omega
        unfold cutC cutX
        rw [← hN1, ← hx1, h0]
        simpa using hg1
      have e6 := hg2.1
      have e7 := hg2.2.1
      have e8 := cut_nd (x := x) (N := N) hmo.1
      have e9 := cut_bd N x hmo.1
      refine lv_aload_n hx hb d_Mo_cut_110 rfl (lv_at hl 1 rfl) ?_
      refine mo_get 3 S hK hm (by decide) k469 rfl rfl d_Mo_cut_111 ?_
      refine lv_iload_n hx hb d_Mo_cut_114 rfl (lv_at hl 2 rfl) ?_
      refine mo_iald 2 S hK hm (by decide) (by simp only [moLen]; omega) d_Mo_cut_115 ?_
      refine lv_aload_n hx hb d_Mo_cut_116 rfl (lv_at hl 1 rfl) ?_
      refine mo_get 4 S hK hm (by decide) k470 rfl rfl d_Mo_cut_117 ?_
      refine lv_iload_n hx hb d_Mo_cut_120 rfl (lv_at hl 2 rfl) ?_
      refine mo_iald 3 S hK hm (by decide) (by simp only [moLen]; omega) d_Mo_cut_121 ?_
      refine fm_iadd S d_Mo_cut_122 ?_
      refine fm_iconst S d_Mo_cut_123 ?_
      refine fm_isub S d_Mo_cut_124 ?_
      refine fm_topi (fun x27 hx27 => ?_)
      refine lv_istore (lv' := [(4, .int (iN (x27))), (3, .int (iN (k))), (0, .ref (ad 0)), (1, .int (iN (r))), (2, .int (iN ((most : Int))))]) hx hb d_Mo_cut_125 hl (by decide) rfl (fun ls hl => ?_)
      refine lv_aload_n hx hb d_Mo_cut_127 rfl (lv_at hl 2 rfl) ?_
      refine mo_get 3 S hK hm (by decide) k469 rfl rfl d_Mo_cut_128 ?_
      refine lv_iload_n hx hb d_Mo_cut_131 rfl (lv_at hl 3 rfl) ?_
      refine mo_iald 2 S hK hm (by decide) (by simp only [moLen]; omega) d_Mo_cut_132 ?_
      refine fm_if_eq (tgt := 143) S (by omega) d_Mo_cut_133 (by decide) (fun c28 => ?_) (fun c28 => ?_)
      · refine lv_aload_n hx hb d_Mo_cut_143 rfl (lv_at hl 2 rfl) ?_
        refine lv_iload_n hx hb d_Mo_cut_144 rfl (lv_at hl 3 rfl) ?_
        refine mo_cvS (n := 1) (As := [.int (iN (r))]) (rest := []) S hK hZo hZ hA hm (fun μ sz hM => t_Mo_zero l D cs Z hZo ad μ V M24 sz r hM (by omega)) (gV k550 k552 ks20 k6 k553) (by decide) (by decide +kernel) rfl hl.1 rfl (Nat.le_of_ble_eq_true rfl) ⟨Nat.le_of_ble_eq_true rfl, Nat.le_of_ble_eq_true rfl⟩ d_Mo_cut_145 (fun M30 H locs q29 hm => ?_)
        obtain ⟨frM30, rgM30⟩ := q29
        refine fm_iconst S d_Mo_cut_148 ?_
        refine mo_iret S hr hlocks hK hm d_Mo_cut_149 ?_
        exact ⟨rfl, (fr0.tr frM24).tr frM30, Or.inl ⟨by omega, rfl, rgM30⟩⟩
      · refine lv_iload hx hb d_Mo_cut_136 (lv_at hl 0 rfl) ?_
        refine fm_bipush S d_Mo_cut_138 (by decide) ?_
        refine fm_icmp_ge (tgt := 150) S (by omega) (by omega) d_Mo_cut_140 (by decide) (fun c31 => ?_) (fun c31 => ?_)
        · refine lv_iload hx hb d_Mo_cut_150 (lv_at hl 0 rfl) ?_
          refine fm_bipush S d_Mo_cut_152 (by decide) ?_
          refine fm_icmp_lt (tgt := 161) S (by omega) (by omega) d_Mo_cut_154 (by decide) (fun c32 => ?_) (fun c32 => ?_)
          · refine fm_iconst S d_Mo_cut_161 ?_
            refine mo_iret S hr hlocks hK hm d_Mo_cut_162 ?_
            exact ⟨rfl, fr0.tr frM24, Or.inr ⟨by omega, by omega, by split <;> omega, hg2⟩⟩
          · refine fm_iconst S d_Mo_cut_157 ?_
            refine lv_goto (tgt := 162) hx hb d_Mo_cut_158 (by decide) ?_
            refine mo_iret S hr hlocks hK hm d_Mo_cut_162 ?_
            exact ⟨rfl, fr0.tr frM24, Or.inr ⟨by omega, by omega, by split <;> omega, hg2⟩⟩
        · refine lv_aload_n hx hb d_Mo_cut_143 rfl (lv_at hl 2 rfl) ?_
          refine lv_iload_n hx hb d_Mo_cut_144 rfl (lv_at hl 3 rfl) ?_
          refine mo_cvS (n := 1) (As := [.int (iN (r))]) (rest := []) S hK hZo hZ hA hm (fun μ sz hM => t_Mo_zero l D cs Z hZo ad μ V M24 sz r hM (by omega)) (gV k550 k552 ks20 k6 k553) (by decide) (by decide +kernel) rfl hl.1 rfl (Nat.le_of_ble_eq_true rfl) ⟨Nat.le_of_ble_eq_true rfl, Nat.le_of_ble_eq_true rfl⟩ d_Mo_cut_145 (fun M34 H locs q33 hm => ?_)
          obtain ⟨frM34, rgM34⟩ := q33
          refine fm_iconst S d_Mo_cut_148 ?_
          refine mo_iret S hr hlocks hK hm d_Mo_cut_149 ?_
          exact ⟨rfl, (fr0.tr frM24).tr frM34, Or.inl ⟨by omega, rfl, rgM34⟩⟩
    · refine lv_aload_n hx hb d_Mo_cut_104 rfl (lv_at hl 1 rfl) ?_
      refine lv_iload_n hx hb d_Mo_cut_105 rfl (lv_at hl 2 rfl) ?_
      refine lv_iload_n hx hb d_Mo_cut_106 rfl (lv_at hl 0 rfl) ?_
      refine mo_cvS (n := 2) (As := [.int (iN (r)), .int (iN (k))]) (rest := []) S hK hZo hZ hA hm (fun μ sz hM => t_Mo_drop l D cs Z hZo ad μ V M24 sz r k (tz N1) (nd N1) N1 x1 sg hM (by omega) hg1 (by omega)) (gV k559 k561 ks22 k6 k562) (by decide) (by decide +kernel) rfl hl.1 rfl (Nat.le_of_ble_eq_true rfl) ⟨Nat.le_of_ble_eq_true rfl, Nat.le_of_ble_eq_true rfl⟩ d_Mo_cut_107 (fun M36 H locs q35 hm => ?_)
      obtain ⟨frM36, rgM36⟩ := q35
      have hg2 : Rg M36 r (nd (cutC most N)) (cutC most N) (cutX most N x) sg := by
        unfold cutC cutX
        rw [← hN1, ← hx1, nd_div]
        exact rgM36
      have e6 := hg2.1
      have e7 := hg2.2.1
      have e8 := cut_nd (x := x) (N := N) hmo.1
      have e9 := cut_bd N x hmo.1
      refine lv_aload_n hx hb d_Mo_cut_110 rfl (lv_at hl 1 rfl) ?_
      refine mo_get 3 S hK hm (by decide) k469 rfl rfl d_Mo_cut_111 ?_
      refine lv_iload_n hx hb d_Mo_cut_114 rfl (lv_at hl 2 rfl) ?_
      refine mo_iald 2 S hK hm (by decide) (by simp only [moLen]; omega) d_Mo_cut_115 ?_
      refine lv_aload_n hx hb d_Mo_cut_116 rfl (lv_at hl 1 rfl) ?_
      refine mo_get 4 S hK hm (by decide) k470 rfl rfl d_Mo_cut_117 ?_
      refine lv_iload_n hx hb d_Mo_cut_120 rfl (lv_at hl 2 rfl) ?_
      refine mo_iald 3 S hK hm (by decide) (by simp only [moLen]; omega) d_Mo_cut_121 ?_
      refine fm_iadd S d_Mo_cut_122 ?_
      refine fm_iconst S d_Mo_cut_123 ?_
      refine fm_isub S d_Mo_cut_124 ?_
      refine fm_topi (fun x37 hx37 => ?_)
      refine lv_istore (lv' := [(4, .int (iN (x37))), (3, .int (iN (k))), (0, .ref (ad 0)), (1, .int (iN (r))), (2, .int (iN ((most : Int))))]) hx hb d_Mo_cut_125 hl (by decide) rfl (fun ls hl => ?_)
      refine lv_aload_n hx hb d_Mo_cut_127 rfl (lv_at hl 2 rfl) ?_
      refine mo_get 3 S hK hm (by decide) k469 rfl rfl d_Mo_cut_128 ?_
      refine lv_iload_n hx hb d_Mo_cut_131 rfl (lv_at hl 3 rfl) ?_
      refine mo_iald 2 S hK hm (by decide) (by simp only [moLen]; omega) d_Mo_cut_132 ?_
      refine fm_if_eq (tgt := 143) S (by omega) d_Mo_cut_133 (by decide) (fun c38 => ?_) (fun c38 => ?_)
      · refine lv_aload_n hx hb d_Mo_cut_143 rfl (lv_at hl 2 rfl) ?_
        refine lv_iload_n hx hb d_Mo_cut_144 rfl (lv_at hl 3 rfl) ?_
        refine mo_cvS (n := 1) (As := [.int (iN (r))]) (rest := []) S hK hZo hZ hA hm (fun μ sz hM => t_Mo_zero l D cs Z hZo ad μ V M36 sz r hM (by omega)) (gV k550 k552 ks20 k6 k553) (by decide) (by decide +kernel) rfl hl.1 rfl (Nat.le_of_ble_eq_true rfl) ⟨Nat.le_of_ble_eq_true rfl, Nat.le_of_ble_eq_true rfl⟩ d_Mo_cut_145 (fun M40 H locs q39 hm => ?_)
        obtain ⟨frM40, rgM40⟩ := q39
        refine fm_iconst S d_Mo_cut_148 ?_
        refine mo_iret S hr hlocks hK hm d_Mo_cut_149 ?_
        exact ⟨rfl, ((fr0.tr frM24).tr frM36).tr frM40, Or.inl ⟨by omega, rfl, rgM40⟩⟩
      · refine lv_iload hx hb d_Mo_cut_136 (lv_at hl 0 rfl) ?_
        refine fm_bipush S d_Mo_cut_138 (by decide) ?_
        refine fm_icmp_ge (tgt := 150) S (by omega) (by omega) d_Mo_cut_140 (by decide) (fun c41 => ?_) (fun c41 => ?_)
        · refine lv_iload hx hb d_Mo_cut_150 (lv_at hl 0 rfl) ?_
          refine fm_bipush S d_Mo_cut_152 (by decide) ?_
          refine fm_icmp_lt (tgt := 161) S (by omega) (by omega) d_Mo_cut_154 (by decide) (fun c42 => ?_) (fun c42 => ?_)
          · refine fm_iconst S d_Mo_cut_161 ?_
            refine mo_iret S hr hlocks hK hm d_Mo_cut_162 ?_
            exact ⟨rfl, (fr0.tr frM24).tr frM36, Or.inr ⟨by omega, by omega, by split <;> omega, hg2⟩⟩
          · refine fm_iconst S d_Mo_cut_157 ?_
            refine lv_goto (tgt := 162) hx hb d_Mo_cut_158 (by decide) ?_
            refine mo_iret S hr hlocks hK hm d_Mo_cut_162 ?_
            exact ⟨rfl, (fr0.tr frM24).tr frM36, Or.inr ⟨by omega, by omega, by split <;> omega, hg2⟩⟩
        · refine lv_aload_n hx hb d_Mo_cut_143 rfl (lv_at hl 2 rfl) ?_
          refine lv_iload_n hx hb d_Mo_cut_144 rfl (lv_at hl 3 rfl) ?_
          refine mo_cvS (n := 1) (As := [.int (iN (r))]) (rest := []) S hK hZo hZ hA hm (fun μ sz hM => t_Mo_zero l D cs Z hZo ad μ V M36 sz r hM (by omega)) (gV k550 k552 ks20 k6 k553) (by decide) (by decide +kernel) rfl hl.1 rfl (Nat.le_of_ble_eq_true rfl) ⟨Nat.le_of_ble_eq_true rfl, Nat.le_of_ble_eq_true rfl⟩ d_Mo_cut_145 (fun M44 H locs q43 hm => ?_)
          obtain ⟨frM44, rgM44⟩ := q43
          refine fm_iconst S d_Mo_cut_148 ?_
          refine mo_iret S hr hlocks hK hm d_Mo_cut_149 ?_
          exact ⟨rfl, ((fr0.tr frM24).tr frM36).tr frM44, Or.inl ⟨by omega, rfl, rgM44⟩⟩
