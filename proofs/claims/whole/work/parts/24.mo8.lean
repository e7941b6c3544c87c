set_option maxHeartbeats 4000000 in
set_option maxRecDepth 100000 in
/-- L_load -/
theorem L_load {p : Program} {l : Launch} {e : Env} {s : State} {m : MethodId} {args : Array Value} {below : List Frame} {meth : Method} {c : Code} {Q : State → Prop} {D : va_G} {cs : Nat → ClassId} {Z : (Nat → Prop) → State → Heap → Prop} {ad : Nat → Nat} {μ0 : fm_Mu} {A : Nat → Prop} {R : Room} (S : CallFix p m c c_Mo_load 4 s args wA "ArithmeticFormsModel") (hK : va_K D clsA (tysA cs) s) (hZo : fm_Zok Z) (hZ : Z A s s.heap) (hA : ∀ q, s.heap.size ≤ q → A q) (V : Nat → Int) (M0 : Nat → Int → Int) (n r code v : Int) (hnr : 1 ≤ n ∧ n ≤ 100 ∧ 0 ≤ r ∧ r < 7 ∧ nd (cN v) ≤ 31) (hg : Nv M0 n code v) (kk41 : ∀ (M : Nat → Int → Int) (k : Int) (H : Heap) (locs : List Loc) (ls : Array Slot), (k = nd (cN v)) → (LdI M0 M n r k) → lv_has ls 4 [(3, .int (iN (k))), (0, .ref (ad 0)), (1, .int (iN (n))), (2, .int (iN (r)))] → moW D A s.heap μ0 cs ad V M H locs → W p l e R s m args below meth c H locs 0 0 Q (F0 m 41 ls [])) : ∀ (fu : Nat) (M : Nat → Int → Int) (k : Int) (H : Heap) (locs : List Loc) (ls : Array Slot), nd (cN v) - k < (fu : Int) → (0 ≤ k ∧ k ≤ nd (cN v)) → (LdI M0 M n r k) → lv_has ls 4 [(3, .int (iN (k))), (0, .ref (ad 0)), (1, .int (iN (n))), (2, .int (iN (r)))] → moW D A s.heap μ0 cs ad V M H locs → W p l e R s m args below meth c H locs 0 0 Q (F0 m 2 ls []) := by
  obtain ⟨hx, hb, hml, hown, hts⟩ := id S
  intro fu
  induction fu with
  | zero =>
    intro M k H locs ls hn hk hc hl hm
    exfalso; omega
  | succ fu ih =>
    intro M k H locs ls hn hk hc hl hm
    have e7 : M 7 n = nd (cN v) := by rw [hc.1.1 7 (by decide)]; exact hg.2.1
    refine lv_iload_n hx hb d_Mo_load_2 rfl (lv_at hl 0 rfl) ?_
    refine lv_aload_n hx hb d_Mo_load_3 rfl (lv_at hl 1 rfl) ?_
    refine mo_get 8 S hK hm (by decide) k474 rfl rfl d_Mo_load_4 ?_
    refine lv_iload_n hx hb d_Mo_load_7 rfl (lv_at hl 2 rfl) ?_
    refine mo_iald 7 S hK hm (by decide) (by simp only [moLen]; omega) d_Mo_load_8 ?_
    refine fm_icmp_ge (tgt := 41) S (by omega) (by omega) d_Mo_load_9 (by decide) (fun c1 => ?_) (fun c1 => ?_)
    · exact kk41 M k _ _ _ (by omega) (hc) (lv_sub hl [0, 1, 2, 3] rfl) hm
    · refine lv_aload_n hx hb d_Mo_load_12 rfl (lv_at hl 1 rfl) ?_
      refine mo_get 2 S hK hm (by decide) k468 rfl rfl d_Mo_load_13 ?_
      refine fm_sipush S d_Mo_load_16 (by decide) ?_
      refine lv_iload_n hx hb d_Mo_load_19 rfl (lv_at hl 3 rfl) ?_
      refine fm_imul S d_Mo_load_20 ?_
      refine lv_iload_n hx hb d_Mo_load_21 rfl (lv_at hl 0 rfl) ?_
      refine fm_iadd S d_Mo_load_22 ?_
      refine lv_aload_n hx hb d_Mo_load_23 rfl (lv_at hl 1 rfl) ?_
      refine mo_get 7 S hK hm (by decide) k473 rfl rfl d_Mo_load_24 ?_
      refine fm_bipush S d_Mo_load_27 (by decide) ?_
      refine lv_iload_n hx hb d_Mo_load_29 rfl (lv_at hl 2 rfl) ?_
      refine fm_imul S d_Mo_load_30 ?_
      refine lv_iload_n hx hb d_Mo_load_31 rfl (lv_at hl 0 rfl) ?_
      refine fm_iadd S d_Mo_load_32 ?_
      refine mo_iald 6 S hK hm (by decide) (by simp only [moLen]; omega) d_Mo_load_33 ?_
      refine mo_iast 1 S hK hm (by decide) (by simp only [moLen]; omega) d_Mo_load_34 (fun M2 H locs eM2 hm => ?_)
      refine lv_iinc (v := iN ((k + 1))) (lv' := [(3, .int (iN ((k + 1)))), (0, .ref (ad 0)), (1, .int (iN (n))), (2, .int (iN (r)))]) hx hb d_Mo_load_35 hl (k := 0) rfl (iN_add _ _) (by decide) rfl (fun ls hl => ?_)
      refine lv_goto (tgt := 2) hx hb d_Mo_load_38 (by decide) ?_
      exact ih M2 (k + 1) _ _ _ (by omega) (by omega) (hc.step (by omega) eM2) (lv_sub hl [0, 1, 2, 3] rfl) hm

set_option maxHeartbeats 4000000 in
set_option maxRecDepth 100000 in
/-- load(n, r) -/
theorem t_Mo_load (l : Launch) (D : va_G) (cs : Nat → ClassId) (Z : (Nat → Prop) → State → Heap → Prop) (hZo : fm_Zok Z) (ad : Nat → Nat) (μ : fm_Mu) (V : Nat → Int) (M : Nat → Int → Int) (sz : Nat) (n : Int) (r : Int) (code : Int) (v : Int) (hM : moS cs μ ad V M) (hnr : 1 ≤ n ∧ n ≤ 100 ∧ 0 ≤ r ∧ r < 7 ∧ nd (cN v) ≤ 31) (hg : Nv M n code v) : Met l y_Mo_load (Cond.code y_Mo_load c_Mo_load 4 none :: wA) ({ frames := 0, cells := 0, slots := 0, locals := 0 }) (fm_Pc D clsA (tysA cs) Z μ sz [.ref (ad 0), .int (iN (n)), .int (iN (r))]) (moQv D cs ad μ sz (fun V' M' => V' = V ∧ Fr M M' r ∧ Rv M' r v)) 0 0 (fm_A μ sz) := by
  refine mo_of hM (by decide +kernel) (Nat.le_of_ble_eq_true rfl) (fun p e s m below meth c S hr hlocks hsz hm hK hZ hA ls hl => ?_)
  subst hsz
  obtain ⟨hx, hb, hml, hown, hts⟩ := id S
  have hl : lv_has ls 4 [(0, .ref (ad 0)), (1, .int (iN (n))), (2, .int (iN (r)))] := hl
  refine fm_iconst S d_Mo_load_0 ?_
  refine lv_istore_n (lv' := [(3, .int (iN (0))), (0, .ref (ad 0)), (1, .int (iN (n))), (2, .int (iN (r)))]) hx hb d_Mo_load_1 rfl hl (by decide) rfl (fun ls hl => ?_)
  refine L_load (Z := Z) S hK hZo hZ hA V M n r code v hnr hg (fun M1 k H locs ls hk hc hl hm => ?_) (nd (cN v) + 1) M 0 _ _ _ (by omega) (by omega) (LdI.start M n r) (lv_sub hl [0, 1, 2, 3] rfl) hm
  refine lv_aload_n hx hb d_Mo_load_41 rfl (lv_at hl 1 rfl) ?_
  refine mo_get 3 S hK hm (by decide) k469 rfl rfl d_Mo_load_42 ?_
  refine lv_iload_n hx hb d_Mo_load_45 rfl (lv_at hl 3 rfl) ?_
  refine lv_aload_n hx hb d_Mo_load_46 rfl (lv_at hl 1 rfl) ?_
  refine mo_get 8 S hK hm (by decide) k474 rfl rfl d_Mo_load_47 ?_
  refine lv_iload_n hx hb d_Mo_load_50 rfl (lv_at hl 2 rfl) ?_
  refine mo_iald 7 S hK hm (by decide) (by simp only [moLen]; omega) d_Mo_load_51 ?_
  refine mo_iast 2 S hK hm (by decide) (by simp only [moLen]; omega) d_Mo_load_52 (fun M2 H locs eM2 hm => ?_)
  refine lv_aload_n hx hb d_Mo_load_53 rfl (lv_at hl 1 rfl) ?_
  refine mo_get 4 S hK hm (by decide) k470 rfl rfl d_Mo_load_54 ?_
  refine lv_iload_n hx hb d_Mo_load_57 rfl (lv_at hl 3 rfl) ?_
  refine lv_aload_n hx hb d_Mo_load_58 rfl (lv_at hl 1 rfl) ?_
  refine mo_get 9 S hK hm (by decide) k475 rfl rfl d_Mo_load_59 ?_
  refine lv_iload_n hx hb d_Mo_load_62 rfl (lv_at hl 2 rfl) ?_
  refine mo_iald 8 S hK hm (by decide) (by simp only [moLen]; omega) d_Mo_load_63 ?_
  refine mo_iast 3 S hK hm (by decide) (by simp only [moLen]; omega) d_Mo_load_64 (fun M3 H locs eM3 hm => ?_)
  refine lv_aload_n hx hb d_Mo_load_65 rfl (lv_at hl 1 rfl) ?_
  refine mo_get 5 S hK hm (by decide) k471 rfl rfl d_Mo_load_66 ?_
  refine lv_iload_n hx hb d_Mo_load_69 rfl (lv_at hl 3 rfl) ?_
  refine lv_aload_n hx hb d_Mo_load_70 rfl (lv_at hl 1 rfl) ?_
  refine mo_get 10 S hK hm (by decide) k476 rfl rfl d_Mo_load_71 ?_
  refine lv_iload_n hx hb d_Mo_load_74 rfl (lv_at hl 2 rfl) ?_
  refine mo_iald 9 S hK hm (by decide) (by simp only [moLen]; omega) d_Mo_load_75 ?_
  refine mo_iast 4 S hK hm (by decide) (by simp only [moLen]; omega) d_Mo_load_76 (fun M4 H locs eM4 hm => ?_)
  refine mo_vret S hr hlocks hK hm d_Mo_load_77 ?_
  subst hk
  exact ⟨rfl, hc.fin hg eM2 eM3 eM4⟩

set_option maxHeartbeats 4000000 in
set_option maxRecDepth 100000 in
/-- L_kept -/
theorem L_kept {p : Program} {l : Launch} {e : Env} {s : State} {m : MethodId} {args : Array Value} {below : List Frame} {meth : Method} {c : Code} {Q : State → Prop} {D : va_G} {cs : Nat → ClassId} {Z : (Nat → Prop) → State → Heap → Prop} {ad : Nat → Nat} {μ0 : fm_Mu} {A : Nat → Prop} {R : Room} (S : CallFix p m c c_Mo_kept 3 s args wA "ArithmeticFormsModel") (hK : va_K D clsA (tysA cs) s) (hZo : fm_Zok Z) (hZ : Z A s s.heap) (hA : ∀ q, s.heap.size ≤ q → A q) (V : Nat → Int) (M0 : Nat → Int → Int) (n bad v : Int) (hn1 : 1 ≤ n ∧ n ≤ 100 ∧ nd (cN v) ≤ 31 ∧ V 12 = n) (hz2 : M0 2 2 = nd (cN v)) (kk71 : ∀ (M : Nat → Int → Int) (k : Int) (H : Heap) (locs : List Loc) (ls : Array Slot), (k = nd (cN v)) → (KpI M0 M n k) → lv_has ls 3 [(2, .int (iN (k))), (0, .ref (ad 0)), (1, .int (iN (bad)))] → moW D A s.heap μ0 cs ad V M H locs → W p l e R s m args below meth c H locs 0 0 Q (F0 m 71 ls [])) : ∀ (fu : Nat) (M : Nat → Int → Int) (k : Int) (H : Heap) (locs : List Loc) (ls : Array Slot), nd (cN v) - k < (fu : Int) → (0 ≤ k ∧ k ≤ nd (cN v)) → (KpI M0 M n k) → lv_has ls 3 [(2, .int (iN (k))), (0, .ref (ad 0)), (1, .int (iN (bad)))] → moW D A s.heap μ0 cs ad V M H locs → W p l e R s m args below meth c H locs 0 0 Q (F0 m 31 ls []) := by
  obtain ⟨hx, hb, hml, hown, hts⟩ := id S
  intro fu
  induction fu with
  | zero =>
    intro M k H locs ls hn hk hc hl hm
    exfalso; omega
  | succ fu ih =>
    intro M k H locs ls hn hk hc hl hm
    have e22 : M 2 2 = nd (cN v) := by rw [hc.1 2 (by decide)]; exact hz2
    refine lv_iload_n hx hb d_Mo_kept_31 rfl (lv_at hl 0 rfl) ?_
    refine lv_aload_n hx hb d_Mo_kept_32 rfl (lv_at hl 1 rfl) ?_
    refine mo_get 3 S hK hm (by decide) k469 rfl rfl d_Mo_kept_33 ?_
    refine fm_iconst S d_Mo_kept_36 ?_
    refine mo_iald 2 S hK hm (by decide) (by simp only [moLen]; omega) d_Mo_kept_37 ?_
    refine fm_icmp_ge (tgt := 71) S (by omega) (by omega) d_Mo_kept_38 (by decide) (fun c1 => ?_) (fun c1 => ?_)
    · exact kk71 M k _ _ _ (by omega) (hc) (lv_sub hl [0, 1, 2] rfl) hm
    · refine lv_aload_n hx hb d_Mo_kept_41 rfl (lv_at hl 1 rfl) ?_
      refine mo_get 7 S hK hm (by decide) k473 rfl rfl d_Mo_kept_42 ?_
      refine fm_bipush S d_Mo_kept_45 (by decide) ?_
      refine lv_aload_n hx hb d_Mo_kept_47 rfl (lv_at hl 1 rfl) ?_
      refine mo_get 12 S hK hm (by decide) k478 rfl rfl d_Mo_kept_48 ?_
      refine fm_imul S d_Mo_kept_51 ?_
      refine lv_iload_n hx hb d_Mo_kept_52 rfl (lv_at hl 0 rfl) ?_
      refine fm_iadd S d_Mo_kept_53 ?_
      refine lv_aload_n hx hb d_Mo_kept_54 rfl (lv_at hl 1 rfl) ?_
      refine mo_get 2 S hK hm (by decide) k468 rfl rfl d_Mo_kept_55 ?_
      refine fm_sipush S d_Mo_kept_58 (by decide) ?_
      refine lv_iload_n hx hb d_Mo_kept_61 rfl (lv_at hl 0 rfl) ?_
      refine fm_iadd S d_Mo_kept_62 ?_
      refine mo_iald 1 S hK hm (by decide) (by simp only [moLen]; omega) d_Mo_kept_63 ?_
      refine mo_iast 6 S hK hm (by decide) (by simp only [moLen]; omega) d_Mo_kept_64 (fun M2 H locs eM2 hm => ?_)
      refine lv_iinc (v := iN ((k + 1))) (lv' := [(2, .int (iN ((k + 1)))), (0, .ref (ad 0)), (1, .int (iN (bad)))]) hx hb d_Mo_kept_65 hl (k := 0) rfl (iN_add _ _) (by decide) rfl (fun ls hl => ?_)
      refine lv_goto (tgt := 31) hx hb d_Mo_kept_68 (by decide) ?_
      exact ih M2 (k + 1) _ _ _ (by omega) (by omega) (hc.step (by omega) (by rw [eM2, hn1.2.2.2])) (lv_sub hl [0, 1, 2] rfl) hm

set_option maxHeartbeats 4000000 in
set_option maxRecDepth 100000 in
/-- kept(bad) -/
theorem t_Mo_kept (l : Launch) (D : va_G) (cs : Nat → ClassId) (Z : (Nat → Prop) → State → Heap → Prop) (hZo : fm_Zok Z) (ad : Nat → Nat) (μ : fm_Mu) (V : Nat → Int) (M : Nat → Int → Int) (sz : Nat) (bad : Int) (v : Int) (hM : moS cs μ ad V M) (hbad : 0 ≤ bad ∧ bad ≤ 3) (hC : bad = 0 → Rv M 2 v) (hvv : vB v) (hcn : 0 ≤ V 12 ∧ V 12 < 100) (hz : M 7 (V 12 + 1) = 0 ∧ M 8 (V 12 + 1) = 0 ∧ M 9 (V 12 + 1) = 0) : Met l y_Mo_kept (Cond.code y_Mo_kept c_Mo_kept 3 (some .int) :: wA) ({ frames := 0, cells := 0, slots := 0, locals := 0 }) (fm_Pc D clsA (tysA cs) Z μ sz [.ref (ad 0), .int (iN (bad))]) (moQi D cs ad μ sz (fun z V' M' => z = V 12 + 1 ∧ V' = uF V 12 (V 12 + 1) ∧ FrN M M' (V 12 + 1) ∧ ((bad = 0 ∧ Nv M' (V 12 + 1) 0 v) ∨ (bad ≠ 0 ∧ Nv M' (V 12 + 1) bad 0)))) 0 0 (fm_A μ sz) := by
  refine mo_of hM (by decide +kernel) (Nat.le_of_ble_eq_true rfl) (fun p e s m below meth c S hr hlocks hsz hm hK hZ hA ls hl => ?_)
  subst hsz
  obtain ⟨hx, hb, hml, hown, hts⟩ := id S
  have hl : lv_has ls 3 [(0, .ref (ad 0)), (1, .int (iN (bad)))] := hl
  have hv31 := hvv.1
  refine lv_aload_n hx hb d_Mo_kept_0 rfl (lv_at hl 0 rfl) ?_
  refine lv_dup hx hb d_Mo_kept_1 rfl ?_
  refine mo_get 12 S hK hm (by decide) k478 rfl rfl d_Mo_kept_2 ?_
  refine fm_iconst S d_Mo_kept_5 ?_
  refine fm_iadd S d_Mo_kept_6 ?_
  refine mo_puti 12 S hK hm (by decide) k478 d_Mo_kept_7 (fun V1 H locs eV1 hm => ?_)
  obtain ⟨n, hn⟩ : ∃ n : Int, n = V 12 + 1 := ⟨_, rfl⟩
  have hV12 : V1 12 = n := by rw [eV1, hn]; rfl
  rw [← hn] at hz
  refine lv_aload_n hx hb d_Mo_kept_10 rfl (lv_at hl 0 rfl) ?_
  refine mo_get 11 S hK hm (by decide) k477 rfl rfl d_Mo_kept_11 ?_
  refine lv_aload_n hx hb d_Mo_kept_14 rfl (lv_at hl 0 rfl) ?_
  refine mo_get 12 S hK hm (by decide) k478 rfl rfl d_Mo_kept_15 ?_
  refine lv_iload_n hx hb d_Mo_kept_18 rfl (lv_at hl 1 rfl) ?_
  refine mo_iast 10 S hK hm (by decide) (by simp only [moLen]; omega) d_Mo_kept_19 (fun M2 H locs eM2 hm => ?_)
  rw [hV12] at eM2
  refine lv_iload_n hx hb d_Mo_kept_20 rfl (lv_at hl 1 rfl) ?_
  refine fm_if_eq (tgt := 29) S (by omega) d_Mo_kept_21 (by decide) (fun c3 => ?_) (fun c3 => ?_)
  · refine fm_iconst S d_Mo_kept_29 ?_
    refine lv_istore_n (lv' := [(2, .int (iN (0))), (0, .ref (ad 0)), (1, .int (iN (bad)))]) hx hb d_Mo_kept_30 rfl hl (by decide) rfl (fun ls hl => ?_)
    have hgv := hC c3
    have e22 : M2 2 2 = nd (cN v) := by rw [eM2, setA_n (by decide)]; exact hgv.1
    refine L_kept (Z := Z) S hK hZo hZ hA V1 M2 n bad v (by omega) e22 (fun M4 k H locs ls hk hc hl hm => ?_) (nd (cN v) + 1) M2 0 _ _ _ (by omega) (by omega) (KpI.start _ _) (lv_sub hl [0, 1, 2] rfl) hm
    subst hk
    refine lv_aload_n hx hb d_Mo_kept_71 rfl (lv_at hl 1 rfl) ?_
    refine mo_get 8 S hK hm (by decide) k474 rfl rfl d_Mo_kept_72 ?_
    refine lv_aload_n hx hb d_Mo_kept_75 rfl (lv_at hl 1 rfl) ?_
    refine mo_get 12 S hK hm (by decide) k478 rfl rfl d_Mo_kept_76 ?_
    refine lv_aload_n hx hb d_Mo_kept_79 rfl (lv_at hl 1 rfl) ?_
    refine mo_get 3 S hK hm (by decide) k469 rfl rfl d_Mo_kept_80 ?_
    refine fm_iconst S d_Mo_kept_83 ?_
    refine mo_iald 2 S hK hm (by decide) (by simp only [moLen]; omega) d_Mo_kept_84 ?_
    refine mo_iast 7 S hK hm (by decide) (by simp only [moLen]; omega) d_Mo_kept_85 (fun M5 H locs eM5 hm => ?_)
    refine lv_aload_n hx hb d_Mo_kept_86 rfl (lv_at hl 1 rfl) ?_
    refine mo_get 9 S hK hm (by decide) k475 rfl rfl d_Mo_kept_87 ?_
    refine lv_aload_n hx hb d_Mo_kept_90 rfl (lv_at hl 1 rfl) ?_
    refine mo_get 12 S hK hm (by decide) k478 rfl rfl d_Mo_kept_91 ?_
    refine lv_aload_n hx hb d_Mo_kept_94 rfl (lv_at hl 1 rfl) ?_
    refine mo_get 4 S hK hm (by decide) k470 rfl rfl d_Mo_kept_95 ?_
    refine fm_iconst S d_Mo_kept_98 ?_
    refine mo_iald 3 S hK hm (by decide) (by simp only [moLen]; omega) d_Mo_kept_99 ?_
    refine mo_iast 8 S hK hm (by decide) (by simp only [moLen]; omega) d_Mo_kept_100 (fun M6 H locs eM6 hm => ?_)
    refine lv_aload_n hx hb d_Mo_kept_101 rfl (lv_at hl 1 rfl) ?_
    refine mo_get 10 S hK hm (by decide) k476 rfl rfl d_Mo_kept_102 ?_
    refine lv_aload_n hx hb d_Mo_kept_105 rfl (lv_at hl 1 rfl) ?_
    refine mo_get 12 S hK hm (by decide) k478 rfl rfl d_Mo_kept_106 ?_
    refine lv_aload_n hx hb d_Mo_kept_109 rfl (lv_at hl 1 rfl) ?_
    refine mo_get 5 S hK hm (by decide) k471 rfl rfl d_Mo_kept_110 ?_
    refine fm_iconst S d_Mo_kept_113 ?_
    refine mo_iald 4 S hK hm (by decide) (by simp only [moLen]; omega) d_Mo_kept_114 ?_
    refine mo_iast 9 S hK hm (by decide) (by simp only [moLen]; omega) d_Mo_kept_115 (fun M7 H locs eM7 hm => ?_)
    refine lv_aload_n hx hb d_Mo_kept_116 rfl (lv_at hl 1 rfl) ?_
    refine mo_get 12 S hK hm (by decide) k478 rfl rfl d_Mo_kept_117 ?_
    refine mo_iret S hr hlocks hK hm d_Mo_kept_120 ?_
    rw [hV12] at eM5 eM6 eM7
    rw [c3] at eM2
    have hfin := KpI.fin eM2 hc hgv eM5 eM6 eM7
    exact ⟨hV12.trans hn, by rw [eV1], hn ▸ hfin.1, hn ▸ Or.inl ⟨c3, hfin.2⟩⟩
  · refine lv_aload_n hx hb d_Mo_kept_24 rfl (lv_at hl 0 rfl) ?_
    refine mo_get 12 S hK hm (by decide) k478 rfl rfl d_Mo_kept_25 ?_
    refine mo_iret S hr hlocks hK hm d_Mo_kept_28 ?_
    exact ⟨hV12.trans hn, by rw [eV1], hn ▸ FrN.r eM2, hn ▸ Or.inr ⟨c3, Nv.r eM2 hz.1 hz.2.1 hz.2.2⟩⟩

set_option maxHeartbeats 4000000 in
set_option maxRecDepth 100000 in
/-- operated(op) -/
theorem t_Mo_operated (l : Launch) (D : va_G) (cs : Nat → ClassId) (Z : (Nat → Prop) → State → Heap → Prop) (hZo : fm_Zok Z) (ad : Nat → Nat) (μ : fm_Mu) (V : Nat → Int) (M : Nat → Int → Int) (sz : Nat) (op : Int) (most : Nat) (a : Int) (b : Int) (hM : moS cs μ ad V M) (hop : 0 ≤ op ∧ op ≤ 5) (h22 : 0 ≤ M 2 2 ∧ M 2 2 ≤ 320) (hra : Rv M 0 a) (hb5 : op < 5 → Rv M 1 b) (hva : vB a) (hvb : vB b) (hpr : V 1 = (most : Int) ∧ 1 ≤ most ∧ most ≤ 31) : Met l y_Mo_operated (Cond.code y_Mo_operated c_Mo_operated 2 (some .int) :: wA) ({ frames := 4, cells := 0, slots := 0, locals := 95 }) (fm_Pc D clsA (tysA cs) Z μ sz [.ref (ad 0), .int (iN (op))]) (moQi D cs ad μ sz (fun z V' M' => V' = V ∧ FrO M M' ∧ resOk M' z (sOp most op a b))) 0 0 (fm_A μ sz) := by
  refine mo_of hM (by decide +kernel) (Nat.le_of_ble_eq_true rfl) (fun p e s m below meth c S hr hlocks hsz hm hK hZ hA ls hl => ?_)
  subst hsz
  obtain ⟨hx, hb, hml, hown, hts⟩ := id S
  have hl : lv_has ls 2 [(0, .ref (ad 0)), (1, .int (iN (op)))] := hl
  refine lv_iload_n hx hb d_Mo_operated_0 rfl (lv_at hl 1 rfl) ?_
  rcases (show op = 0 ∨ op = 1 ∨ op = 2 ∨ op = 3 ∨ op = 4 ∨ (op < 0 ∨ 4 < op) by omega) with c1 | c1 | c1 | c1 | c1 | c1
  · refine lv_tableIn (tgt := 36) hx hb d_Mo_operated_1 (by rw [iN_toInt (by omega)]; omega) (by rw [iN_toInt (by omega)]; omega) (by rw [iN_toInt (by omega), c1]; rfl) (by decide) ?_
    have hrb := hb5 (by omega)
    refine lv_aload_n hx hb d_Mo_operated_36 rfl (lv_at hl 0 rfl) ?_
    refine mo_ciS (n := 0) (As := []) (rest := []) S hK hZo hZ hA hm (fun μ sz hM => t_Mo_add l D cs Z hZo ad μ V M sz most (nd (cN a)) (cN a) (nd (cN b)) (cN b) (cX a) (sgn a) (cX b) (sgn b) hM hra hrb (add_bd hva hvb) sg_nz sg_nz (sg_bd _ _) hpr) (gV k583 k585 ks27 k6 k586) (by decide) (by decide +kernel) rfl hl.1 rfl (Nat.le_of_ble_eq_true rfl) ⟨Nat.le_of_ble_eq_true rfl, Nat.le_of_ble_eq_true rfl⟩ d_Mo_operated_37 (fun x4 M3 H locs q2 hm => ?_)
    have frM3 := q2.1
    have rsM3 := add_res hpr.2 q2.2
    refine mo_iret S hr hlocks hK hm d_Mo_operated_40 ?_
    unfold sOp
    rw [if_pos c1]
    exact ⟨rfl, frM3.o (by decide), rsM3⟩
  · refine lv_tableIn (tgt := 41) hx hb d_Mo_operated_1 (by rw [iN_toInt (by omega)]; omega) (by rw [iN_toInt (by omega)]; omega) (by rw [iN_toInt (by omega), c1]; rfl) (by decide) ?_
    have hrb := hb5 (by omega)
    refine lv_aload_n hx hb d_Mo_operated_41 rfl (lv_at hl 0 rfl) ?_
    refine mo_get 5 S hK hm (by decide) k471 rfl rfl d_Mo_operated_42 ?_
    refine fm_iconst S d_Mo_operated_45 ?_
    refine fm_iconst S d_Mo_operated_46 ?_
    refine lv_aload_n hx hb d_Mo_operated_47 rfl (lv_at hl 0 rfl) ?_
    refine mo_get 5 S hK hm (by decide) k471 rfl rfl d_Mo_operated_48 ?_
    refine fm_iconst S d_Mo_operated_51 ?_
    have h41 := hrb.2.2.1
    have h42 := sgn_in b
    refine mo_iald 4 S hK hm (by decide) (by simp only [moLen]; omega) d_Mo_operated_52 ?_
    refine fm_isub S d_Mo_operated_53 ?_
    refine mo_iast 4 S hK hm (by decide) (by simp only [moLen]; omega) d_Mo_operated_54 (fun M5 H locs eM5 hm => ?_)
    have hrb1 := hrb.neg eM5 (by rw [hrb.2.2.1]; omega)
    have hra1 := (Fr.s eM5 (by decide)).rv (r' := 0) (by decide) hva hra
    refine lv_aload_n hx hb d_Mo_operated_55 rfl (lv_at hl 0 rfl) ?_
    refine mo_ciS (n := 0) (As := []) (rest := []) S hK hZo hZ hA hm (fun μ sz hM => t_Mo_add l D cs Z hZo ad μ V M5 sz most (nd (cN a)) (cN a) (nd (cN (-b))) (cN (-b)) (cX a) (sgn a) (cX (-b)) (sgn (-b)) hM hra1 hrb1 (add_bd hva (vB_neg hvb)) sg_nz sg_nz (sg_bd _ _) hpr) (gV k583 k585 ks27 k6 k586) (by decide) (by decide +kernel) rfl hl.1 rfl (Nat.le_of_ble_eq_true rfl) ⟨Nat.le_of_ble_eq_true rfl, Nat.le_of_ble_eq_true rfl⟩ d_Mo_operated_56 (fun x8 M7 H locs q6 hm => ?_)
    have frM7 := q6.1
    have rsM7 := add_res hpr.2 q6.2
    refine mo_iret S hr hlocks hK hm d_Mo_operated_59 ?_
    unfold sOp
    rw [if_neg (by omega), if_pos c1]
    exact ⟨rfl, ((Fr.s eM5 (by decide)).o (by decide)).tr (frM7.o (by decide)), rsM7⟩
  · refine lv_tableIn (tgt := 60) hx hb d_Mo_operated_1 (by rw [iN_toInt (by omega)]; omega) (by rw [iN_toInt (by omega)]; omega) (by rw [iN_toInt (by omega), c1]; rfl) (by decide) ?_
    have hrb := hb5 (by omega)
    refine lv_aload_n hx hb d_Mo_operated_60 rfl (lv_at hl 0 rfl) ?_
    refine mo_ciS (n := 0) (As := []) (rest := []) S hK hZo hZ hA hm (fun μ sz hM => t_Mo_multiply l D cs Z hZo ad μ V M sz most (nd (cN a)) (cN a) (nd (cN b)) (cN b) (cX a) (sgn a) (cX b) (sgn b) hM hra hrb (mul_bd hva hvb) (sg_bd _ _) hpr) (gV k603 k605 ks32 k6 k606) (by decide) (by decide +kernel) rfl hl.1 rfl (Nat.le_of_ble_eq_true rfl) ⟨Nat.le_of_ble_eq_true rfl, Nat.le_of_ble_eq_true rfl⟩ d_Mo_operated_61 (fun x11 M10 H locs q9 hm => ?_)
    have frM10 := q9.1
    have rsM10 := mul_res hpr.2 hva hvb q9.2
    refine mo_iret S hr hlocks hK hm d_Mo_operated_64 ?_
    unfold sOp
    rw [if_neg (by omega), if_neg (by omega), if_pos c1]
    exact ⟨rfl, frM10.o (by decide), rsM10⟩
  · refine lv_tableIn (tgt := 65) hx hb d_Mo_operated_1 (by rw [iN_toInt (by omega)]; omega) (by rw [iN_toInt (by omega)]; omega) (by rw [iN_toInt (by omega), c1]; rfl) (by decide) ?_
    have hrb := hb5 (by omega)
    refine lv_aload_n hx hb d_Mo_operated_65 rfl (lv_at hl 0 rfl) ?_
    refine mo_ciS (n := 0) (As := []) (rest := []) S hK hZo hZ hA hm (fun μ sz hM => t_Mo_divide l D cs Z hZo ad μ V M sz most (nd (cN a)) (cN a) (nd (cN b)) (cN b) (cX a) (sgn a) (cX b) (sgn b) hM hra hrb (div_bd hva hvb) ndc_nz h22 (sg_bd _ _) hpr) (gV k607 k609 ks33 k6 k610) (by decide) (by decide +kernel) rfl hl.1 rfl (Nat.le_of_ble_eq_true rfl) ⟨Nat.le_of_ble_eq_true rfl, Nat.le_of_ble_eq_true rfl⟩ d_Mo_operated_66 (fun x14 M13 H locs q12 hm => ?_)
    have frM13 := q12.1
    have rsM13 := div_res hpr.2 hva hvb q12.2
    refine mo_iret S hr hlocks hK hm d_Mo_operated_69 ?_
    unfold sOp
    rw [if_neg (by omega), if_neg (by omega), if_neg (by omega), if_pos c1]
    exact ⟨rfl, frM13.o (by decide), rsM13⟩
  · refine lv_tableIn (tgt := 70) hx hb d_Mo_operated_1 (by rw [iN_toInt (by omega)]; omega) (by rw [iN_toInt (by omega)]; omega) (by rw [iN_toInt (by omega), c1]; rfl) (by decide) ?_
    have hrb := hb5 (by omega)
    refine lv_aload_n hx hb d_Mo_operated_70 rfl (lv_at hl 0 rfl) ?_
    refine mo_ciS (n := 0) (As := []) (rest := []) S hK hZo hZ hA hm (fun μ sz hM => t_Mo_raise l D cs Z hZo ad μ V M sz most a b hM h22 hra hrb hva hvb hpr) (gV k619 k621 ks36 k6 k622) (by decide) (by decide +kernel) rfl hl.1 rfl (Nat.le_of_ble_eq_true rfl) ⟨Nat.le_of_ble_eq_true rfl, Nat.le_of_ble_eq_true rfl⟩ d_Mo_operated_71 (fun x17 M16 H locs q15 hm => ?_)
    refine mo_iret S hr hlocks hK hm d_Mo_operated_74 ?_
    unfold sOp
    rw [if_neg (by omega), if_neg (by omega), if_neg (by omega), if_neg (by omega), if_pos c1]
    exact ⟨rfl, q15⟩
  · refine lv_tableOut (tgt := 75) hx hb d_Mo_operated_1 (by rw [iN_toInt (by omega)]; omega) (by decide) ?_
    have hv1 := hva.1
    refine lv_aload_n hx hb d_Mo_operated_75 rfl (lv_at hl 0 rfl) ?_
    refine fm_iconst S d_Mo_operated_76 ?_
    refine fm_iconst S d_Mo_operated_77 ?_
    refine mo_cvS (n := 2) (As := [.int (iN (0)), .int (iN (2))]) (rest := []) S hK hZo hZ hA hm (fun μ sz hM => t_Mo_copy l D cs Z hZo ad μ V M sz 0 2 (nd (cN a)) (cN a) (cX a) (sgn a) hM hra (by omega)) (gV k587 k589 ks28 k6 k590) (by decide) (by decide +kernel) rfl hl.1 rfl (Nat.le_of_ble_eq_true rfl) ⟨Nat.le_of_ble_eq_true rfl, Nat.le_of_ble_eq_true rfl⟩ d_Mo_operated_78 (fun M19 H locs q18 hm => ?_)
    obtain ⟨frM19, rgM19⟩ := q18
    have h43 := rgM19.2.2.1
    have h44 := sgn_in a
    refine lv_aload_n hx hb d_Mo_operated_81 rfl (lv_at hl 0 rfl) ?_
    refine mo_get 5 S hK hm (by decide) k471 rfl rfl d_Mo_operated_82 ?_
    refine fm_iconst S d_Mo_operated_85 ?_
    refine fm_iconst S d_Mo_operated_86 ?_
    refine lv_aload_n hx hb d_Mo_operated_87 rfl (lv_at hl 0 rfl) ?_
    refine mo_get 5 S hK hm (by decide) k471 rfl rfl d_Mo_operated_88 ?_
    refine fm_iconst S d_Mo_operated_91 ?_
    refine mo_iald 4 S hK hm (by decide) (by simp only [moLen]; omega) d_Mo_operated_92 ?_
    refine fm_isub S d_Mo_operated_93 ?_
    refine mo_iast 4 S hK hm (by decide) (by simp only [moLen]; omega) d_Mo_operated_94 (fun M20 H locs eM20 hm => ?_)
    refine fm_iconst S d_Mo_operated_95 ?_
    refine mo_iret S hr hlocks hK hm d_Mo_operated_96 ?_
    unfold sOp
    rw [if_neg (by omega), if_neg (by omega), if_neg (by omega), if_neg (by omega), if_neg (by omega)]
    exact ⟨rfl, (frM19.o (by decide)).tr ((Fr.s eM20 (by decide)).o (by decide)), rfl, (fun _ => Rv.neg rgM19 eM20 (by rw [h43]; omega)), (by rw [eM20, setA_n (by decide), rgM19.1]; have := hva.1; omega)⟩
