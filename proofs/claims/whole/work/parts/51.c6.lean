set_option maxHeartbeats 4000000 in
set_option maxRecDepth 100000 in
/-- wideAt(i) -/
theorem t_Ca_wideAt (l : Launch) (D : va_G) (cs : Nat → ClassId) (Z : (Nat → Prop) → State → Heap → Prop) (hZo : fm_Zok Z) (tT : Nat) (hZc : ∀ A U H, Z A U H → Zc tT A U H) (μ : fm_Mu) (sz : Nat) (k : Nat) (w : Nat) (lf : Nat) (on : Nat) (P : Nat) (G : Int → Int) (i : Int) (hii : inI i) (c_k : μ k = some (oE 1 [.int (iN ((P : Int))), .ref w, .ref lf, .ref on])) (c_w : μ w = some (lE cs 30 G)) : Met l y_Ca_wideAt (Cond.code y_Ca_wideAt c_Ca_wideAt 2 (some .long) :: wA) ({ frames := 0, cells := 0, slots := 0, locals := 0 }) (fm_Pc D clsA (tysA cs) Z μ sz [.ref k, .int (iN (i))]) (fm_Sl (fun z => z = gx G i)) 0 0 (fun _ => False) := by
  refine cl_of (by decide +kernel) (Nat.le_of_ble_eq_true rfl) (fun p e s m below meth c S hr hlocks hnm hsz hw hK hZ hA ls hl => ?_)
  subst hsz
  replace S : CallFix p m c c_Ca_wideAt 2 s _ wA "ArithmeticForms$Calculator" := S
  obtain ⟨hx, hb, hml, hown, hts⟩ := id S
  have hzc := hZc _ _ _ hZ
  have hl : lv_has ls 2 [(0, .ref k), (1, .int (iN (i)))] := hl
  refine lv_iload_n hx hb d_Ca_wideAt_0 rfl (lv_at hl 1 rfl) ?_
  refine fm_if_lt (tgt := 10) S (by omega) d_Ca_wideAt_1 (by decide) (fun c1 => ?_) (fun c1 => ?_)
  · refine fm_lconst0 S d_Ca_wideAt_10 ?_
    refine lv_goto (tgt := 20) hx hb d_Ca_wideAt_11 (by decide) ?_
    refine fm_lretS S hr hlocks d_Ca_wideAt_20 ?_
    unfold gx; rw [if_pos (by omega)]
  · refine lv_iload_n hx hb d_Ca_wideAt_4 rfl (lv_at hl 1 rfl) ?_
    refine fm_bipush S d_Ca_wideAt_5 (by decide) ?_
    refine fm_icmp_lt (tgt := 14) S (by omega) (by omega) d_Ca_wideAt_7 (by decide) (fun c2 => ?_) (fun c2 => ?_)
    · refine lv_aload_n hx hb d_Ca_wideAt_14 rfl (lv_at hl 0 rfl) ?_
      refine fm_get S hK hw c_k i_Ca rfl 1 (by decide) (hts _ k100) (fun _ h => h) rfl d_Ca_wideAt_15 ?_
      refine lv_iload_n hx hb d_Ca_wideAt_18 rfl (lv_at hl 1 rfl) ?_
      refine cl_lald S hK hw c_w (by omega) d_Ca_wideAt_19 ?_
      refine fm_lretS S hr hlocks d_Ca_wideAt_20 ?_
      unfold gx; rw [if_neg (by omega)]
    · refine fm_lconst0 S d_Ca_wideAt_10 ?_
      refine lv_goto (tgt := 20) hx hb d_Ca_wideAt_11 (by decide) ?_
      refine fm_lretS S hr hlocks d_Ca_wideAt_20 ?_
      unfold gx; rw [if_pos (by omega)]

set_option maxHeartbeats 4000000 in
set_option maxRecDepth 100000 in
/-- K_cy -/
theorem K_cy {p : Program} {l : Launch} {e : Env} {s : State} {m : MethodId} {args : Array Value} {below : List Frame} {meth : Method} {c : Code} {Q : State → Prop} {D : va_G} {cs : Nat → ClassId} {Z : (Nat → Prop) → State → Heap → Prop} {A : Nat → Prop}  (S : CallFix p m c c_Ca_carry 4 s args wA "ArithmeticForms$Calculator") (hK : va_K D clsA (tysA cs) s) (hZo : fm_Zok Z) (tT : Nat) (hZc : ∀ A U H, Z A U H → Zc tT A U H) (hZ : Z A s s.heap) (hA : ∀ q, s.heap.size ≤ q → A q) (μ0 : fm_Mu) (k w lf on P : Nat) (G : Int → Int) (hGb : ∀ q : Int, 0 ≤ q → q < 30 → -100000000000000000 ≤ G q ∧ G q ≤ 100000000000000000) (kk52 : ∀ (μ1 : fm_Mu) (i : Int) (G1 : Int → Int) (H : Heap) (locs : List Loc) (ls : Array Slot), (i = 0) → (CyI G G1 i) → (μ1 k = some (oE 1 [.int (iN ((P : Int))), .ref w, .ref lf, .ref on])) → (μ1 w = some (lE cs 30 G1)) → fm_O μ0 μ1 [w] → lv_has ls 4 [(1, .int (iN (i))), (0, .ref k)] → fm_W D clsA A s.heap μ1 H locs → W p l e ({ frames := 1, cells := 0, slots := 0, locals := 25 }) s m args below meth c H locs 0 0 Q (F0 m 52 ls [])) : ∀ (fu : Nat) (μ1 : fm_Mu) (i : Int) (G1 : Int → Int) (H : Heap) (locs : List Loc) (ls : Array Slot), i + 1 < (fu : Int) → (0 ≤ i ∧ i ≤ 29) → (CyI G G1 i) → (μ1 k = some (oE 1 [.int (iN ((P : Int))), .ref w, .ref lf, .ref on])) → (μ1 w = some (lE cs 30 G1)) → fm_O μ0 μ1 [w] → lv_has ls 4 [(1, .int (iN (i))), (0, .ref k)] → fm_W D clsA A s.heap μ1 H locs → W p l e ({ frames := 1, cells := 0, slots := 0, locals := 25 }) s m args below meth c H locs 0 0 Q (F0 m 3 ls []) := by
  obtain ⟨hx, hb, hml, hown, hts⟩ := id S
  have hzc := hZc _ _ _ hZ
  intro fu
  induction fu with
  | zero =>
    intro μ1 i G1 H locs ls hn hi hCy c_k c_w hO0 hl hw
    exfalso; omega
  | succ fu ih =>
    intro μ1 i G1 H locs ls hn hi hCy c_k c_w hO0 hl hw
    refine lv_iload_n hx hb d_Ca_carry_3 rfl (lv_at hl 0 rfl) ?_
    refine fm_if_le (tgt := 52) S (by omega) d_Ca_carry_4 (by decide) (fun c1 => ?_) (fun c1 => ?_)
    · exact kk52 μ1 i G1 _ _ _ (by omega) (hCy) c_k c_w hO0 (lv_sub hl [0, 1] rfl) hw
    · have hGi := hCy.2.2.2
      refine lv_aload_n hx hb d_Ca_carry_7 rfl (lv_at hl 1 rfl) ?_
      refine fm_get S hK hw c_k i_Ca rfl 1 (by decide) (hts _ k100) (fun _ h => h) rfl d_Ca_carry_8 ?_
      refine lv_iload_n hx hb d_Ca_carry_11 rfl (lv_at hl 0 rfl) ?_
      refine cl_lald S hK hw c_w (by omega) d_Ca_carry_12 ?_
      refine lv_ldc2 (v := jN 100000000) hx hb hown (hts _ k211) d_Ca_carry_13 ?_
      refine fm_callSl (va_runS (As := [.long (jN ((G1 i))), .long (jN (100000000))]) (rest := []) S (t_Ma_floorDiv l D cs Z hZo tT hZc μ1 _ (G1 i) 100000000 (by omega) (by omega) (by omega)) (va_cwS 2 hts (gS k212 k213 k4 k214) rfl rfl rfl (by decide +kernel) (by decide)) (fm_pre hZo hK hw hZ hA _) rfl rfl hl.1 rfl (lv_room (Nat.le_of_ble_eq_true rfl)) d_Ca_carry_16 ⟨Nat.le_of_ble_eq_true rfl, Nat.le_of_ble_eq_true rfl⟩) (fun x3 q2 => ?_)
      refine lv_lstore_n (lv' := [(2, .long (jN (x3))), (1, .int (iN (i))), (0, .ref k)]) hx hb d_Ca_carry_19 rfl hl (by decide) rfl (fun ls hl => ?_)
      refine lv_aload_n hx hb d_Ca_carry_20 rfl (lv_at hl 2 rfl) ?_
      refine fm_get S hK hw c_k i_Ca rfl 1 (by decide) (hts _ k100) (fun _ h => h) rfl d_Ca_carry_21 ?_
      refine lv_iload_n hx hb d_Ca_carry_24 rfl (lv_at hl 1 rfl) ?_
      refine lv_dup2_11 hx hb d_Ca_carry_25 rfl rfl ?_
      refine cl_lald S hK hw c_w (by omega) d_Ca_carry_26 ?_
      refine lv_lload_n hx hb d_Ca_carry_27 rfl (lv_at hl 0 rfl) ?_
      refine lv_ldc2 (v := jN 100000000) hx hb hown (hts _ k211) d_Ca_carry_28 ?_
      refine fm_lmul S d_Ca_carry_31 ?_
      refine fm_lsub S d_Ca_carry_32 ?_
      refine cl_last S hK hw c_w (by omega) d_Ca_carry_33 (fun F4 μ5 H locs eF4 hw hq hO => ?_)
      have k_k : μ5 k = some (oE 1 [.int (iN ((P : Int))), .ref w, .ref lf, .ref on]) := hO.at (nmc (fm_kn c_k c_w rfl) nm0) c_k
      have k_w : μ5 w = some (lE cs 30 F4) := hq
      have hO0 := hO0.tr1 hO (by simp)
      clear c_k c_w
      have c_k := k_k; clear k_k
      have c_w := k_w; clear k_w
      clear hq hO
      refine lv_aload_n hx hb d_Ca_carry_34 rfl (lv_at hl 2 rfl) ?_
      refine fm_get S hK hw c_k i_Ca rfl 1 (by decide) (hts _ k100) (fun _ h => h) rfl d_Ca_carry_35 ?_
      refine lv_iload_n hx hb d_Ca_carry_38 rfl (lv_at hl 1 rfl) ?_
      refine fm_iconst S d_Ca_carry_39 ?_
      refine fm_isub S d_Ca_carry_40 ?_
      refine lv_dup2_11 hx hb d_Ca_carry_41 rfl rfl ?_
      refine cl_lald S hK hw c_w (by omega) d_Ca_carry_42 ?_
      refine lv_lload_n hx hb d_Ca_carry_43 rfl (lv_at hl 0 rfl) ?_
      refine fm_ladd S d_Ca_carry_44 ?_
      refine cl_last S hK hw c_w (by omega) d_Ca_carry_45 (fun F6 μ7 H locs eF6 hw hq hO => ?_)
      have k_k : μ7 k = some (oE 1 [.int (iN ((P : Int))), .ref w, .ref lf, .ref on]) := hO.at (nmc (fm_kn c_k c_w rfl) nm0) c_k
      have k_w : μ7 w = some (lE cs 30 F6) := hq
      have hO0 := hO0.tr1 hO (by simp)
      clear c_k c_w
      have c_k := k_k; clear k_k
      have c_w := k_w; clear k_w
      clear hq hO
      refine lv_iinc (v := iN ((i + (-1)))) (lv' := [(1, .int (iN ((i + (-1))))), (2, .long (jN (x3))), (0, .ref k)]) hx hb d_Ca_carry_46 hl (k := 1) rfl (iN_add _ _) (by decide) rfl (fun ls hl => ?_)
      refine lv_goto (tgt := 3) hx hb d_Ca_carry_49 (by decide) ?_
      exact ih μ7 (i + -1) F6 _ _ _ (by omega) (by omega) (hCy.step hGb (by omega) q2 eF4 eF6) c_k c_w hO0 (lv_sub hl [0, 2] rfl) hw

set_option maxHeartbeats 4000000 in
set_option maxRecDepth 100000 in
/-- carry() -/
theorem t_Ca_carry (l : Launch) (D : va_G) (cs : Nat → ClassId) (Z : (Nat → Prop) → State → Heap → Prop) (hZo : fm_Zok Z) (tT : Nat) (hZc : ∀ A U H, Z A U H → Zc tT A U H) (μ : fm_Mu) (sz : Nat) (k : Nat) (w : Nat) (lf : Nat) (on : Nat) (P : Nat) (G : Int → Int) (hGb : ∀ q : Int, 0 ≤ q → q < 30 → -100000000000000000 ≤ G q ∧ G q ≤ 100000000000000000) (hT : 0 ≤ wv G 30 ∧ wv G 30 < 10 ^ 240) (c_k : μ k = some (oE 1 [.int (iN ((P : Int))), .ref w, .ref lf, .ref on])) (c_w : μ w = some (lE cs 30 G)) : Met l y_Ca_carry (Cond.code y_Ca_carry c_Ca_carry 4 none :: wA) ({ frames := 1, cells := 0, slots := 0, locals := 25 }) (fm_Pc D clsA (tysA cs) Z μ sz [.ref k]) (fm_Qv D clsA (tysA cs) μ sz (fun μ' => ∃ G' : Int → Int, μ' w = some (lE cs 30 G') ∧ wOk G' ∧ wv G' 30 = wv G 30 ∧ fm_O μ μ' [w])) 0 0 (fm_A μ sz) := by
  refine cl_of (by decide +kernel) (Nat.le_of_ble_eq_true rfl) (fun p e s m below meth c S hr hlocks hnm hsz hw hK hZ hA ls hl => ?_)
  subst hsz
  replace S : CallFix p m c c_Ca_carry 4 s _ wA "ArithmeticForms$Calculator" := S
  obtain ⟨hx, hb, hml, hown, hts⟩ := id S
  have hzc := hZc _ _ _ hZ
  have hO0 : fm_O μ μ [w] := fm_O.rf
  have hl : lv_has ls 4 [(0, .ref k)] := hl
  refine fm_bipush S d_Ca_carry_0 (by decide) ?_
  refine lv_istore_n (lv' := [(1, .int (iN (29))), (0, .ref k)]) hx hb d_Ca_carry_2 rfl hl (by decide) rfl (fun ls hl => ?_)
  refine K_cy (Z := Z) S hK hZo tT hZc hZ hA μ k w lf on P G hGb (fun μ1 i G1 H locs ls hi hCy c_k c_w hO0 hl hw => ?_) (40) μ 29 G _ _ _ (by omega) (by omega) (⟨rfl, fun q a b => by omega, fun _ _ _ => rfl, by have := hGb 29 (by decide) (by decide); omega⟩) c_k c_w hO0 (lv_sub hl [0, 1] rfl) hw
  refine fm_vret S hr hlocks hK hw d_Ca_carry_52 ?_
  subst hi
  obtain ⟨g1, g2⟩ := hCy.fin hT
  exact ⟨G1, c_w, g1, g2, hO0⟩

set_option maxHeartbeats 4000000 in
set_option maxRecDepth 100000 in
/-- K_st1 -/
theorem K_st1 {p : Program} {l : Launch} {e : Env} {s : State} {m : MethodId} {args : Array Value} {below : List Frame} {meth : Method} {c : Code} {Q : State → Prop} {D : va_G} {cs : Nat → ClassId} {Z : (Nat → Prop) → State → Heap → Prop} {A : Nat → Prop}  (S : CallFix p m c c_Ca_settle 12 s args wA "ArithmeticForms$Calculator") (hK : va_K D clsA (tysA cs) s) (hZo : fm_Zok Z) (tT : Nat) (hZc : ∀ A U H, Z A U H → Zc tT A U H) (hZ : Z A s s.heap) (hA : ∀ q, s.heap.size ≤ q → A q) (μ0 : fm_Mu) (k w lf on P : Nat) (G : Int → Int) (h a : Nat) (F : Int → Int) (sn hi : Int) (hG : wOk G) (kk32 : ∀ (μ1 : fm_Mu) (fi : Int) (H : Heap) (locs : List Loc) (ls : Array Slot), (0 ≤ fi ∧ fi ≤ 30) → (∀ q : Int, 0 ≤ q → q < fi → G q = 0) → (fi = 30 ∨ (fi < 30 ∧ ¬ G fi = 0)) → (μ1 k = some (oE 1 [.int (iN ((P : Int))), .ref w, .ref lf, .ref on])) → (μ1 w = some (lE cs 30 G)) → (μ1 h = some (oE 2 [.int (iN (0)), .int (iN (0)), .int (iN (0)), .int (iN (0)), .ref a])) → (μ1 a = some (lE cs 4 F)) → fm_O μ0 μ1 [h, a] → lv_has ls 12 [(4, .int (iN (fi))), (0, .ref k), (1, .ref h), (2, .int (iN (sn))), (3, .int (iN (hi)))] → fm_W D clsA A s.heap μ1 H locs → W p l e ({ frames := 3, cells := 0, slots := 0, locals := 67 }) s m args below meth c H locs 0 0 Q (F0 m 32 ls [])) : ∀ (fu : Nat) (μ1 : fm_Mu) (fi : Int) (H : Heap) (locs : List Loc) (ls : Array Slot), 40 - fi < (fu : Int) → (0 ≤ fi ∧ fi ≤ 30) → (∀ q : Int, 0 ≤ q → q < fi → G q = 0) → (μ1 k = some (oE 1 [.int (iN ((P : Int))), .ref w, .ref lf, .ref on])) → (μ1 w = some (lE cs 30 G)) → (μ1 h = some (oE 2 [.int (iN (0)), .int (iN (0)), .int (iN (0)), .int (iN (0)), .ref a])) → (μ1 a = some (lE cs 4 F)) → fm_O μ0 μ1 [h, a] → lv_has ls 12 [(4, .int (iN (fi))), (0, .ref k), (1, .ref h), (2, .int (iN (sn))), (3, .int (iN (hi)))] → fm_W D clsA A s.heap μ1 H locs → W p l e ({ frames := 3, cells := 0, slots := 0, locals := 67 }) s m args below meth c H locs 0 0 Q (F0 m 7 ls []) := by
  obtain ⟨hx, hb, hml, hown, hts⟩ := id S
  have hzc := hZc _ _ _ hZ
  intro fu
  induction fu with
  | zero =>
    intro μ1 fi H locs ls hn hfi hz c_k c_w c_h c_a hO0 hl hw
    exfalso; omega
  | succ fu ih =>
    intro μ1 fi H locs ls hn hfi hz c_k c_w c_h c_a hO0 hl hw
    refine lv_iload hx hb d_Ca_settle_7 (lv_at hl 0 rfl) ?_
    refine fm_bipush S d_Ca_settle_9 (by decide) ?_
    refine fm_icmp_ge (tgt := 32) S (by omega) (by omega) d_Ca_settle_11 (by decide) (fun c1 => ?_) (fun c1 => ?_)
    · exact kk32 μ1 fi _ _ _ (by omega) (hz) (by first | exact Or.inl (by omega) | exact Or.inr ⟨by omega, by assumption⟩) c_k c_w c_h c_a hO0 (lv_sub hl [0, 1, 2, 3, 4] rfl) hw
    · have hf := hG fi (by omega) (by omega)
      refine lv_aload_n hx hb d_Ca_settle_14 rfl (lv_at hl 1 rfl) ?_
      refine fm_get S hK hw c_k i_Ca rfl 1 (by decide) (hts _ k100) (fun _ h => h) rfl d_Ca_settle_15 ?_
      refine lv_iload hx hb d_Ca_settle_18 (lv_at hl 0 rfl) ?_
      refine cl_lald S hK hw c_w (by omega) d_Ca_settle_20 ?_
      refine fm_lconst0 S d_Ca_settle_21 ?_
      refine fm_lcmp S (by omega) (by omega) d_Ca_settle_22 ?_
      refine fm_if_ne (tgt := 32) S (fm_cmp_in _ _) d_Ca_settle_23 (by decide) (fun c2 => ?_) (fun c2 => ?_)
      · rw [fm_cmp_eq] at c2
        exact kk32 μ1 fi _ _ _ (by omega) (hz) (by first | exact Or.inl (by omega) | exact Or.inr ⟨by omega, by assumption⟩) c_k c_w c_h c_a hO0 (lv_sub hl [0, 1, 2, 3, 4] rfl) hw
      · rw [fm_cmp_eq] at c2
        refine lv_iinc (v := iN ((fi + 1))) (lv' := [(4, .int (iN ((fi + 1)))), (0, .ref k), (1, .ref h), (2, .int (iN (sn))), (3, .int (iN (hi)))]) hx hb d_Ca_settle_26 hl (k := 0) rfl (iN_add _ _) (by decide) rfl (fun ls hl => ?_)
        refine lv_goto (tgt := 7) hx hb d_Ca_settle_29 (by decide) ?_
        exact ih μ1 (fi + 1) _ _ _ (by omega) (by omega) (by intro q p1 p2; by_cases p3 : q = fi; rw [p3]; assumption; exact hz q p1 (by omega)) c_k c_w c_h c_a hO0 (lv_sub hl [0, 1, 2, 3, 4] rfl) hw

set_option maxHeartbeats 4000000 in
set_option maxRecDepth 100000 in
/-- K_st2 -/
theorem K_st2 {p : Program} {l : Launch} {e : Env} {s : State} {m : MethodId} {args : Array Value} {below : List Frame} {meth : Method} {c : Code} {Q : State → Prop} {D : va_G} {cs : Nat → ClassId} {Z : (Nat → Prop) → State → Heap → Prop} {A : Nat → Prop}  (S : CallFix p m c c_Ca_settle 12 s args wA "ArithmeticForms$Calculator") (hK : va_K D clsA (tysA cs) s) (hZo : fm_Zok Z) (tT : Nat) (hZc : ∀ A U H, Z A U H → Zc tT A U H) (hZ : Z A s s.heap) (hA : ∀ q, s.heap.size ≤ q → A q) (μ0 : fm_Mu) (k w lf on P : Nat) (G : Int → Int) (h a : Nat) (F : Int → Int) (sn hi fi : Int) (hfi : 0 ≤ fi ∧ fi < 30) (hgf : 0 < G fi ∧ G fi < 100000000) (kk75 : ∀ (μ1 : fm_Mu) (em : Int) (H : Heap) (locs : List Loc) (ls : Array Slot), (0 ≤ em ∧ em ≤ 7) → (G fi < 10 ^ (8 - em).toNat) → (10 ^ (7 - em).toNat ≤ G fi) → (μ1 k = some (oE 1 [.int (iN ((P : Int))), .ref w, .ref lf, .ref on])) → (μ1 w = some (lE cs 30 G)) → (μ1 h = some (oE 2 [.int (iN (0)), .int (iN (0)), .int (iN (0)), .int (iN (0)), .ref a])) → (μ1 a = some (lE cs 4 F)) → fm_O μ0 μ1 [h, a] → lv_has ls 12 [(5, .int (iN (em))), (4, .int (iN (fi))), (0, .ref k), (1, .ref h), (2, .int (iN (sn))), (3, .int (iN (hi)))] → fm_W D clsA A s.heap μ1 H locs → W p l e ({ frames := 3, cells := 0, slots := 0, locals := 67 }) s m args below meth c H locs 0 0 Q (F0 m 75 ls [])) : ∀ (fu : Nat) (μ1 : fm_Mu) (em : Int) (H : Heap) (locs : List Loc) (ls : Array Slot), 10 - em < (fu : Int) → (0 ≤ em ∧ em ≤ 7) → (G fi < 10 ^ (8 - em).toNat) → (μ1 k = some (oE 1 [.int (iN ((P : Int))), .ref w, .ref lf, .ref on])) → (μ1 w = some (lE cs 30 G)) → (μ1 h = some (oE 2 [.int (iN (0)), .int (iN (0)), .int (iN (0)), .int (iN (0)), .ref a])) → (μ1 a = some (lE cs 4 F)) → fm_O μ0 μ1 [h, a] → lv_has ls 12 [(5, .int (iN (em))), (4, .int (iN (fi))), (0, .ref k), (1, .ref h), (2, .int (iN (sn))), (3, .int (iN (hi)))] → fm_W D clsA A s.heap μ1 H locs → W p l e ({ frames := 3, cells := 0, slots := 0, locals := 67 }) s m args below meth c H locs 0 0 Q (F0 m 43 ls []) := by
  obtain ⟨hx, hb, hml, hown, hts⟩ := id S
  have hzc := hZc _ _ _ hZ
  intro fu
  induction fu with
  | zero =>
    intro μ1 em H locs ls hn hem h1 c_k c_w c_h c_a hO0 hl hw
    exfalso; omega
  | succ fu ih =>
    intro μ1 em H locs ls hn hem h1 c_k c_w c_h c_a hO0 hl hw
    refine lv_iload hx hb d_Ca_settle_43 (lv_at hl 0 rfl) ?_
    refine fm_bipush S d_Ca_settle_45 (by decide) ?_
    refine fm_icmp_ge (tgt := 75) S (by omega) (by omega) d_Ca_settle_47 (by decide) (fun c1 => ?_) (fun c1 => ?_)
    · exact kk75 μ1 em _ _ _ (by omega) (h1) (by first | omega | (rw [show (7 - em).toNat = 0 by omega]; simp; omega)) c_k c_w c_h c_a hO0 (lv_sub hl [0, 1, 2, 3, 4, 5] rfl) hw
    · refine lv_aload_n hx hb d_Ca_settle_50 rfl (lv_at hl 2 rfl) ?_
      refine fm_get S hK hw c_k i_Ca rfl 1 (by decide) (hts _ k100) (fun _ h => h) rfl d_Ca_settle_51 ?_
      refine lv_iload hx hb d_Ca_settle_54 (lv_at hl 1 rfl) ?_
      refine cl_lald S hK hw c_w (by omega) d_Ca_settle_56 ?_
      refine fm_bipush S d_Ca_settle_57 (by decide) ?_
      refine lv_iload hx hb d_Ca_settle_59 (lv_at hl 0 rfl) ?_
      refine fm_isub S d_Ca_settle_61 ?_
      refine fm_callSl (va_runSN (As := [.int (iN ((7 - em)))]) (rest := [.long (jN ((G fi)))]) S (t_AF_ten l D cs Z hZo tT hZc μ1 _ (7 - em) (by omega)) ⟨cwNA 1 hts k85 rfl rfl hzc.2.2.1.2.2.2.1 k1 (by decide +kernel) (by decide), hts _ k84, trivial⟩ (fm_pre hZo hK hw hZ hA _) rfl rfl hl.1 rfl (lv_room (Nat.le_of_ble_eq_true rfl)) d_Ca_settle_62 ⟨Nat.le_of_ble_eq_true rfl, Nat.le_of_ble_eq_true rfl⟩) (fun x3 q2 => ?_)
      have ht65 := tenV_in (k := 7 - em)
      have he65 := tenV_e (k := 7 - em) (by omega) (by omega)
      have hq65 := q2
      rw [he65] at hq65
      refine fm_lcmp S (by omega) (by omega) d_Ca_settle_65 ?_
      refine fm_if_ge (tgt := 75) S (fm_cmp_in _ _) d_Ca_settle_66 (by decide) (fun c4 => ?_) (fun c4 => ?_)
      · rw [fm_cmp_ge] at c4
        exact kk75 μ1 em _ _ _ (by omega) (h1) (by first | omega | (rw [show (7 - em).toNat = 0 by omega]; simp; omega)) c_k c_w c_h c_a hO0 (lv_sub hl [0, 1, 2, 3, 4, 5] rfl) hw
      · rw [fm_cmp_ge] at c4
        refine lv_iinc (v := iN ((em + 1))) (lv' := [(5, .int (iN ((em + 1)))), (4, .int (iN (fi))), (0, .ref k), (1, .ref h), (2, .int (iN (sn))), (3, .int (iN (hi)))]) hx hb d_Ca_settle_69 hl (k := 0) rfl (iN_add _ _) (by decide) rfl (fun ls hl => ?_)
        refine lv_goto (tgt := 43) hx hb d_Ca_settle_72 (by decide) ?_
        exact ih μ1 (em + 1) _ _ _ (by omega) (by omega) (by rw [show (8 - (em + 1)).toNat = (7 - em).toNat by omega]; omega) c_k c_w c_h c_a hO0 (lv_sub hl [0, 1, 2, 3, 4, 5] rfl) hw

set_option maxHeartbeats 4000000 in
set_option maxRecDepth 100000 in
/-- K_st3 -/
theorem K_st3 {p : Program} {l : Launch} {e : Env} {s : State} {m : MethodId} {args : Array Value} {below : List Frame} {meth : Method} {c : Code} {Q : State → Prop} {D : va_G} {cs : Nat → ClassId} {Z : (Nat → Prop) → State → Heap → Prop} {A : Nat → Prop}  (S : CallFix p m c c_Ca_settle 12 s args wA "ArithmeticForms$Calculator") (hK : va_K D clsA (tysA cs) s) (hZo : fm_Zok Z) (tT : Nat) (hZc : ∀ A U H, Z A U H → Zc tT A U H) (hZ : Z A s s.heap) (hA : ∀ q, s.heap.size ≤ q → A q) (μ0 : fm_Mu) (k w lf on P : Nat) (G : Int → Int) (h a : Nat) (sn hi fi em tt dn up : Int) (hG : wOk G) (hfi : 0 ≤ fi ∧ fi < 30) (hdn : dn = 10 ^ (8 - em).toNat) (hup : up = 10 ^ em.toNat) (hdb : 0 < dn ∧ dn ≤ 100000000) (kk177 : ∀ (μ1 : fm_Mu) (i : Int) (F1 : Int → Int) (H : Heap) (locs : List Loc) (ls : Array Slot), (i = 4) → (∀ q : Int, 0 ≤ q → q < i → F1 q = sF G fi em q) → (μ1 k = some (oE 1 [.int (iN ((P : Int))), .ref w, .ref lf, .ref on])) → (μ1 w = some (lE cs 30 G)) → (μ1 h = some (oE 2 [.int (iN (0)), .int (iN (0)), .int (iN (0)), .int (iN (0)), .ref a])) → (μ1 a = some (lE cs 4 F1)) → fm_O μ0 μ1 [h, a] → lv_has ls 12 [(11, .int (iN (i))), (9, .long (jN (dn))), (7, .long (jN (up))), (6, .int (iN (tt))), (4, .int (iN (fi))), (0, .ref k), (1, .ref h), (2, .int (iN (sn))), (3, .int (iN (hi)))] → fm_W D clsA A s.heap μ1 H locs → W p l e ({ frames := 3, cells := 0, slots := 0, locals := 67 }) s m args below meth c H locs 0 0 Q (F0 m 177 ls [])) : ∀ (fu : Nat) (μ1 : fm_Mu) (i : Int) (F1 : Int → Int) (H : Heap) (locs : List Loc) (ls : Array Slot), 10 - i < (fu : Int) → (0 ≤ i ∧ i ≤ 4) → (∀ q : Int, 0 ≤ q → q < i → F1 q = sF G fi em q) → (μ1 k = some (oE 1 [.int (iN ((P : Int))), .ref w, .ref lf, .ref on])) → (μ1 w = some (lE cs 30 G)) → (μ1 h = some (oE 2 [.int (iN (0)), .int (iN (0)), .int (iN (0)), .int (iN (0)), .ref a])) → (μ1 a = some (lE cs 4 F1)) → fm_O μ0 μ1 [h, a] → lv_has ls 12 [(11, .int (iN (i))), (9, .long (jN (dn))), (7, .long (jN (up))), (6, .int (iN (tt))), (4, .int (iN (fi))), (0, .ref k), (1, .ref h), (2, .int (iN (sn))), (3, .int (iN (hi)))] → fm_W D clsA A s.heap μ1 H locs → W p l e ({ frames := 3, cells := 0, slots := 0, locals := 67 }) s m args below meth c H locs 0 0 Q (F0 m 128 ls []) := by
  obtain ⟨hx, hb, hml, hown, hts⟩ := id S
  have hzc := hZc _ _ _ hZ
  intro fu
  induction fu with
  | zero =>
    intro μ1 i F1 H locs ls hn hi1 hF c_k c_w c_h c_a hO0 hl hw
    exfalso; omega
  | succ fu ih =>
    intro μ1 i F1 H locs ls hn hi1 hF c_k c_w c_h c_a hO0 hl hw
    refine lv_iload hx hb d_Ca_settle_128 (lv_at hl 0 rfl) ?_
    refine fm_iconst S d_Ca_settle_130 ?_
    refine fm_icmp_ge (tgt := 177) S (by omega) (by omega) d_Ca_settle_131 (by decide) (fun c1 => ?_) (fun c1 => ?_)
    · exact kk177 μ1 i F1 _ _ _ (by omega) (hF) c_k c_w c_h c_a hO0 (lv_sub hl [0, 1, 2, 3, 4, 5, 6, 7, 8] rfl) hw
    · refine lv_aload_n hx hb d_Ca_settle_134 rfl (lv_at hl 6 rfl) ?_
      refine fm_get S hK hw c_h i_De rfl 4 (by decide) (hts _ k45) (fun _ h => h) rfl d_Ca_settle_135 ?_
      refine lv_iload hx hb d_Ca_settle_138 (lv_at hl 0 rfl) ?_
      refine lv_aload_n hx hb d_Ca_settle_140 rfl (lv_at hl 5 rfl) ?_
      refine lv_iload hx hb d_Ca_settle_141 (lv_at hl 4 rfl) ?_
      refine lv_iload hx hb d_Ca_settle_143 (lv_at hl 0 rfl) ?_
      refine fm_iadd S d_Ca_settle_145 ?_
      refine fm_callSl (va_runV (As := [.int (iN ((fi + i)))]) (rest := [.int (iN (i)), .ref a]) S (t_Ca_wideAt l D cs Z hZo tT hZc μ1 _ k w lf on P G (fi + i) (by omega) c_k c_w) (cwV 1 hts (gV k221 k223 ks5 k3 k224) rfl rfl rfl (by decide +kernel) (by decide)) (fm_preV hZo hK hw hZ hA c_k rfl _) rfl rfl hl.1 rfl (lv_room (Nat.le_of_ble_eq_true rfl)) d_Ca_settle_146 ⟨Nat.le_of_ble_eq_true rfl, Nat.le_of_ble_eq_true rfl⟩) (fun x3 q2 => ?_)
      have hx1 := gx_in hG (fi + i)
      have hx2 := gx_in hG (fi + i + 1)
      refine lv_lload hx hb d_Ca_settle_149 (lv_at hl 1 rfl) ?_
      refine fm_lremN S (by omega) d_Ca_settle_151 ?_
      refine lv_lload hx hb d_Ca_settle_152 (lv_at hl 2 rfl) ?_
      refine fm_lmul S d_Ca_settle_154 ?_
      refine lv_aload_n hx hb d_Ca_settle_155 rfl (lv_at hl 5 rfl) ?_
      refine lv_iload hx hb d_Ca_settle_156 (lv_at hl 4 rfl) ?_
      refine lv_iload hx hb d_Ca_settle_158 (lv_at hl 0 rfl) ?_
      refine fm_iadd S d_Ca_settle_160 ?_
      refine fm_iconst S d_Ca_settle_161 ?_
      refine fm_iadd S d_Ca_settle_162 ?_
      refine fm_callSl (va_runV (As := [.int (iN (((fi + i) + 1)))]) (rest := [.long (jN (((x3 % dn) * up))), .int (iN (i)), .ref a]) S (t_Ca_wideAt l D cs Z hZo tT hZc μ1 _ k w lf on P G ((fi + i) + 1) (by omega) c_k c_w) (cwV 1 hts (gV k221 k223 ks5 k3 k224) rfl rfl rfl (by decide +kernel) (by decide)) (fm_preV hZo hK hw hZ hA c_k rfl _) rfl rfl hl.1 rfl (lv_room (Nat.le_of_ble_eq_true rfl)) d_Ca_settle_163 ⟨Nat.le_of_ble_eq_true rfl, Nat.le_of_ble_eq_true rfl⟩) (fun x5 q4 => ?_)
      refine lv_lload hx hb d_Ca_settle_166 (lv_at hl 1 rfl) ?_
      refine fm_ldivN S (by omega) d_Ca_settle_168 ?_
      refine fm_ladd S d_Ca_settle_169 ?_
      refine cl_last S hK hw c_a (by omega) d_Ca_settle_170 (fun F6 μ7 H locs eF6 hw hq hO => ?_)
      have k_k : μ7 k = some (oE 1 [.int (iN ((P : Int))), .ref w, .ref lf, .ref on]) := hO.at (nmc (fm_kn c_k c_a rfl) nm0) c_k
      have k_w : μ7 w = some (lE cs 30 G) := hO.at (nmc (fm_kn c_w c_a rfl) nm0) c_w
      have k_h : μ7 h = some (oE 2 [.int (iN (0)), .int (iN (0)), .int (iN (0)), .int (iN (0)), .ref a]) := hO.at (nmc (fm_kn c_h c_a rfl) nm0) c_h
      have k_a : μ7 a = some (lE cs 4 F6) := hq
      have hO0 := hO0.tr1 hO (by simp)
      clear c_k c_w c_h c_a
      have c_k := k_k; clear k_k
      have c_w := k_w; clear k_w
      have c_h := k_h; clear k_h
      have c_a := k_a; clear k_a
      clear hq hO
      refine lv_iinc (v := iN ((i + 1))) (lv' := [(11, .int (iN ((i + 1)))), (9, .long (jN (dn))), (7, .long (jN (up))), (6, .int (iN (tt))), (4, .int (iN (fi))), (0, .ref k), (1, .ref h), (2, .int (iN (sn))), (3, .int (iN (hi)))]) hx hb d_Ca_settle_171 hl (k := 0) rfl (iN_add _ _) (by decide) rfl (fun ls hl => ?_)
      refine lv_goto (tgt := 128) hx hb d_Ca_settle_174 (by decide) ?_
      exact ih μ7 (i + 1) F6 _ _ _ (by omega) (by omega) (by intro q p1 p2; by_cases p3 : q = i; rw [p3, eF6, uI_s, q2, q4, hdn, hup]; rfl; rw [eF6, uI_n p3]; exact hF q p1 (by omega)) c_k c_w c_h c_a hO0 (lv_sub hl [0, 1, 2, 3, 4, 5, 6, 7, 8] rfl) hw

theorem fin_lo {P T : Nat} {x s : Int} (h : (nd T : Int) + x - 1 < -99) : fin P T x s = (0, 0) := by
  unfold fin cuz cuv
  rw [if_pos (by rw [if_neg (by omega)]), if_pos (Or.inr h), Int.mul_zero]
theorem fin_hi {P T : Nat} {x s : Int} (h0 : T ≠ 0) (h : 99 ≤ (nd T : Int) + x - 1) : fin P T x s = (1, 0) := by
  unfold fin cuz
  rw [if_neg (by rw [if_pos ⟨h0, h⟩]; decide)]
theorem fin_mid {P T : Nat} {x s t : Int} (h0 : T ≠ 0) (hP : 1 ≤ P ∧ P ≤ 31) (ht : t = (nd T : Int) + x - 1) (h1 : -99 ≤ t ∧ t < 99) (hs : s = 1 ∨ s = -1) {N : Nat} (hN : N = cutM P (n32 T)) : (fin P T x s).1 = 0 ∧ sgn (fin P T x s).2 = s ∧ tp (fin P T x s).2 = t ∧ nd (cN (fin P T x s).2) = 32 - tz N ∧ mN (fin P T x s).2 = N ∧ dB (fin P T x s).2 ∧ N ≠ 0 := by
  have e : fin P T x s = (0, s * cuv P T x) := by
    unfold fin cuz
    rw [if_pos (by rw [if_neg (by omega)])]
  have hn := n32_in h0
  have g1 := cutM_ge (keep := P) (by omega) hn.1
  have g2 : cutM P (n32 T) < 10 ^ 32 := Nat.lt_of_le_of_lt (cutM_le _ _) hn.2
  have hN0 : N ≠ 0 := fun z => by rw [← hN, z] at g1; exact absurd g1 (by decide)
  have hz := cutM_tz (keep := P) (N := n32 T) (by omega) (by rw [← hN]; exact hN0)
  rw [e]
  dsimp only
  rw [cuv_n h0 hP (by omega), ← ht, ← hN]
  rw [← hN] at g1 g2 hz
  obtain ⟨q1, q2, q3, q4, q5, q6⟩ := mkD (v := s * ((N * 10 ^ (t + 269).toNat : Nat) : Int)) g1 g2 hs (by omega) rfl
  exact ⟨rfl, q2, q3, q4, q6, ⟨by rw [q4]; omega, Or.inr (by rw [q3]; omega)⟩, hN0⟩

set_option maxHeartbeats 4000000 in
set_option maxRecDepth 100000 in
/-- settle(into, sn, hi) -/
theorem t_Ca_settle (l : Launch) (D : va_G) (cs : Nat → ClassId) (Z : (Nat → Prop) → State → Heap → Prop) (hZo : fm_Zok Z) (tT : Nat) (hZc : ∀ A U H, Z A U H → Zc tT A U H) (μ : fm_Mu) (sz : Nat) (k : Nat) (w : Nat) (lf : Nat) (on : Nat) (P : Nat) (G : Int → Int) (h : Nat) (a : Nat) (co : Int) (sg : Int) (tq : Int) (ct : Int) (F : Int → Int) (T : Nat) (sn : Int) (hi : Int) (hG : wOk G) (hT : wv G 30 = T) (hP : 1 ≤ P ∧ P ≤ 31) (hsn : T ≠ 0 → sn = 1 ∨ sn = -1) (hhi : -1000 ≤ hi ∧ hi ≤ 1000) (c_k : μ k = some (oE 1 [.int (iN ((P : Int))), .ref w, .ref lf, .ref on])) (c_w : μ w = some (lE cs 30 G)) (c_h : μ h = some (oE 2 [.int (iN (co)), .int (iN (sg)), .int (iN (tq)), .int (iN (ct)), .ref a])) (c_a : μ a = some (lE cs 4 F)) : Met l y_Ca_settle (Cond.code y_Ca_settle c_Ca_settle 12 none :: wA) ({ frames := 3, cells := 0, slots := 0, locals := 67 }) (fm_Pc D clsA (tysA cs) Z μ sz [.ref k, .ref h, .int (iN (sn)), .int (iN (hi))]) (fm_Qv D clsA (tysA cs) μ sz (fun μ' => Dc cs μ' h a (fin P T (hi - 239) sn).1 (fin P T (hi - 239) sn).2 ∧ fm_O μ μ' [h, a])) 0 0 (fm_A μ sz) := by
  refine cl_of (by decide +kernel) (Nat.le_of_ble_eq_true rfl) (fun p e s m below meth c S hr hlocks hnm hsz hw hK hZ hA ls hl => ?_)
  subst hsz
  replace S : CallFix p m c c_Ca_settle 12 s _ wA "ArithmeticForms$Calculator" := S
  obtain ⟨hx, hb, hml, hown, hts⟩ := id S
  have hzc := hZc _ _ _ hZ
  have hO0 : fm_O μ μ [h, a] := fm_O.rf
  have hl : lv_has ls 12 [(0, .ref k), (1, .ref h), (2, .int (iN (sn))), (3, .int (iN (hi)))] := hl
  refine lv_aload_n hx hb d_Ca_settle_0 rfl (lv_at hl 1 rfl) ?_
  refine fm_callv (va_runV (As := []) (rest := []) S (t_De_clear l D cs Z hZo tT hZc μ _ h a co sg tq ct F c_h c_a) (cwV 0 hts (gV k219 k77 k78 k2 k79) rfl rfl rfl (by decide +kernel) (by decide)) (fm_preV hZo hK hw hZ hA c_h rfl _) rfl rfl hl.1 rfl (lv_room (Nat.le_of_ble_eq_true rfl)) d_Ca_settle_1 ⟨Nat.le_of_ble_eq_true rfl, Nat.le_of_ble_eq_true rfl⟩) hw hA (fun μ2 H locs q1 hw => ?_)
  obtain ⟨F3, hq, hq2, eF3, hO⟩ := q1
  have k_k : μ2 k = some (oE 1 [.int (iN ((P : Int))), .ref w, .ref lf, .ref on]) := hO.at (nmc (fm_kn c_k c_h rfl) (nmc (fm_kn c_k c_a rfl) nm0)) c_k
  have k_w : μ2 w = some (lE cs 30 G) := hO.at (nmc (fm_kn c_w c_h rfl) (nmc (fm_kn c_w c_a rfl) nm0)) c_w
  have k_h : μ2 h = some (oE 2 [.int (iN (0)), .int (iN (0)), .int (iN (0)), .int (iN (0)), .ref a]) := hq
  have k_a : μ2 a = some (lE cs 4 F3) := hq2
  have hO0 := hO0.tr1 hO (by simp)
  clear c_k c_w c_h c_a
  have c_k := k_k; clear k_k
  have c_w := k_w; clear k_w
  have c_h := k_h; clear k_h
  have c_a := k_a; clear k_a
  clear hq hq2 hO
  refine fm_iconst S d_Ca_settle_4 ?_
  refine lv_istore (lv' := [(4, .int (iN (0))), (0, .ref k), (1, .ref h), (2, .int (iN (sn))), (3, .int (iN (hi)))]) hx hb d_Ca_settle_5 hl (by decide) rfl (fun ls hl => ?_)
  refine K_st1 (Z := Z) S hK hZo tT hZc hZ hA μ k w lf on P G h a F3 sn hi hG (fun μ4 fi H locs ls hfi hz hfe c_k c_w c_h c_a hO0 hl hw => ?_) (50) μ2 0 _ _ _ (by omega) (by omega) (by intro q p1 p2; omega) c_k c_w c_h c_a hO0 (lv_sub hl [0, 1, 2, 3, 4] rfl) hw
  refine lv_iload hx hb d_Ca_settle_32 (lv_at hl 0 rfl) ?_
  refine fm_bipush S d_Ca_settle_34 (by decide) ?_
  refine fm_icmp_ne (tgt := 40) S (by omega) (by omega) d_Ca_settle_36 (by decide) (fun c5 => ?_) (fun c5 => ?_)
  · have hf30 : 0 ≤ fi ∧ fi < 30 := by omega
    have hgn : ¬ G fi = 0 := by rcases hfe with h | h; omega; exact h.2
    have hgf := hG fi hf30.1 hf30.2
    refine fm_iconst S d_Ca_settle_40 ?_
    refine lv_istore (lv' := [(5, .int (iN (0))), (4, .int (iN (fi))), (0, .ref k), (1, .ref h), (2, .int (iN (sn))), (3, .int (iN (hi)))]) hx hb d_Ca_settle_41 hl (by decide) rfl (fun ls hl => ?_)
    refine K_st2 (Z := Z) S hK hZo tT hZc hZ hA μ k w lf on P G h a F3 sn hi fi hf30 (by omega) (fun μ6 em H locs ls hem he1 he2 c_k c_w c_h c_a hO0 hl hw => ?_) (20) μ4 0 _ _ _ (by omega) (by omega) (by simp; omega) c_k c_w c_h c_a hO0 (lv_sub hl [0, 1, 2, 3, 4, 5] rfl) hw
    obtain ⟨hnd, hT0⟩ := nd_T hG hT hf30 hz hem he1 he2
    refine lv_iload_n hx hb d_Ca_settle_75 rfl (lv_at hl 5 rfl) ?_
    refine lv_iload hx hb d_Ca_settle_76 (lv_at hl 1 rfl) ?_
    refine fm_bipush S d_Ca_settle_78 (by decide) ?_
    refine fm_imul S d_Ca_settle_80 ?_
    refine fm_isub S d_Ca_settle_81 ?_
    refine lv_iload hx hb d_Ca_settle_82 (lv_at hl 0 rfl) ?_
    refine fm_isub S d_Ca_settle_84 ?_
    refine fm_topi (fun x7 hx7 => ?_)
    refine lv_istore (lv' := [(6, .int (iN (x7))), (5, .int (iN (em))), (4, .int (iN (fi))), (0, .ref k), (1, .ref h), (2, .int (iN (sn))), (3, .int (iN (hi)))]) hx hb d_Ca_settle_85 hl (by decide) rfl (fun ls hl => ?_)
    have htt : x7 = (nd T : Int) + (hi - 239) - 1 := by omega
    refine lv_iload hx hb d_Ca_settle_87 (lv_at hl 0 rfl) ?_
    refine fm_bipush S d_Ca_settle_89 (by decide) ?_
    refine fm_icmp_lt (tgt := 100) S (by omega) (by omega) d_Ca_settle_91 (by decide) (fun c8 => ?_) (fun c8 => ?_)
    · refine lv_iload hx hb d_Ca_settle_100 (lv_at hl 0 rfl) ?_
      refine fm_bipush S d_Ca_settle_102 (by decide) ?_
      refine fm_icmp_ge (tgt := 108) S (by omega) (by omega) d_Ca_settle_104 (by decide) (fun c9 => ?_) (fun c9 => ?_)
      · refine lv_iload hx hb d_Ca_settle_108 (lv_at hl 1 rfl) ?_
        refine fm_callSl (va_runSN (As := [.int (iN (em))]) (rest := []) S (t_AF_ten l D cs Z hZo tT hZc μ6 _ em (by omega)) ⟨cwNA 1 hts k85 rfl rfl hzc.2.2.1.2.2.2.1 k1 (by decide +kernel) (by decide), hts _ k84, trivial⟩ (fm_pre hZo hK hw hZ hA _) rfl rfl hl.1 rfl (lv_room (Nat.le_of_ble_eq_true rfl)) d_Ca_settle_110 ⟨Nat.le_of_ble_eq_true rfl, Nat.le_of_ble_eq_true rfl⟩) (fun x11 q10 => ?_)
        refine lv_lstore (lv' := [(7, .long (jN (x11))), (6, .int (iN (x7))), (5, .int (iN (em))), (4, .int (iN (fi))), (0, .ref k), (1, .ref h), (2, .int (iN (sn))), (3, .int (iN (hi)))]) hx hb d_Ca_settle_113 hl (by decide) rfl (fun ls hl => ?_)
        refine fm_bipush S d_Ca_settle_115 (by decide) ?_
        refine lv_iload hx hb d_Ca_settle_117 (lv_at hl 2 rfl) ?_
        refine fm_isub S d_Ca_settle_119 ?_
        refine fm_callSl (va_runSN (As := [.int (iN ((8 - em)))]) (rest := []) S (t_AF_ten l D cs Z hZo tT hZc μ6 _ (8 - em) (by omega)) ⟨cwNA 1 hts k85 rfl rfl hzc.2.2.1.2.2.2.1 k1 (by decide +kernel) (by decide), hts _ k84, trivial⟩ (fm_pre hZo hK hw hZ hA _) rfl rfl hl.1 rfl (lv_room (Nat.le_of_ble_eq_true rfl)) d_Ca_settle_120 ⟨Nat.le_of_ble_eq_true rfl, Nat.le_of_ble_eq_true rfl⟩) (fun x13 q12 => ?_)
        have hu1 := tenV_e (k := em) (by omega) (by omega)
        have hd1 := tenV_e (k := 8 - em) (by omega) (by omega)
        have hdp := bd_le (em - 1) 0
        have hdq : x13 = 10 ^ (8 - em).toNat := by rw [q12, hd1]
        have hdr : bd (em - 1) 0 = x13 := by rw [hdq]; unfold bd; congr 1; omega
        refine lv_lstore (lv' := [(9, .long (jN (x13))), (7, .long (jN (x11))), (6, .int (iN (x7))), (5, .int (iN (em))), (4, .int (iN (fi))), (0, .ref k), (1, .ref h), (2, .int (iN (sn))), (3, .int (iN (hi)))]) hx hb d_Ca_settle_123 hl (by decide) rfl (fun ls hl => ?_)
        refine fm_iconst S d_Ca_settle_125 ?_
        refine lv_istore (lv' := [(11, .int (iN (0))), (9, .long (jN (x13))), (7, .long (jN (x11))), (6, .int (iN (x7))), (5, .int (iN (em))), (4, .int (iN (fi))), (0, .ref k), (1, .ref h), (2, .int (iN (sn))), (3, .int (iN (hi)))]) hx hb d_Ca_settle_126 hl (by decide) rfl (fun ls hl => ?_)
        refine K_st3 (Z := Z) S hK hZo tT hZc hZ hA μ k w lf on P G h a sn hi fi em x7 x13 x11 hG hf30 hdq (by rw [q10, hu1]) (by omega) (fun μ14 i F1 H locs ls hi4 hF4 c_k c_w c_h c_a hO0 hl hw => ?_) (20) μ6 0 F3 _ _ _ (by omega) (by omega) (by intro q p1 p2; omega) c_k c_w c_h c_a hO0 (lv_sub hl [0, 1, 2, 3, 5, 6, 7, 8, 9] rfl) hw
        obtain ⟨hFo, hLo⟩ := sF_ok hG hT hf30 hz hem he1 hnd (fun q p1 p2 => hF4 q p1 (by omega))
        refine lv_aload_n hx hb d_Ca_settle_177 rfl (lv_at hl 6 rfl) ?_
        refine lv_iload_n hx hb d_Ca_settle_178 rfl (lv_at hl 7 rfl) ?_
        refine fm_put S hK hw c_h i_De rfl t_De t_De_ok n_De 1 (by decide) (hts _ k36) (fun _ h => h) rfl (ty := .int) (by decide +kernel) rfl rfl (Nat.le_of_ble_eq_true rfl) d_Ca_settle_179 (fun μ15 H locs hw hq hO => ?_)
        have k_k : μ15 k = some (oE 1 [.int (iN ((P : Int))), .ref w, .ref lf, .ref on]) := hO.at (nmc (fm_kn c_k c_h rfl) nm0) c_k
        have k_w : μ15 w = some (lE cs 30 G) := hO.at (nmc (fm_kn c_w c_h rfl) nm0) c_w
        have k_a : μ15 a = some (lE cs 4 F1) := hO.at (nmc (fm_kn c_a c_h rfl) nm0) c_a
        have k_h : μ15 h = some (oE 2 [.int (iN (0)), .int (iN (sn)), .int (iN (0)), .int (iN (0)), .ref a]) := hq
        have hO0 := hO0.tr1 hO (by simp)
        clear c_k c_w c_h c_a
        have c_k := k_k; clear k_k
        have c_w := k_w; clear k_w
        have c_a := k_a; clear k_a
        have c_h := k_h; clear k_h
        clear hq hO
        refine lv_aload_n hx hb d_Ca_settle_182 rfl (lv_at hl 6 rfl) ?_
        refine lv_iload hx hb d_Ca_settle_183 (lv_at hl 3 rfl) ?_
        refine fm_put S hK hw c_h i_De rfl t_De t_De_ok n_De 2 (by decide) (hts _ k40) (fun _ h => h) rfl (ty := .int) (by decide +kernel) rfl rfl (Nat.le_of_ble_eq_true rfl) d_Ca_settle_185 (fun μ16 H locs hw hq hO => ?_)
        have k_k : μ16 k = some (oE 1 [.int (iN ((P : Int))), .ref w, .ref lf, .ref on]) := hO.at (nmc (fm_kn c_k c_h rfl) nm0) c_k
        have k_w : μ16 w = some (lE cs 30 G) := hO.at (nmc (fm_kn c_w c_h rfl) nm0) c_w
        have k_a : μ16 a = some (lE cs 4 F1) := hO.at (nmc (fm_kn c_a c_h rfl) nm0) c_a
        have k_h : μ16 h = some (oE 2 [.int (iN (0)), .int (iN (sn)), .int (iN (x7)), .int (iN (0)), .ref a]) := hq
        have hO0 := hO0.tr1 hO (by simp)
        clear c_k c_w c_a c_h
        have c_k := k_k; clear k_k
        have c_w := k_w; clear k_w
        have c_a := k_a; clear k_a
        have c_h := k_h; clear k_h
        clear hq hO
        refine lv_aload_n hx hb d_Ca_settle_188 rfl (lv_at hl 6 rfl) ?_
        refine lv_aload_n hx hb d_Ca_settle_189 rfl (lv_at hl 5 rfl) ?_
        refine fm_get S hK hw c_k i_Ca rfl 0 (by decide) (hts _ k98) (fun _ h => h) rfl d_Ca_settle_190 ?_
        refine fm_callv (va_runV (As := [.int (iN ((P : Int)))]) (rest := []) S (t_De_cut l D cs Z hZo tT hZc μ16 _ h a 0 sn x7 0 F1 (n32 T) (P : Int) hFo hLo (by omega) c_h c_a) (cwV 1 hts (gV k225 k93 k94 k2 k95) rfl rfl rfl (by decide +kernel) (by decide)) (fm_preV hZo hK hw hZ hA c_h rfl _) rfl rfl hl.1 rfl (lv_room (Nat.le_of_ble_eq_true rfl)) d_Ca_settle_193 ⟨Nat.le_of_ble_eq_true rfl, Nat.le_of_ble_eq_true rfl⟩) hw hA (fun μ18 H locs q17 hw => ?_)
        obtain ⟨F19, hq2, hokF19, hLF19, hcase, hO⟩ := q17
        have k_k : μ18 k = some (oE 1 [.int (iN ((P : Int))), .ref w, .ref lf, .ref on]) := hO.at (nmc (fm_kn c_k c_h rfl) (nmc (fm_kn c_k c_a rfl) nm0)) c_k
        have k_w : μ18 w = some (lE cs 30 G) := hO.at (nmc (fm_kn c_w c_h rfl) (nmc (fm_kn c_w c_a rfl) nm0)) c_w
        have k_a : μ18 a = some (lE cs 4 F19) := hq2
        have hO0 := hO0.tr1 hO (by simp)
        clear c_k c_w c_a c_h
        have c_k := k_k; clear k_k
        have c_w := k_w; clear k_w
        have c_a := k_a; clear k_a
        clear hq2 hO
        refine fm_vret S hr hlocks hK hw d_Ca_settle_196 ?_
        obtain ⟨g1, g2, g3, g4, g5, g6, g7⟩ := fin_mid hT0 hP htt (by omega) (hsn hT0) rfl
        rcases hcase with hcase | hcase
        · exact absurd hcase.1 g7
        · have hh := hcase.2
          rw [← g4] at hh
          exact ⟨⟨F19, by rw [g1, g2, g3]; exact hh, c_a, ⟨hokF19, by rw [hLF19, g5]⟩, g6⟩, hO0⟩
      · refine fm_vret S hr hlocks hK hw d_Ca_settle_107 ?_
        rw [fin_lo (by omega)]
        exact ⟨⟨F3, by rw [sgn_0, tp_0, nz_0]; exact c_h, c_a, dF.z eF3, dB_0⟩, hO0⟩
    · refine lv_aload_n hx hb d_Ca_settle_94 rfl (lv_at hl 4 rfl) ?_
      refine fm_iconst S d_Ca_settle_95 ?_
      refine fm_callv (va_runV (As := [.int (iN (1))]) (rest := []) S (t_De_raise l D cs Z hZo tT hZc μ6 _ h a 0 0 0 0 F3 1 c_h c_a) (cwV 1 hts (gV k169 k170 k171 k2 k172) rfl rfl rfl (by decide +kernel) (by decide)) (fm_preV hZo hK hw hZ hA c_h rfl _) rfl rfl hl.1 rfl (lv_room (Nat.le_of_ble_eq_true rfl)) d_Ca_settle_96 ⟨Nat.le_of_ble_eq_true rfl, Nat.le_of_ble_eq_true rfl⟩) hw hA (fun μ21 H locs q20 hw => ?_)
      obtain ⟨F22, hq, hq2, eF22, hO⟩ := q20
      have k_k : μ21 k = some (oE 1 [.int (iN ((P : Int))), .ref w, .ref lf, .ref on]) := hO.at (nmc (fm_kn c_k c_h rfl) (nmc (fm_kn c_k c_a rfl) nm0)) c_k
      have k_w : μ21 w = some (lE cs 30 G) := hO.at (nmc (fm_kn c_w c_h rfl) (nmc (fm_kn c_w c_a rfl) nm0)) c_w
      have k_h : μ21 h = some (oE 2 [.int (iN (1)), .int (iN (0)), .int (iN (0)), .int (iN (0)), .ref a]) := hq
      have k_a : μ21 a = some (lE cs 4 F22) := hq2
      have hO0 := hO0.tr1 hO (by simp)
      clear c_k c_w c_h c_a
      have c_k := k_k; clear k_k
      have c_w := k_w; clear k_w
      have c_h := k_h; clear k_h
      have c_a := k_a; clear k_a
      clear hq hq2 hO
      refine fm_vret S hr hlocks hK hw d_Ca_settle_99 ?_
      rw [fin_hi hT0 (by omega)]
      exact ⟨⟨F22, by rw [sgn_0, tp_0, nz_0]; exact c_h, c_a, dF.z eF22, dB_0⟩, hO0⟩
  · refine fm_vret S hr hlocks hK hw d_Ca_settle_39 ?_
    have hT0 : T = 0 := T_0 hT (fun q p1 p2 => hz q p1 (by omega))
    subst hT0
    rw [fin_0]
    exact ⟨⟨F3, by rw [sgn_0, tp_0, nz_0]; exact c_h, c_a, dF.z eF3, dB_0⟩, hO0⟩

set_option maxHeartbeats 4000000 in
set_option maxRecDepth 100000 in
/-- passOn(into, a, b) -/
theorem t_Ca_passOn (l : Launch) (D : va_G) (cs : Nat → ClassId) (Z : (Nat → Prop) → State → Heap → Prop) (hZo : fm_Zok Z) (tT : Nat) (hZc : ∀ A U H, Z A U H → Zc tT A U H) (μ : fm_Mu) (sz : Nat) (h : Nat) (a : Nat) (co : Int) (sg : Int) (tq : Int) (ct : Int) (F : Int → Int) (ga : Nat) (la : Nat) (ca : Int) (va : Int) (FA : Int → Int) (gb : Nat) (lb : Nat) (cb : Int) (vb : Int) (FB : Int → Int) (hca : inI ca) (hcb : inI cb) (c_h : μ h = some (oE 2 [.int (iN (co)), .int (iN (sg)), .int (iN (tq)), .int (iN (ct)), .ref a])) (c_a : μ a = some (lE cs 4 F)) (c_ga : μ ga = some (oE 2 [.int (iN (ca)), .int (iN ((sgn va))), .int (iN ((tp va))), .int (iN ((nd (cN va) : Int))), .ref la])) (c_la : μ la = some (lE cs 4 FA)) (c_gb : μ gb = some (oE 2 [.int (iN (cb)), .int (iN ((sgn vb))), .int (iN ((tp vb))), .int (iN ((nd (cN vb) : Int))), .ref lb])) (c_lb : μ lb = some (lE cs 4 FB)) : Met l y_Ca_passOn (Cond.code y_Ca_passOn c_Ca_passOn 4 (some .boolean) :: wA) ({ frames := 3, cells := 0, slots := 0, locals := 65 }) (fm_Pc D clsA (tysA cs) Z μ sz [.ref h, .ref ga, .ref gb]) (fm_Qi D clsA (tysA cs) μ sz (fun z μ' => (z = 0 ∧ ca = 0 ∧ cb = 0 ∧ μ' = μ) ∨ (z = 1 ∧ ¬ (ca = 0 ∧ cb = 0) ∧ Dc cs μ' h a (if ca ≠ 0 then ca else cb) 0 ∧ fm_O μ μ' [h, a]))) 0 0 (fm_A μ sz) := by
  refine cl_of (by decide +kernel) (Nat.le_of_ble_eq_true rfl) (fun p e s m below meth c S hr hlocks hnm hsz hw hK hZ hA ls hl => ?_)
  subst hsz
  replace S : CallFix p m c c_Ca_passOn 4 s _ wA "ArithmeticForms$Calculator" := S
  obtain ⟨hx, hb, hml, hown, hts⟩ := id S
  have hzc := hZc _ _ _ hZ
  have hO0 : fm_O μ μ [h, a] := fm_O.rf
  have hl : lv_has ls 4 [(0, .ref h), (1, .ref ga), (2, .ref gb)] := hl
  refine mo_join (P := fun y => y = (if ca ≠ 0 then ca else cb)) (g := fun y => F0 m 18 ls ([.int (iN (y))])) (fun y hy => ?_) (fun key => ?_)
  · have hyi : inI y := by rw [hy]; split <;> assumption
    refine lv_istore_n (lv' := [(3, .int (iN (y))), (0, .ref h), (1, .ref ga), (2, .ref gb)]) hx hb d_Ca_passOn_18 rfl hl (by decide) rfl (fun ls hl => ?_)
    refine lv_iload_n hx hb d_Ca_passOn_19 rfl (lv_at hl 0 rfl) ?_
    refine fm_if_ne (tgt := 25) S (by omega) d_Ca_passOn_20 (by decide) (fun c1 => ?_) (fun c1 => ?_)
    · refine lv_aload_n hx hb d_Ca_passOn_25 rfl (lv_at hl 1 rfl) ?_
      refine lv_iload_n hx hb d_Ca_passOn_26 rfl (lv_at hl 0 rfl) ?_
      refine fm_callv (va_runV (As := [.int (iN (y))]) (rest := []) S (t_De_raise l D cs Z hZo tT hZc μ _ h a co sg tq ct F y c_h c_a) (cwV 1 hts (gV k169 k170 k171 k2 k172) rfl rfl rfl (by decide +kernel) (by decide)) (fm_preV hZo hK hw hZ hA c_h rfl _) rfl rfl hl.1 rfl (lv_room (Nat.le_of_ble_eq_true rfl)) d_Ca_passOn_27 ⟨Nat.le_of_ble_eq_true rfl, Nat.le_of_ble_eq_true rfl⟩) hw hA (fun μ3 H locs q2 hw => ?_)
      obtain ⟨F4, hq, hq2, eF4, hO⟩ := q2
      have k_h : μ3 h = some (oE 2 [.int (iN (y)), .int (iN (0)), .int (iN (0)), .int (iN (0)), .ref a]) := hq
      have k_a : μ3 a = some (lE cs 4 F4) := hq2
      have hO0 := hO0.tr1 hO (by simp)
      clear c_h c_a c_ga c_la c_gb c_lb
      have c_h := k_h; clear k_h
      have c_a := k_a; clear k_a
      clear hq hq2 hO
      refine fm_iconst S d_Ca_passOn_30 ?_
      refine fm_zret S hr hlocks hK hw (by omega) d_Ca_passOn_31 ?_
      refine Or.inr ⟨rfl, ?_, ⟨F4, by rw [sgn_0, tp_0, nz_0, ← hy]; exact c_h, c_a, dF.z eF4, dB_0⟩, hO0⟩
      intro hh
      rw [if_neg (by omega)] at hy
      omega
    · refine fm_iconst S d_Ca_passOn_23 ?_
      refine fm_zret S hr hlocks hK hw (by omega) d_Ca_passOn_24 ?_
      refine Or.inl ⟨rfl, ?_, ?_, rfl⟩ <;> (split at hy <;> omega)
  · refine lv_aload_n hx hb d_Ca_passOn_0 rfl (lv_at hl 1 rfl) ?_
    refine fm_get S hK hw c_ga i_De rfl 0 (by decide) (hts _ k33) (fun _ h => h) rfl d_Ca_passOn_1 ?_
    refine fm_if_eq (tgt := 14) S (by omega) d_Ca_passOn_4 (by decide) (fun c5 => ?_) (fun c5 => ?_)
    · refine lv_aload_n hx hb d_Ca_passOn_14 rfl (lv_at hl 2 rfl) ?_
      refine fm_get S hK hw c_gb i_De rfl 0 (by decide) (hts _ k33) (fun _ h => h) rfl d_Ca_passOn_15 ?_
      exact key _ (by first | rw [if_pos (by assumption)] | rw [if_neg (by omega)])
    · refine lv_aload_n hx hb d_Ca_passOn_7 rfl (lv_at hl 1 rfl) ?_
      refine fm_get S hK hw c_ga i_De rfl 0 (by decide) (hts _ k33) (fun _ h => h) rfl d_Ca_passOn_8 ?_
      refine lv_goto (tgt := 18) hx hb d_Ca_passOn_11 (by decide) ?_
      exact key _ (by first | rw [if_pos (by assumption)] | rw [if_neg (by omega)])
