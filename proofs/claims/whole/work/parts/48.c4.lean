set_option maxHeartbeats 4000000 in
set_option maxRecDepth 100000 in
/-- K_cut1 -/
theorem K_cut1 {p : Program} {l : Launch} {e : Env} {s : State} {m : MethodId} {args : Array Value} {below : List Frame} {meth : Method} {c : Code} {Q : State → Prop} {D : va_G} {cs : Nat → ClassId} {Z : (Nat → Prop) → State → Heap → Prop} {A : Nat → Prop}  (S : CallFix p m c c_De_cut 4 s args wA "ArithmeticForms$Decimal") (hK : va_K D clsA (tysA cs) s) (hZo : fm_Zok Z) (tT : Nat) (hZc : ∀ A U H, Z A U H → Zc tT A U H) (hZ : Z A s s.heap) (hA : ∀ q, s.heap.size ≤ q → A q) (μ0 : fm_Mu) (h a : Nat) (co sg tp ct : Int) (F : Int → Int) (keep : Int) (hF : fOk F) (hkp : -1000 ≤ keep ∧ keep ≤ 1000) (kk52 : ∀ (μ1 : fm_Mu) (i : Int) (F1 : Int → Int) (H : Heap) (locs : List Loc) (ls : Array Slot), (i = 4) → (∀ q : Int, 0 ≤ q → q < i → F1 q = cutF keep F q) → (μ1 h = some (oE 2 [.int (iN (co)), .int (iN (sg)), .int (iN (tp)), .int (iN (ct)), .ref a])) → (μ1 a = some (lE cs 4 F1)) → fm_O μ0 μ1 [h, a] → lv_has ls 4 [(2, .int (iN (i))), (0, .ref h), (1, .int (iN (keep)))] → fm_W D clsA A s.heap μ1 H locs → W p l e ({ frames := 2, cells := 0, slots := 0, locals := 44 }) s m args below meth c H locs 0 0 Q (F0 m 52 ls [])) : ∀ (fu : Nat) (μ1 : fm_Mu) (i : Int) (F1 : Int → Int) (H : Heap) (locs : List Loc) (ls : Array Slot), 10 - i < (fu : Int) → (0 ≤ i ∧ i ≤ 4) → (∀ q : Int, 0 ≤ q → q < i → F1 q = cutF keep F q) → (∀ q : Int, i ≤ q → q < 4 → F1 q = F q) → (μ1 h = some (oE 2 [.int (iN (co)), .int (iN (sg)), .int (iN (tp)), .int (iN (ct)), .ref a])) → (μ1 a = some (lE cs 4 F1)) → fm_O μ0 μ1 [h, a] → lv_has ls 4 [(2, .int (iN (i))), (0, .ref h), (1, .int (iN (keep)))] → fm_W D clsA A s.heap μ1 H locs → W p l e ({ frames := 2, cells := 0, slots := 0, locals := 44 }) s m args below meth c H locs 0 0 Q (F0 m 2 ls []) := by
  obtain ⟨hx, hb, hml, hown, hts⟩ := id S
  have hzc := hZc _ _ _ hZ
  intro fu
  induction fu with
  | zero =>
    intro μ1 i F1 H locs ls hn hi h1 h2 c_h c_a hO0 hl hw
    exfalso; omega
  | succ fu ih =>
    intro μ1 i F1 H locs ls hn hi h1 h2 c_h c_a hO0 hl hw
    refine lv_iload_n hx hb d_De_cut_2 rfl (lv_at hl 0 rfl) ?_
    refine fm_iconst S d_De_cut_3 ?_
    refine fm_icmp_ge (tgt := 52) S (by omega) (by omega) d_De_cut_4 (by decide) (fun c1 => ?_) (fun c1 => ?_)
    · exact kk52 μ1 i F1 _ _ _ (by omega) (h1) c_h c_a hO0 (lv_sub hl [0, 1, 2] rfl) hw
    · refine fm_iconst S d_De_cut_7 ?_
      refine fm_bipush S d_De_cut_8 (by decide) ?_
      refine lv_iload_n hx hb d_De_cut_10 rfl (lv_at hl 2 rfl) ?_
      refine lv_iload_n hx hb d_De_cut_11 rfl (lv_at hl 0 rfl) ?_
      refine fm_bipush S d_De_cut_12 (by decide) ?_
      refine fm_imul S d_De_cut_14 ?_
      refine fm_isub S d_De_cut_15 ?_
      refine fm_callSi (va_runS (As := [.int (iN (8)), .int (iN ((keep - (i * 8))))]) (rest := [.int (iN (0))]) S (t_Ma_min l D cs Z hZo tT hZc μ1 _ 8 (keep - (i * 8)) (by omega) (by omega)) (va_cwS 2 hts (gS k96 k61 k4 k62) rfl rfl rfl (by decide +kernel) (by decide)) (fm_pre hZo hK hw hZ hA _) rfl rfl hl.1 rfl (lv_room (Nat.le_of_ble_eq_true rfl)) d_De_cut_16 ⟨Nat.le_of_ble_eq_true rfl, Nat.le_of_ble_eq_true rfl⟩) (fun x3 q2 => ?_)
      refine fm_callSi (va_runS (As := [.int (iN (0)), .int (iN (x3))]) (rest := []) S (t_Ma_max l D cs Z hZo tT hZc μ1 _ 0 x3 (by omega) (by omega)) (va_cwS 2 hts (gS k97 k64 k4 k65) rfl rfl rfl (by decide +kernel) (by decide)) (fm_pre hZo hK hw hZ hA _) rfl rfl hl.1 rfl (lv_room (Nat.le_of_ble_eq_true rfl)) d_De_cut_19 ⟨Nat.le_of_ble_eq_true rfl, Nat.le_of_ble_eq_true rfl⟩) (fun x5 q4 => ?_)
      refine lv_istore_n (lv' := [(3, .int (iN (x5))), (2, .int (iN (i))), (0, .ref h), (1, .int (iN (keep)))]) hx hb d_De_cut_22 rfl hl (by decide) rfl (fun ls hl => ?_)
      refine lv_aload_n hx hb d_De_cut_23 rfl (lv_at hl 2 rfl) ?_
      refine fm_get S hK hw c_h i_De rfl 4 (by decide) (hts _ k44) (fun _ h => h) rfl d_De_cut_24 ?_
      refine lv_iload_n hx hb d_De_cut_27 rfl (lv_at hl 1 rfl) ?_
      have hf := hF i (by omega) (by omega)
      have hfi := h2 i (by omega) (by omega)
      refine lv_dup2_11 hx hb d_De_cut_28 rfl rfl ?_
      refine cl_lald S hK hw c_a (by omega) d_De_cut_29 ?_
      refine lv_aload_n hx hb d_De_cut_30 rfl (lv_at hl 2 rfl) ?_
      refine fm_get S hK hw c_h i_De rfl 4 (by decide) (hts _ k44) (fun _ h => h) rfl d_De_cut_31 ?_
      refine lv_iload_n hx hb d_De_cut_34 rfl (lv_at hl 1 rfl) ?_
      refine cl_lald S hK hw c_a (by omega) d_De_cut_35 ?_
      refine fm_bipush S d_De_cut_36 (by decide) ?_
      refine lv_iload_n hx hb d_De_cut_38 rfl (lv_at hl 0 rfl) ?_
      refine fm_isub S d_De_cut_39 ?_
      refine fm_callSl (va_runSN (As := [.int (iN ((8 - x5)))]) (rest := [.long (jN ((F1 i))), .long (jN ((F1 i))), .int (iN (i)), .ref a]) S (t_AF_ten l D cs Z hZo tT hZc μ1 _ (8 - x5) (by omega)) ⟨cwNA 1 hts k85 rfl rfl hzc.2.2.1.2.2.1 k1 (by decide +kernel) (by decide), hts _ k84, trivial⟩ (fm_pre hZo hK hw hZ hA _) rfl rfl hl.1 rfl (lv_room (Nat.le_of_ble_eq_true rfl)) d_De_cut_40 ⟨Nat.le_of_ble_eq_true rfl, Nat.le_of_ble_eq_true rfl⟩) (fun x7 q6 => ?_)
      have ht := tenV_in (k := 8 - x5)
      refine fm_lremN S (by omega) d_De_cut_43 ?_
      refine fm_lsub S d_De_cut_44 ?_
      refine cl_last S hK hw c_a (by omega) d_De_cut_45 (fun F8 μ9 H locs eF8 hw hq hO => ?_)
      have k_h : μ9 h = some (oE 2 [.int (iN (co)), .int (iN (sg)), .int (iN (tp)), .int (iN (ct)), .ref a]) := hO.at (nmc (fm_kn c_h c_a rfl) nm0) c_h
      have k_a : μ9 a = some (lE cs 4 F8) := hq
      have hO0 := hO0.tr1 hO (by simp)
      clear c_h c_a
      have c_h := k_h; clear k_h
      have c_a := k_a; clear k_a
      clear hq hO
      refine lv_iinc (v := iN ((i + 1))) (lv' := [(2, .int (iN ((i + 1)))), (3, .int (iN (x5))), (0, .ref h), (1, .int (iN (keep)))]) hx hb d_De_cut_46 hl (k := 1) rfl (iN_add _ _) (by decide) rfl (fun ls hl => ?_)
      refine lv_goto (tgt := 2) hx hb d_De_cut_49 (by decide) ?_
      exact ih μ9 (i + 1) F8 _ _ _ (by omega) (by omega) (by intro q p1 p2; by_cases p3 : q = i; rw [p3, eF8, uI_s, hfi, q6, q4, q2]; rfl; rw [eF8, uI_n p3]; exact h1 q p1 (by omega)) (by intro q p1 p2; rw [eF8, uI_n (by omega)]; exact h2 q (by omega) p2) c_h c_a hO0 (lv_sub hl [0, 2, 3] rfl) hw

set_option maxHeartbeats 4000000 in
set_option maxRecDepth 100000 in
/-- K_cut2 -/
theorem K_cut2 {p : Program} {l : Launch} {e : Env} {s : State} {m : MethodId} {args : Array Value} {below : List Frame} {meth : Method} {c : Code} {Q : State → Prop} {D : va_G} {cs : Nat → ClassId} {Z : (Nat → Prop) → State → Heap → Prop} {A : Nat → Prop}  (S : CallFix p m c c_De_cut 4 s args wA "ArithmeticForms$Decimal") (hK : va_K D clsA (tysA cs) s) (hZo : fm_Zok Z) (tT : Nat) (hZc : ∀ A U H, Z A U H → Zc tT A U H) (hZ : Z A s s.heap) (hA : ∀ q, s.heap.size ≤ q → A q) (μ0 : fm_Mu) (h a : Nat) (co sg tp ct : Int) (F : Int → Int) (keep : Int) (hF : fOk F) (kk75 : ∀ (μ1 : fm_Mu) (la : Int) (H : Heap) (locs : List Loc) (ls : Array Slot), (-1 ≤ la ∧ la ≤ 3) → (∀ q : Int, la < q → q < 4 → F q = 0) → (la = -1 ∨ (0 ≤ la ∧ ¬ F la = 0)) → (μ1 h = some (oE 2 [.int (iN (co)), .int (iN (sg)), .int (iN (tp)), .int (iN (ct)), .ref a])) → (μ1 a = some (lE cs 4 F)) → fm_O μ0 μ1 [h, a] → lv_has ls 4 [(2, .int (iN (la))), (0, .ref h), (1, .int (iN (keep)))] → fm_W D clsA A s.heap μ1 H locs → W p l e ({ frames := 2, cells := 0, slots := 0, locals := 44 }) s m args below meth c H locs 0 0 Q (F0 m 75 ls [])) : ∀ (fu : Nat) (μ1 : fm_Mu) (la : Int) (H : Heap) (locs : List Loc) (ls : Array Slot), la + 10 < (fu : Int) → (-1 ≤ la ∧ la ≤ 3) → (∀ q : Int, la < q → q < 4 → F q = 0) → (μ1 h = some (oE 2 [.int (iN (co)), .int (iN (sg)), .int (iN (tp)), .int (iN (ct)), .ref a])) → (μ1 a = some (lE cs 4 F)) → fm_O μ0 μ1 [h, a] → lv_has ls 4 [(2, .int (iN (la))), (0, .ref h), (1, .int (iN (keep)))] → fm_W D clsA A s.heap μ1 H locs → W p l e ({ frames := 2, cells := 0, slots := 0, locals := 44 }) s m args below meth c H locs 0 0 Q (F0 m 54 ls []) := by
  obtain ⟨hx, hb, hml, hown, hts⟩ := id S
  have hzc := hZc _ _ _ hZ
  intro fu
  induction fu with
  | zero =>
    intro μ1 la H locs ls hn hi h2 c_h c_a hO0 hl hw
    exfalso; omega
  | succ fu ih =>
    intro μ1 la H locs ls hn hi h2 c_h c_a hO0 hl hw
    refine lv_iload_n hx hb d_De_cut_54 rfl (lv_at hl 0 rfl) ?_
    refine fm_if_lt (tgt := 75) S (by omega) d_De_cut_55 (by decide) (fun c1 => ?_) (fun c1 => ?_)
    · exact kk75 μ1 la _ _ _ (by omega) (h2) (by first | exact Or.inl (by omega) | exact Or.inr ⟨by omega, by assumption⟩) c_h c_a hO0 (lv_sub hl [0, 1, 2] rfl) hw
    · have hf := hF la (by omega) (by omega)
      refine lv_aload_n hx hb d_De_cut_58 rfl (lv_at hl 1 rfl) ?_
      refine fm_get S hK hw c_h i_De rfl 4 (by decide) (hts _ k44) (fun _ h => h) rfl d_De_cut_59 ?_
      refine lv_iload_n hx hb d_De_cut_62 rfl (lv_at hl 0 rfl) ?_
      refine cl_lald S hK hw c_a (by omega) d_De_cut_63 ?_
      refine fm_lconst0 S d_De_cut_64 ?_
      refine fm_lcmp S (by omega) (by omega) d_De_cut_65 ?_
      refine fm_if_ne (tgt := 75) S (fm_cmp_in _ _) d_De_cut_66 (by decide) (fun c2 => ?_) (fun c2 => ?_)
      · rw [fm_cmp_eq] at c2
        exact kk75 μ1 la _ _ _ (by omega) (h2) (by first | exact Or.inl (by omega) | exact Or.inr ⟨by omega, by assumption⟩) c_h c_a hO0 (lv_sub hl [0, 1, 2] rfl) hw
      · rw [fm_cmp_eq] at c2
        refine lv_iinc (v := iN ((la + (-1)))) (lv' := [(2, .int (iN ((la + (-1))))), (0, .ref h), (1, .int (iN (keep)))]) hx hb d_De_cut_69 hl (k := 0) rfl (iN_add _ _) (by decide) rfl (fun ls hl => ?_)
        refine lv_goto (tgt := 54) hx hb d_De_cut_72 (by decide) ?_
        exact ih μ1 (la + -1) _ _ _ (by omega) (by omega) (by intro q p1 p2; by_cases p3 : q = la; rw [p3]; assumption; exact h2 q (by omega) p2) c_h c_a hO0 (lv_sub hl [0, 1, 2] rfl) hw

set_option maxHeartbeats 4000000 in
set_option maxRecDepth 100000 in
/-- K_cut3 -/
theorem K_cut3 {p : Program} {l : Launch} {e : Env} {s : State} {m : MethodId} {args : Array Value} {below : List Frame} {meth : Method} {c : Code} {Q : State → Prop} {D : va_G} {cs : Nat → ClassId} {Z : (Nat → Prop) → State → Heap → Prop} {A : Nat → Prop}  (S : CallFix p m c c_De_cut 4 s args wA "ArithmeticForms$Decimal") (hK : va_K D clsA (tysA cs) s) (hZo : fm_Zok Z) (tT : Nat) (hZc : ∀ A U H, Z A U H → Zc tT A U H) (hZ : Z A s s.heap) (hA : ∀ q, s.heap.size ≤ q → A q) (μ0 : fm_Mu) (h a : Nat) (co sg tp ct : Int) (F : Int → Int) (keep la : Int) (hF : fOk F) (hla : 0 ≤ la ∧ la ≤ 3) (kk116 : ∀ (μ1 : fm_Mu) (ze : Int) (H : Heap) (locs : List Loc) (ls : Array Slot), (0 ≤ ze ∧ ze ≤ 8) → (F la % 10 ^ ze.toNat = 0) → (ze = 8 ∨ F la % 10 ^ (ze + 1).toNat ≠ 0) → (μ1 h = some (oE 2 [.int (iN (co)), .int (iN (sg)), .int (iN (tp)), .int (iN (ct)), .ref a])) → (μ1 a = some (lE cs 4 F)) → fm_O μ0 μ1 [h, a] → lv_has ls 4 [(3, .int (iN (ze))), (2, .int (iN (la))), (0, .ref h), (1, .int (iN (keep)))] → fm_W D clsA A s.heap μ1 H locs → W p l e ({ frames := 2, cells := 0, slots := 0, locals := 44 }) s m args below meth c H locs 0 0 Q (F0 m 116 ls [])) : ∀ (fu : Nat) (μ1 : fm_Mu) (ze : Int) (H : Heap) (locs : List Loc) (ls : Array Slot), 10 - ze < (fu : Int) → (0 ≤ ze ∧ ze ≤ 8) → (F la % 10 ^ ze.toNat = 0) → (μ1 h = some (oE 2 [.int (iN (co)), .int (iN (sg)), .int (iN (tp)), .int (iN (ct)), .ref a])) → (μ1 a = some (lE cs 4 F)) → fm_O μ0 μ1 [h, a] → lv_has ls 4 [(3, .int (iN (ze))), (2, .int (iN (la))), (0, .ref h), (1, .int (iN (keep)))] → fm_W D clsA A s.heap μ1 H locs → W p l e ({ frames := 2, cells := 0, slots := 0, locals := 44 }) s m args below meth c H locs 0 0 Q (F0 m 86 ls []) := by
  obtain ⟨hx, hb, hml, hown, hts⟩ := id S
  have hzc := hZc _ _ _ hZ
  intro fu
  induction fu with
  | zero =>
    intro μ1 ze H locs ls hn hi h1 c_h c_a hO0 hl hw
    exfalso; omega
  | succ fu ih =>
    intro μ1 ze H locs ls hn hi h1 c_h c_a hO0 hl hw
    refine lv_iload_n hx hb d_De_cut_86 rfl (lv_at hl 0 rfl) ?_
    refine fm_bipush S d_De_cut_87 (by decide) ?_
    refine fm_icmp_ge (tgt := 116) S (by omega) (by omega) d_De_cut_89 (by decide) (fun c1 => ?_) (fun c1 => ?_)
    · exact kk116 μ1 ze _ _ _ (by omega) (h1) (by first | exact Or.inl (by omega) | (refine Or.inr ?_; rw [← hi]; assumption)) c_h c_a hO0 (lv_sub hl [0, 1, 2, 3] rfl) hw
    · have hf := hF la (by omega) (by omega)
      refine lv_aload_n hx hb d_De_cut_92 rfl (lv_at hl 2 rfl) ?_
      refine fm_get S hK hw c_h i_De rfl 4 (by decide) (hts _ k44) (fun _ h => h) rfl d_De_cut_93 ?_
      refine lv_iload_n hx hb d_De_cut_96 rfl (lv_at hl 1 rfl) ?_
      refine cl_lald S hK hw c_a (by omega) d_De_cut_97 ?_
      refine lv_iload_n hx hb d_De_cut_98 rfl (lv_at hl 0 rfl) ?_
      refine fm_iconst S d_De_cut_99 ?_
      refine fm_iadd S d_De_cut_100 ?_
      refine fm_callSl (va_runSN (As := [.int (iN ((ze + 1)))]) (rest := [.long (jN ((F la)))]) S (t_AF_ten l D cs Z hZo tT hZc μ1 _ (ze + 1) (by omega)) ⟨cwNA 1 hts k85 rfl rfl hzc.2.2.1.2.2.1 k1 (by decide +kernel) (by decide), hts _ k84, trivial⟩ (fm_pre hZo hK hw hZ hA _) rfl rfl hl.1 rfl (lv_room (Nat.le_of_ble_eq_true rfl)) d_De_cut_101 ⟨Nat.le_of_ble_eq_true rfl, Nat.le_of_ble_eq_true rfl⟩) (fun x3 q2 => ?_)
      have ht := tenV_in (k := ze + 1)
      have hm := md_le hf.1 (show 0 < x3 by omega)
      have ex3 := q2
      rw [tenV_e (by omega) (by omega)] at ex3
      refine fm_lremN S (by omega) d_De_cut_104 ?_
      refine fm_lconst0 S d_De_cut_105 ?_
      refine fm_lcmp S (by omega) (by omega) d_De_cut_106 ?_
      refine fm_if_ne (tgt := 116) S (fm_cmp_in _ _) d_De_cut_107 (by decide) (fun c4 => ?_) (fun c4 => ?_)
      · rw [fm_cmp_eq] at c4
        exact kk116 μ1 ze _ _ _ (by omega) (h1) (by first | exact Or.inl (by omega) | (refine Or.inr ?_; rw [← ex3]; assumption)) c_h c_a hO0 (lv_sub hl [0, 1, 2, 3] rfl) hw
      · rw [fm_cmp_eq] at c4
        refine lv_iinc (v := iN ((ze + 1))) (lv' := [(3, .int (iN ((ze + 1)))), (2, .int (iN (la))), (0, .ref h), (1, .int (iN (keep)))]) hx hb d_De_cut_110 hl (k := 0) rfl (iN_add _ _) (by decide) rfl (fun ls hl => ?_)
        refine lv_goto (tgt := 86) hx hb d_De_cut_113 (by decide) ?_
        exact ih μ1 (ze + 1) _ _ _ (by omega) (by omega) (by rw [← ex3]; assumption) c_h c_a hO0 (lv_sub hl [0, 1, 2, 3] rfl) hw

set_option maxHeartbeats 4000000 in
set_option maxRecDepth 100000 in
/-- cut(keep) -/
theorem t_De_cut (l : Launch) (D : va_G) (cs : Nat → ClassId) (Z : (Nat → Prop) → State → Heap → Prop) (hZo : fm_Zok Z) (tT : Nat) (hZc : ∀ A U H, Z A U H → Zc tT A U H) (μ : fm_Mu) (sz : Nat) (h : Nat) (a : Nat) (co : Int) (sg : Int) (tp : Int) (ct : Int) (F : Int → Int) (N : Nat) (keep : Int) (hF : fOk F) (hN : L4 F = N) (hkp : -1000 ≤ keep ∧ keep ≤ 1000) (c_h : μ h = some (oE 2 [.int (iN (co)), .int (iN (sg)), .int (iN (tp)), .int (iN (ct)), .ref a])) (c_a : μ a = some (lE cs 4 F)) : Met l y_De_cut (Cond.code y_De_cut c_De_cut 4 none :: wA) ({ frames := 2, cells := 0, slots := 0, locals := 44 }) (fm_Pc D clsA (tysA cs) Z μ sz [.ref h, .int (iN (keep))]) (fm_Qv D clsA (tysA cs) μ sz (fun μ' => ∃ F' : Int → Int, μ' a = some (lE cs 4 F') ∧ fOk F' ∧ L4 F' = (cutM keep N : Int) ∧ ((cutM keep N = 0 ∧ μ' h = some (dE 0 0 0 0 a)) ∨ (cutM keep N ≠ 0 ∧ μ' h = some (dE co sg tp ((32 - tz (cutM keep N) : Nat) : Int) a))) ∧ fm_O μ μ' [h, a])) 0 0 (fm_A μ sz) := by
  refine cl_of (by decide +kernel) (Nat.le_of_ble_eq_true rfl) (fun p e s m below meth c S hr hlocks hnm hsz hw hK hZ hA ls hl => ?_)
  subst hsz
  replace S : CallFix p m c c_De_cut 4 s _ wA "ArithmeticForms$Decimal" := S
  obtain ⟨hx, hb, hml, hown, hts⟩ := id S
  have hzc := hZc _ _ _ hZ
  have hO0 : fm_O μ μ [h, a] := fm_O.rf
  have hl : lv_has ls 4 [(0, .ref h), (1, .int (iN (keep)))] := hl
  refine fm_iconst S d_De_cut_0 ?_
  refine lv_istore_n (lv' := [(2, .int (iN (0))), (0, .ref h), (1, .int (iN (keep)))]) hx hb d_De_cut_1 rfl hl (by decide) rfl (fun ls hl => ?_)
  refine K_cut1 (Z := Z) S hK hZo tT hZc hZ hA μ h a co sg tp ct F keep hF hkp (fun μ1 i F1 H locs ls hi1 hc1 c_h c_a hO0 hl hw => ?_) (20) μ 0 F _ _ _ (by omega) (by omega) (by intro q p1 p2; omega) (by intro q p1 p2; rfl) c_h c_a hO0 (lv_sub hl [0, 1, 2] rfl) hw
  obtain ⟨hF1, hN1⟩ := cut_L4 hF hN (fun q p1 p2 => hc1 q p1 (by omega))
  refine fm_iconst S d_De_cut_52 ?_
  refine lv_istore_n (lv' := [(2, .int (iN (3))), (0, .ref h), (1, .int (iN (keep)))]) hx hb d_De_cut_53 rfl hl (by decide) rfl (fun ls hl => ?_)
  refine K_cut2 (Z := Z) S hK hZo tT hZc hZ hA μ h a co sg tp ct F1 keep hF1 (fun μ2 la H locs ls hi2 hc2 hc3 c_h c_a hO0 hl hw => ?_) (20) μ1 3 _ _ _ (by omega) (by omega) (by intro q p1 p2; omega) c_h c_a hO0 (lv_sub hl [0, 1, 2] rfl) hw
  refine lv_iload_n hx hb d_De_cut_75 rfl (lv_at hl 0 rfl) ?_
  refine fm_if_ge (tgt := 84) S (by omega) d_De_cut_76 (by decide) (fun c3 => ?_) (fun c3 => ?_)
  · refine fm_iconst S d_De_cut_84 ?_
    refine lv_istore_n (lv' := [(3, .int (iN (0))), (2, .int (iN (la))), (0, .ref h), (1, .int (iN (keep)))]) hx hb d_De_cut_85 rfl hl (by decide) rfl (fun ls hl => ?_)
    have hla : 0 ≤ la ∧ la ≤ 3 := by omega
    refine K_cut3 (Z := Z) S hK hZo tT hZc hZ hA μ h a co sg tp ct F1 keep la hF1 hla (fun μ4 ze H locs ls hi3 hc4 hc5 c_h c_a hO0 hl hw => ?_) (20) μ2 0 _ _ _ (by omega) (by omega) (by simp [Int.emod_one]) c_h c_a hO0 (lv_sub hl [0, 1, 2, 3] rfl) hw
    refine lv_aload_n hx hb d_De_cut_116 rfl (lv_at hl 2 rfl) ?_
    refine lv_iload_n hx hb d_De_cut_117 rfl (lv_at hl 1 rfl) ?_
    refine fm_iconst S d_De_cut_118 ?_
    refine fm_iadd S d_De_cut_119 ?_
    refine fm_bipush S d_De_cut_120 (by decide) ?_
    refine fm_imul S d_De_cut_122 ?_
    refine lv_iload_n hx hb d_De_cut_123 rfl (lv_at hl 0 rfl) ?_
    refine fm_isub S d_De_cut_124 ?_
    refine fm_put S hK hw c_h i_De rfl t_De t_De_ok n_De 3 (by decide) (hts _ k41) (fun _ h => h) rfl (ty := .int) (by decide +kernel) rfl rfl (Nat.le_of_ble_eq_true rfl) d_De_cut_125 (fun μ5 H locs hw hq hO => ?_)
    have k_a : μ5 a = some (lE cs 4 F1) := hO.at (nmc (fm_kn c_a c_h rfl) nm0) c_a
    have k_h : μ5 h = some (oE 2 [.int (iN (co)), .int (iN (sg)), .int (iN (tp)), .int (iN ((((la + 1) * 8) - ze))), .ref a]) := hq
    have hO0 := hO0.tr1 hO (by simp)
    clear c_h c_a
    have c_a := k_a; clear k_a
    have c_h := k_h; clear k_h
    clear hq hO
    refine fm_vret S hr hlocks hK hw d_De_cut_128 ?_
    obtain ⟨g1, g2⟩ := cut_tz hF1 hN1 hla (by rcases hc3 with h | h; omega; exact h.2) hc2 hi3 hc4 hc5
    rw [g2] at c_h
    exact ⟨F1, c_a, hF1, hN1, Or.inr ⟨g1, c_h⟩, hO0⟩
  · refine lv_aload_n hx hb d_De_cut_79 rfl (lv_at hl 1 rfl) ?_
    refine fm_callv (va_runV (As := []) (rest := []) S (t_De_clear l D cs Z hZo tT hZc μ2 _ h a co sg tp ct F1 c_h c_a) (cwV 0 hts (gV k76 k77 k78 k2 k79) rfl rfl rfl (by decide +kernel) (by decide)) (fm_preV hZo hK hw hZ hA c_h rfl _) rfl rfl hl.1 rfl (lv_room (Nat.le_of_ble_eq_true rfl)) d_De_cut_80 ⟨Nat.le_of_ble_eq_true rfl, Nat.le_of_ble_eq_true rfl⟩) hw hA (fun μ7 H locs q6 hw => ?_)
    obtain ⟨F8, hq, hq2, eF8, hO⟩ := q6
    have k_h : μ7 h = some (oE 2 [.int (iN (0)), .int (iN (0)), .int (iN (0)), .int (iN (0)), .ref a]) := hq
    have k_a : μ7 a = some (lE cs 4 F8) := hq2
    have hO0 := hO0.tr1 hO (by simp)
    clear c_h c_a
    have c_h := k_h; clear k_h
    have c_a := k_a; clear k_a
    clear hq hq2 hO
    refine fm_vret S hr hlocks hK hw d_De_cut_83 ?_
    have hz : cutM keep N = 0 := by
      have e : L4 F1 = 0 := by
        unfold L4
        rw [hc2 0 (by omega) (by decide), hc2 1 (by omega) (by decide), hc2 2 (by omega) (by decide), hc2 3 (by omega) (by decide)]; rfl
      omega
    have hd0 := dF.z eF8
    exact ⟨F8, c_a, hd0.1, by rw [hz, hd0.2, mN_0], Or.inl ⟨hz, c_h⟩, hO0⟩

def bd (i q : Int) : Int := 10 ^ (min 8 (8 * q + 7 - i)).toNat
/-- while a long's digits are laid: k of them are -/
def LdF (v : Int) (len i : Int) (F : Int → Int) (n : Int) : Prop := (∀ q : Int, 0 ≤ q → q < 4 → 0 ≤ F q ∧ F q < bd i q) ∧ L4 F = ((v.natAbs % 10 ^ (len - 1 - i).toNat * 10 ^ (32 - len).toNat : Nat) : Int) ∧ n.natAbs = v.natAbs / 10 ^ (len - 1 - i).toNat ∧ inJ n
theorem bd_le (i q : Int) : 1 ≤ bd i q ∧ bd i q ≤ 100000000 := by
  unfold bd
  have h1 := Nat.pow_le_pow_right (n := 10) (by decide) (show (min 8 (8 * q + 7 - i)).toNat ≤ 8 by omega)
  have h2 := p10c (min 8 (8 * q + 7 - i)).toNat
  have h3 := p10N (min 8 (8 * q + 7 - i)).toNat
  have e : (10 : Nat) ^ 8 = 100000000 := by decide
  omega
theorem L4_up {F F' : Int → Int} {j x : Int} (hj : 0 ≤ j ∧ j < 4) (e : F' = uI F j x) : L4 F' = L4 F + (x - F j) * 10 ^ (8 * (3 - j)).toNat := by
  subst e
  unfold L4 uI
  rcases (show j = 0 ∨ j = 1 ∨ j = 2 ∨ j = 3 by omega) with h | h | h | h <;> subst h <;> simp <;> omega
theorem LdF.start {v len : Int} {F : Int → Int} (h : ∀ q : Int, 0 ≤ q → q < (4 : Nat) → F q = 0) (hj : inJ v) : LdF v len (len - 1) F v := by
  refine ⟨fun q a b => ?_, ?_, ?_, hj⟩
  · rw [h q a (by omega)]
    have := bd_le (len - 1) q
    omega
  · unfold L4
    rw [h 0 (by decide) (by decide), h 1 (by decide) (by decide), h 2 (by decide) (by decide), h 3 (by decide) (by decide), show (len - 1 - (len - 1)).toNat = 0 by omega]
    simp [Nat.mod_one]
  · rw [show (len - 1 - (len - 1)).toNat = 0 by omega]; simp
theorem LdF.step {v len i n x t : Int} {F F' : Int → Int} (h : LdF v len i F n) (hl : 1 ≤ len ∧ len ≤ 19) (hi : 0 ≤ i ∧ i ≤ len - 1) (hx : x = ((n.tmod 10).natAbs : Int)) (ht : t = tenV (7 - i % 8)) (e : F' = uI F (i / 8) (F (i / 8) + x * t)) : LdF v len (i + -1) F' (n.tdiv 10) := by
  obtain ⟨h1, h2, h3, h4⟩ := h
  have hd : x = ((v.natAbs / 10 ^ (len - 1 - i).toNat % 10 : Nat) : Int) := by
    rw [hx, ← h3, show (n.tmod 10).natAbs = n.natAbs % 10 from Int.natAbs_tmod n 10]
  rw [tenV_e (by omega) (by omega)] at ht
  have hb : bd (i + -1) (i / 8) = 10 * bd i (i / 8) ∧ t = bd i (i / 8) := by
    unfold bd
    refine ⟨?_, ?_⟩
    · rw [show (min 8 (8 * (i / 8) + 7 - (i + -1))).toNat = (min 8 (8 * (i / 8) + 7 - i)).toNat + 1 by omega, Int.pow_succ, Int.mul_comm]
    · rw [ht]; congr 1; omega
  have hx9 : 0 ≤ x ∧ x ≤ 9 := by omega
  have hbl := bd_le i (i / 8)
  have hxt : 0 ≤ x * t ∧ x * t ≤ 9 * t := ⟨Int.mul_nonneg hx9.1 (by omega), Int.mul_le_mul_of_nonneg_right hx9.2 (by omega)⟩
  refine ⟨fun q a b => ?_, ?_, ?_, ?_⟩
  · by_cases hq : q = i / 8
    · rw [hq, e, uI_s]
      have := h1 (i / 8) (by omega) (by omega)
      omega
    · rw [e, uI_n hq]
      have := h1 q a b
      have e2 : bd (i + -1) q = bd i q := by
        unfold bd
        congr 1
        omega
      rw [e2]; exact this
  · rw [L4_up (by omega) e, h2, ht, hd]
    rw [show F (i / 8) + ((v.natAbs / 10 ^ (len - 1 - i).toNat % 10 : Nat) : Int) * 10 ^ (7 - i % 8).toNat - F (i / 8) = ((v.natAbs / 10 ^ (len - 1 - i).toNat % 10 : Nat) : Int) * 10 ^ (7 - i % 8).toNat by omega]
    rw [← p10c, ← p10c, ← Int.natCast_mul, ← Int.natCast_mul, ← Int.natCast_add]
    congr 1
    rw [show (len - 1 - (i + -1)).toNat = (len - 1 - i).toNat + 1 by omega, Nat.pow_succ, Nat.mod_mul, Nat.add_mul]
    congr 1
    rw [Nat.mul_assoc, ← Nat.pow_add, Nat.mul_comm (10 ^ (len - 1 - i).toNat), Nat.mul_assoc, ← Nat.pow_add]
    congr 2
    omega
  · rw [show (len - 1 - (i + -1)).toNat = (len - 1 - i).toNat + 1 by omega, Nat.pow_succ, ← Nat.div_div_eq_div_mul, ← h3]
    exact Int.natAbs_tdiv n 10
  · exact td_in h4 (by decide)
theorem LdF.fin {v len : Int} {F : Int → Int} {n : Int} (h : LdF v len (-1) F n) (hl : 1 ≤ len ∧ len ≤ 19) (hv : v.natAbs < 10 ^ len.toNat) : fOk F ∧ L4 F = ((v.natAbs * 10 ^ (32 - len).toNat : Nat) : Int) := by
  refine ⟨fun q a b => ?_, ?_⟩
  · have h1 := h.1 q a b
    have h2 := bd_le (-1) q
    omega
  · rw [h.2.1, show (len - 1 - -1).toNat = len.toNat by omega, Nat.mod_eq_of_lt hv]

theorem ld19 {v len : Int} (hj : inJ v) (h : 19 ≤ len) : v.natAbs < 10 ^ len.toNat := by
  have h1 := Nat.pow_le_pow_right (n := 10) (by decide) (show 19 ≤ len.toNat by omega)
  have e19 : (10 : Nat) ^ 19 = 10000000000000000000 := by decide
  omega
theorem tm10 (n : Int) : -9 ≤ Int.tmod n 10 ∧ Int.tmod n 10 ≤ 9 := by
  have h : (n.tmod 10).natAbs = n.natAbs % 10 := Int.natAbs_tmod n 10
  omega
theorem td_lt {v : Int} {k : Nat} (h : Int.tdiv v (10 ^ k) = 0) : v.natAbs < 10 ^ k := by
  have h1 := Int.natAbs_tdiv v (10 ^ k)
  rw [h] at h1
  have h2 : (10 ^ k : Int).natAbs = 10 ^ k := by rw [← p10c]; exact Int.natAbs_natCast _
  rw [h2] at h1
  simp only [Int.natAbs_zero] at h1
  have h3 := h1.symm
  rcases Nat.div_eq_zero_iff.mp h3 with h4 | h4
  · have := p10N k; omega
  · exact h4
theorem td_ge {v : Int} {k : Nat} (h : ¬ Int.tdiv v (10 ^ k) = 0) : 10 ^ k ≤ v.natAbs := by
  rcases Nat.lt_or_ge v.natAbs (10 ^ k) with h1 | h1
  · exfalso
    apply h
    have h2 := Int.natAbs_tdiv v (10 ^ k)
    have h3 : (10 ^ k : Int).natAbs = 10 ^ k := by rw [← p10c]; exact Int.natAbs_natCast _
    rw [h3] at h2
    have h4 : (Int.tdiv v (10 ^ k)).natAbs = v.natAbs / 10 ^ k := h2
    rw [Nat.div_eq_of_lt h1] at h4
    omega
  · exact h1

set_option maxHeartbeats 4000000 in
set_option maxRecDepth 100000 in
/-- K_ldA -/
theorem K_ldA {p : Program} {l : Launch} {e : Env} {s : State} {m : MethodId} {args : Array Value} {below : List Frame} {meth : Method} {c : Code} {Q : State → Prop} {D : va_G} {cs : Nat → ClassId} {Z : (Nat → Prop) → State → Heap → Prop} {A : Nat → Prop}  (S : CallFix p m c c_De_load 8 s args wA "ArithmeticForms$Decimal") (hK : va_K D clsA (tysA cs) s) (hZo : fm_Zok Z) (tT : Nat) (hZc : ∀ A U H, Z A U H → Zc tT A U H) (hZ : Z A s s.heap) (hA : ∀ q, s.heap.size ≤ q → A q) (μ0 : fm_Mu) (h a : Nat) (F : Int → Int) (v sc : Int) (hj : inJ v) (kk39 : ∀ (μ1 : fm_Mu) (len : Int) (H : Heap) (locs : List Loc) (ls : Array Slot), (1 ≤ len ∧ len ≤ 19) → (10 ^ (len - 1).toNat ≤ v.natAbs) → (v.natAbs < 10 ^ len.toNat) → (μ1 h = some (oE 2 [.int (iN (0)), .int (iN (0)), .int (iN (0)), .int (iN (0)), .ref a])) → (μ1 a = some (lE cs 4 F)) → fm_O μ0 μ1 [h, a] → lv_has ls 8 [(4, .int (iN (len))), (0, .ref h), (1, .long (jN (v))), (3, .int (iN (sc)))] → fm_W D clsA A s.heap μ1 H locs → W p l e ({ frames := 3, cells := 0, slots := 0, locals := 67 }) s m args below meth c H locs 0 0 Q (F0 m 39 ls [])) : ∀ (fu : Nat) (μ1 : fm_Mu) (len : Int) (H : Heap) (locs : List Loc) (ls : Array Slot), 30 - len < (fu : Int) → (1 ≤ len ∧ len ≤ 19) → (10 ^ (len - 1).toNat ≤ v.natAbs) → (μ1 h = some (oE 2 [.int (iN (0)), .int (iN (0)), .int (iN (0)), .int (iN (0)), .ref a])) → (μ1 a = some (lE cs 4 F)) → fm_O μ0 μ1 [h, a] → lv_has ls 8 [(4, .int (iN (len))), (0, .ref h), (1, .long (jN (v))), (3, .int (iN (sc)))] → fm_W D clsA A s.heap μ1 H locs → W p l e ({ frames := 3, cells := 0, slots := 0, locals := 67 }) s m args below meth c H locs 0 0 Q (F0 m 14 ls []) := by
  obtain ⟨hx, hb, hml, hown, hts⟩ := id S
  have hzc := hZc _ _ _ hZ
  intro fu
  induction fu with
  | zero =>
    intro μ1 len H locs ls hn hi h1 c_h c_a hO0 hl hw
    exfalso; omega
  | succ fu ih =>
    intro μ1 len H locs ls hn hi h1 c_h c_a hO0 hl hw
    refine lv_iload hx hb d_De_load_14 (lv_at hl 0 rfl) ?_
    refine fm_bipush S d_De_load_16 (by decide) ?_
    refine fm_icmp_ge (tgt := 39) S (by omega) (by omega) d_De_load_18 (by decide) (fun c1 => ?_) (fun c1 => ?_)
    · exact kk39 μ1 len _ _ _ (by omega) (h1) (ld19 hj (by omega)) c_h c_a hO0 (lv_sub hl [0, 1, 2, 3] rfl) hw
    · refine lv_lload_n hx hb d_De_load_21 rfl (lv_at hl 2 rfl) ?_
      refine lv_iload hx hb d_De_load_22 (lv_at hl 0 rfl) ?_
      refine fm_callSl (va_runSN (As := [.int (iN (len))]) (rest := [.long (jN (v))]) S (t_AF_ten l D cs Z hZo tT hZc μ1 _ len (by omega)) ⟨cwNA 1 hts k85 rfl rfl hzc.2.2.1.2.2.1 k1 (by decide +kernel) (by decide), hts _ k84, trivial⟩ (fm_pre hZo hK hw hZ hA _) rfl rfl hl.1 rfl (lv_room (Nat.le_of_ble_eq_true rfl)) d_De_load_24 ⟨Nat.le_of_ble_eq_true rfl, Nat.le_of_ble_eq_true rfl⟩) (fun x3 q2 => ?_)
      have ht := tenV_in (k := len)
      have htd := td_in (b := x3) hj (by omega)
      have ex3 := q2
      rw [tenV_e (by omega) (by omega)] at ex3
      refine fm_ldiv S (by omega) d_De_load_27 ?_
      refine fm_lconst0 S d_De_load_28 ?_
      refine fm_lcmp S (by omega) (by omega) d_De_load_29 ?_
      refine fm_if_eq (tgt := 39) S (fm_cmp_in _ _) d_De_load_30 (by decide) (fun c4 => ?_) (fun c4 => ?_)
      · rw [fm_cmp_eq] at c4
        exact kk39 μ1 len _ _ _ (by omega) (h1) (by rw [ex3] at *; exact td_lt (by assumption)) c_h c_a hO0 (lv_sub hl [0, 1, 2, 3] rfl) hw
      · rw [fm_cmp_eq] at c4
        refine lv_iinc (v := iN ((len + 1))) (lv' := [(4, .int (iN ((len + 1)))), (0, .ref h), (1, .long (jN (v))), (3, .int (iN (sc)))]) hx hb d_De_load_33 hl (k := 0) rfl (iN_add _ _) (by decide) rfl (fun ls hl => ?_)
        refine lv_goto (tgt := 14) hx hb d_De_load_36 (by decide) ?_
        exact ih μ1 (len + 1) _ _ _ (by omega) (by omega) (by rw [show (len + 1 - 1).toNat = len.toNat by omega]; rw [ex3] at *; exact td_ge (by assumption)) c_h c_a hO0 (lv_sub hl [0, 1, 2, 3] rfl) hw

set_option maxHeartbeats 4000000 in
set_option maxRecDepth 100000 in
/-- K_ldB -/
theorem K_ldB {p : Program} {l : Launch} {e : Env} {s : State} {m : MethodId} {args : Array Value} {below : List Frame} {meth : Method} {c : Code} {Q : State → Prop} {D : va_G} {cs : Nat → ClassId} {Z : (Nat → Prop) → State → Heap → Prop} {A : Nat → Prop}  (S : CallFix p m c c_De_load 8 s args wA "ArithmeticForms$Decimal") (hK : va_K D clsA (tysA cs) s) (hZo : fm_Zok Z) (tT : Nat) (hZc : ∀ A U H, Z A U H → Zc tT A U H) (hZ : Z A s s.heap) (hA : ∀ q, s.heap.size ≤ q → A q) (μ0 : fm_Mu) (h a : Nat) (v sc len : Int) (hj : inJ v) (hl19 : 1 ≤ len ∧ len ≤ 19) (kk101 : ∀ (μ1 : fm_Mu) (i : Int) (n : Int) (F1 : Int → Int) (H : Heap) (locs : List Loc) (ls : Array Slot), (i = -1) → (LdF v len i F1 n) → (μ1 h = some (oE 2 [.int (iN (0)), .int (iN (0)), .int (iN (0)), .int (iN (0)), .ref a])) → (μ1 a = some (lE cs 4 F1)) → fm_O μ0 μ1 [h, a] → lv_has ls 8 [(7, .int (iN (i))), (5, .long (jN (n))), (4, .int (iN (len))), (0, .ref h), (1, .long (jN (v))), (3, .int (iN (sc)))] → fm_W D clsA A s.heap μ1 H locs → W p l e ({ frames := 3, cells := 0, slots := 0, locals := 67 }) s m args below meth c H locs 0 0 Q (F0 m 101 ls [])) : ∀ (fu : Nat) (μ1 : fm_Mu) (i : Int) (n : Int) (F1 : Int → Int) (H : Heap) (locs : List Loc) (ls : Array Slot), i + 10 < (fu : Int) → (-1 ≤ i ∧ i ≤ len - 1) → (LdF v len i F1 n) → (μ1 h = some (oE 2 [.int (iN (0)), .int (iN (0)), .int (iN (0)), .int (iN (0)), .ref a])) → (μ1 a = some (lE cs 4 F1)) → fm_O μ0 μ1 [h, a] → lv_has ls 8 [(7, .int (iN (i))), (5, .long (jN (n))), (4, .int (iN (len))), (0, .ref h), (1, .long (jN (v))), (3, .int (iN (sc)))] → fm_W D clsA A s.heap μ1 H locs → W p l e ({ frames := 3, cells := 0, slots := 0, locals := 67 }) s m args below meth c H locs 0 0 Q (F0 m 48 ls []) := by
  obtain ⟨hx, hb, hml, hown, hts⟩ := id S
  have hzc := hZc _ _ _ hZ
  intro fu
  induction fu with
  | zero =>
    intro μ1 i n F1 H locs ls hn hi hLd c_h c_a hO0 hl hw
    exfalso; omega
  | succ fu ih =>
    intro μ1 i n F1 H locs ls hn hi hLd c_h c_a hO0 hl hw
    refine lv_iload hx hb d_De_load_48 (lv_at hl 0 rfl) ?_
    refine fm_if_lt (tgt := 101) S (by omega) d_De_load_50 (by decide) (fun c1 => ?_) (fun c1 => ?_)
    · exact kk101 μ1 i n F1 _ _ _ (by omega) (hLd) c_h c_a hO0 (lv_sub hl [0, 1, 2, 3, 4, 5] rfl) hw
    · have hbb := hLd.1 (i / 8) (by omega) (by omega)
      have hbl := bd_le i (i / 8)
      have hnj := hLd.2.2.2
      have htm := tm10 n
      refine lv_aload_n hx hb d_De_load_53 rfl (lv_at hl 3 rfl) ?_
      refine fm_get S hK hw c_h i_De rfl 4 (by decide) (hts _ k44) (fun _ h => h) rfl d_De_load_54 ?_
      refine lv_iload hx hb d_De_load_57 (lv_at hl 0 rfl) ?_
      refine fm_bipush S d_De_load_59 (by decide) ?_
      refine fm_idivN S (by omega) d_De_load_61 ?_
      refine lv_dup2_11 hx hb d_De_load_62 rfl rfl ?_
      refine cl_lald S hK hw c_a (by omega) d_De_load_63 ?_
      refine lv_lload hx hb d_De_load_64 (lv_at hl 1 rfl) ?_
      refine lv_ldc2 (v := jN 10) hx hb hown (hts _ k88) d_De_load_66 ?_
      refine fm_lrem S (by omega) d_De_load_69 ?_
      refine fm_callSl (va_runS (As := [.long (jN ((Int.tmod n 10)))]) (rest := [.long (jN ((F1 (i / 8)))), .int (iN ((i / 8))), .ref a]) S (t_Ma_abs l D cs Z hZo tT hZc μ1 _ (Int.tmod n 10) (by omega)) (va_cwS 1 hts (gS k89 k90 k4 k91) rfl rfl rfl (by decide +kernel) (by decide)) (fm_pre hZo hK hw hZ hA _) rfl rfl hl.1 rfl (lv_room (Nat.le_of_ble_eq_true rfl)) d_De_load_70 ⟨Nat.le_of_ble_eq_true rfl, Nat.le_of_ble_eq_true rfl⟩) (fun x3 q2 => ?_)
      refine fm_bipush S d_De_load_73 (by decide) ?_
      refine lv_iload hx hb d_De_load_75 (lv_at hl 0 rfl) ?_
      refine fm_bipush S d_De_load_77 (by decide) ?_
      refine fm_iremN S (by omega) d_De_load_79 ?_
      refine fm_isub S d_De_load_80 ?_
      refine fm_callSl (va_runSN (As := [.int (iN ((7 - (i % 8))))]) (rest := [.long (jN (x3)), .long (jN ((F1 (i / 8)))), .int (iN ((i / 8))), .ref a]) S (t_AF_ten l D cs Z hZo tT hZc μ1 _ (7 - (i % 8)) (by omega)) ⟨cwNA 1 hts k85 rfl rfl hzc.2.2.1.2.2.1 k1 (by decide +kernel) (by decide), hts _ k84, trivial⟩ (fm_pre hZo hK hw hZ hA _) rfl rfl hl.1 rfl (lv_room (Nat.le_of_ble_eq_true rfl)) d_De_load_81 ⟨Nat.le_of_ble_eq_true rfl, Nat.le_of_ble_eq_true rfl⟩) (fun x5 q4 => ?_)
      refine fm_lmul S d_De_load_84 ?_
      refine fm_ladd S d_De_load_85 ?_
      refine cl_last S hK hw c_a (by omega) d_De_load_86 (fun F6 μ7 H locs eF6 hw hq hO => ?_)
      have k_h : μ7 h = some (oE 2 [.int (iN (0)), .int (iN (0)), .int (iN (0)), .int (iN (0)), .ref a]) := hO.at (nmc (fm_kn c_h c_a rfl) nm0) c_h
      have k_a : μ7 a = some (lE cs 4 F6) := hq
      have hO0 := hO0.tr1 hO (by simp)
      clear c_h c_a
      have c_h := k_h; clear k_h
      have c_a := k_a; clear k_a
      clear hq hO
      refine lv_lload hx hb d_De_load_87 (lv_at hl 1 rfl) ?_
      refine lv_ldc2 (v := jN 10) hx hb hown (hts _ k88) d_De_load_89 ?_
      refine fm_ldiv S (by omega) d_De_load_92 ?_
      refine fm_topl (fun x8 hx8 => ?_)
      refine lv_lstore (lv' := [(5, .long (jN (x8))), (7, .int (iN (i))), (4, .int (iN (len))), (0, .ref h), (1, .long (jN (v))), (3, .int (iN (sc)))]) hx hb d_De_load_93 hl (by decide) rfl (fun ls hl => ?_)
      refine lv_iinc (v := iN ((i + (-1)))) (lv' := [(7, .int (iN ((i + (-1))))), (5, .long (jN (x8))), (4, .int (iN (len))), (0, .ref h), (1, .long (jN (v))), (3, .int (iN (sc)))]) hx hb d_De_load_95 hl (k := 1) rfl (iN_add _ _) (by decide) rfl (fun ls hl => ?_)
      refine lv_goto (tgt := 48) hx hb d_De_load_98 (by decide) ?_
      exact ih μ7 (i + -1) x8 F6 _ _ _ (by omega) (by omega) (by rw [hx8]; exact hLd.step hl19 (by omega) q2 q4 eF6) c_h c_a hO0 (lv_sub hl [0, 1, 2, 3, 4, 5] rfl) hw

theorem ld_fin {v sc len : Int} {N : Nat} (h0 : v ≠ 0) (hj : inJ v) (hs : 0 ≤ sc ∧ sc ≤ 18) (hl : 1 ≤ len ∧ len ≤ 19) (h1 : 10 ^ (len - 1).toNat ≤ v.natAbs) (h2 : v.natAbs < 10 ^ len.toNat) (hN : N = v.natAbs * 10 ^ (32 - len).toNat) : hV v sc ≠ 0 ∧ sgn (hV v sc) = sgn v ∧ tp (hV v sc) = len - 1 - sc ∧ nd (cN (hV v sc)) = 32 - tz N ∧ mN (hV v sc) = N ∧ dB (hV v sc) ∧ N ≠ 0 ∧ N < 10 ^ 32 := by
  have b1 : 10 ^ 31 ≤ N := by
    rw [hN]
    calc 10 ^ 31 = 10 ^ (len - 1).toNat * 10 ^ (32 - len).toNat := by rw [← Nat.pow_add]; congr 1; omega
      _ ≤ _ := Nat.mul_le_mul_right _ h1
  have b2 : N < 10 ^ 32 := by
    rw [hN]
    calc v.natAbs * 10 ^ (32 - len).toNat < 10 ^ len.toNat * 10 ^ (32 - len).toNat := Nat.mul_lt_mul_of_pos_right h2 (p10N _)
      _ = _ := by rw [← Nat.pow_add]; congr 1; omega
  have hv : hV v sc = sgn v * ((N * 10 ^ (len - 1 - sc + 269).toNat : Nat) : Int) := by
    unfold hV
    rw [hN, Nat.mul_assoc, ← Nat.pow_add, show (32 - len).toNat + (len - 1 - sc + 269).toNat = (300 - sc).toNat by omega, Int.natCast_mul, ← Int.mul_assoc, sgn_abs, p10c]
  obtain ⟨q1, q2, q3, q4, q5, q6⟩ := mkD b1 b2 (sgn_nz h0) (by omega) hv
  have hN0 : N ≠ 0 := fun e => by rw [e] at b1; exact absurd b1 (by decide)
  have hz : 13 ≤ tz N := by
    rw [hN, tz_mul (by omega)]; omega
  exact ⟨q1, q2, q3, q4, q6, ⟨by rw [q4]; omega, Or.inr (by rw [q3]; omega)⟩, hN0, b2⟩

set_option maxHeartbeats 4000000 in
set_option maxRecDepth 100000 in
/-- load(v, sc) -/
theorem t_De_load (l : Launch) (D : va_G) (cs : Nat → ClassId) (Z : (Nat → Prop) → State → Heap → Prop) (hZo : fm_Zok Z) (tT : Nat) (hZc : ∀ A U H, Z A U H → Zc tT A U H) (μ : fm_Mu) (sz : Nat) (h : Nat) (a : Nat) (co : Int) (sg : Int) (tp : Int) (ct : Int) (F : Int → Int) (v : Int) (sc : Int) (hj : inJ v) (hsc : 0 ≤ sc ∧ sc ≤ 18) (c_h : μ h = some (oE 2 [.int (iN (co)), .int (iN (sg)), .int (iN (tp)), .int (iN (ct)), .ref a])) (c_a : μ a = some (lE cs 4 F)) : Met l y_De_load (Cond.code y_De_load c_De_load 8 none :: wA) ({ frames := 3, cells := 0, slots := 0, locals := 67 }) (fm_Pc D clsA (tysA cs) Z μ sz [.ref h, .long (jN (v)), .int (iN (sc))]) (fm_Qv D clsA (tysA cs) μ sz (fun μ' => Dc cs μ' h a 0 (hV v sc) ∧ fm_O μ μ' [h, a])) 0 0 (fm_A μ sz) := by
  refine cl_of (by decide +kernel) (Nat.le_of_ble_eq_true rfl) (fun p e s m below meth c S hr hlocks hnm hsz hw hK hZ hA ls hl => ?_)
  subst hsz
  replace S : CallFix p m c c_De_load 8 s _ wA "ArithmeticForms$Decimal" := S
  obtain ⟨hx, hb, hml, hown, hts⟩ := id S
  have hzc := hZc _ _ _ hZ
  have hO0 : fm_O μ μ [h, a] := fm_O.rf
  have hl : lv_has ls 8 [(0, .ref h), (1, .long (jN (v))), (3, .int (iN (sc)))] := hl
  refine lv_aload_n hx hb d_De_load_0 rfl (lv_at hl 0 rfl) ?_
  refine fm_callv (va_runV (As := []) (rest := []) S (t_De_clear l D cs Z hZo tT hZc μ _ h a co sg tp ct F c_h c_a) (cwV 0 hts (gV k76 k77 k78 k2 k79) rfl rfl rfl (by decide +kernel) (by decide)) (fm_preV hZo hK hw hZ hA c_h rfl _) rfl rfl hl.1 rfl (lv_room (Nat.le_of_ble_eq_true rfl)) d_De_load_1 ⟨Nat.le_of_ble_eq_true rfl, Nat.le_of_ble_eq_true rfl⟩) hw hA (fun μ2 H locs q1 hw => ?_)
  obtain ⟨F3, hq, hq2, eF3, hO⟩ := q1
  have k_h : μ2 h = some (oE 2 [.int (iN (0)), .int (iN (0)), .int (iN (0)), .int (iN (0)), .ref a]) := hq
  have k_a : μ2 a = some (lE cs 4 F3) := hq2
  have hO0 := hO0.tr1 hO (by simp)
  clear c_h c_a
  have c_h := k_h; clear k_h
  have c_a := k_a; clear k_a
  clear hq hq2 hO
  refine lv_lload_n hx hb d_De_load_4 rfl (lv_at hl 1 rfl) ?_
  refine fm_lconst0 S d_De_load_5 ?_
  refine fm_lcmp S (by omega) (by omega) d_De_load_6 ?_
  refine fm_if_ne (tgt := 11) S (fm_cmp_in _ _) d_De_load_7 (by decide) (fun c4 => ?_) (fun c4 => ?_)
  · rw [fm_cmp_eq] at c4
    have hv0 : v ≠ 0 := by omega
    refine fm_iconst S d_De_load_11 ?_
    refine lv_istore (lv' := [(4, .int (iN (1))), (0, .ref h), (1, .long (jN (v))), (3, .int (iN (sc)))]) hx hb d_De_load_12 hl (by decide) rfl (fun ls hl => ?_)
    refine K_ldA (Z := Z) S hK hZo tT hZc hZ hA μ h a F3 v sc hj (fun μ5 len H locs ls hl19 hl1 hl2 c_h c_a hO0 hl hw => ?_) (40) μ2 1 _ _ _ (by omega) (by omega) (by simp; omega) c_h c_a hO0 (lv_sub hl [0, 1, 2, 3] rfl) hw
    refine lv_lload_n hx hb d_De_load_39 rfl (lv_at hl 2 rfl) ?_
    refine lv_lstore (lv' := [(5, .long (jN (v))), (4, .int (iN (len))), (0, .ref h), (1, .long (jN (v))), (3, .int (iN (sc)))]) hx hb d_De_load_40 hl (by decide) rfl (fun ls hl => ?_)
    refine lv_iload hx hb d_De_load_42 (lv_at hl 1 rfl) ?_
    refine fm_iconst S d_De_load_44 ?_
    refine fm_isub S d_De_load_45 ?_
    refine fm_topi (fun x6 hx6 => ?_)
    refine lv_istore (lv' := [(7, .int (iN (x6))), (5, .long (jN (v))), (4, .int (iN (len))), (0, .ref h), (1, .long (jN (v))), (3, .int (iN (sc)))]) hx hb d_De_load_46 hl (by decide) rfl (fun ls hl => ?_)
    refine K_ldB (Z := Z) S hK hZo tT hZc hZ hA μ h a v sc len hj hl19 (fun μ7 i n F1 H locs ls hi hLd c_h c_a hO0 hl hw => ?_) (60) μ5 x6 v F3 _ _ _ (by omega) (by omega) (by rw [hx6]; exact LdF.start eF3 hj) c_h c_a hO0 (lv_sub hl [0, 1, 2, 3, 4, 5] rfl) hw
    subst hi
    obtain ⟨hF1, hN1⟩ := hLd.fin hl19 hl2
    obtain ⟨g1, g2, g3, g4, g5, g6, g7, g8⟩ := ld_fin hv0 hj hsc hl19 hl1 hl2 rfl
    refine lv_aload_n hx hb d_De_load_101 rfl (lv_at hl 3 rfl) ?_
    refine mo_join (P := fun y => y = sgn v) (g := fun y => F0 m 113 ls ([.int (iN (y)), .ref h])) (fun y hy => ?_) (fun key => ?_)
    · refine fm_put S hK hw c_h i_De rfl t_De t_De_ok n_De 1 (by decide) (hts _ k35) (fun _ h => h) rfl (ty := .int) (by decide +kernel) rfl rfl (Nat.le_of_ble_eq_true rfl) d_De_load_113 (fun μ8 H locs hw hq hO => ?_)
      have k_a : μ8 a = some (lE cs 4 F1) := hO.at (nmc (fm_kn c_a c_h rfl) nm0) c_a
      have k_h : μ8 h = some (oE 2 [.int (iN (0)), .int (iN (y)), .int (iN (0)), .int (iN (0)), .ref a]) := hq
      have hO0 := hO0.tr1 hO (by simp)
      clear c_h c_a
      have c_a := k_a; clear k_a
      have c_h := k_h; clear k_h
      clear hq hO
      refine lv_aload_n hx hb d_De_load_116 rfl (lv_at hl 3 rfl) ?_
      refine lv_iload hx hb d_De_load_117 (lv_at hl 2 rfl) ?_
      refine fm_iconst S d_De_load_119 ?_
      refine fm_isub S d_De_load_120 ?_
      refine lv_iload_n hx hb d_De_load_121 rfl (lv_at hl 5 rfl) ?_
      refine fm_isub S d_De_load_122 ?_
      refine fm_put S hK hw c_h i_De rfl t_De t_De_ok n_De 2 (by decide) (hts _ k39) (fun _ h => h) rfl (ty := .int) (by decide +kernel) rfl rfl (Nat.le_of_ble_eq_true rfl) d_De_load_123 (fun μ9 H locs hw hq hO => ?_)
      have k_a : μ9 a = some (lE cs 4 F1) := hO.at (nmc (fm_kn c_a c_h rfl) nm0) c_a
      have k_h : μ9 h = some (oE 2 [.int (iN (0)), .int (iN (y)), .int (iN (((len - 1) - sc))), .int (iN (0)), .ref a]) := hq
      have hO0 := hO0.tr1 hO (by simp)
      clear c_a c_h
      have c_a := k_a; clear k_a
      have c_h := k_h; clear k_h
      clear hq hO
      refine lv_aload_n hx hb d_De_load_126 rfl (lv_at hl 3 rfl) ?_
      refine fm_bipush S d_De_load_127 (by decide) ?_
      refine fm_callv (va_runV (As := [.int (iN (32))]) (rest := []) S (t_De_cut l D cs Z hZo tT hZc μ9 _ h a 0 y ((len - 1) - sc) 0 F1 (v.natAbs * 10 ^ (32 - len).toNat) 32 hF1 hN1 (by omega) c_h c_a) (cwV 1 hts (gV k92 k93 k94 k2 k95) rfl rfl rfl (by decide +kernel) (by decide)) (fm_preV hZo hK hw hZ hA c_h rfl _) rfl rfl hl.1 rfl (lv_room (Nat.le_of_ble_eq_true rfl)) d_De_load_129 ⟨Nat.le_of_ble_eq_true rfl, Nat.le_of_ble_eq_true rfl⟩) hw hA (fun μ11 H locs q10 hw => ?_)
      obtain ⟨F12, hq2, hokF12, hLF12, hcase, hO⟩ := q10
      have k_a : μ11 a = some (lE cs 4 F12) := hq2
      have hO0 := hO0.tr1 hO (by simp)
      clear c_a c_h
      have c_a := k_a; clear k_a
      clear hq2 hO
      refine fm_vret S hr hlocks hK hw d_De_load_132 ?_
      rw [cutM_32 (by decide)] at hcase hLF12
      rcases hcase with hcase | hcase
      · exact absurd hcase.1 g7
      · have hh := hcase.2
        rw [hy, ← g2, ← g3, ← g4] at hh
        exact ⟨⟨F12, hh, c_a, ⟨hokF12, by rw [hLF12, g5]⟩, g6⟩, hO0⟩
    · refine lv_lload_n hx hb d_De_load_102 rfl (lv_at hl 4 rfl) ?_
      refine fm_lconst0 S d_De_load_103 ?_
      refine fm_lcmp S (by omega) (by omega) d_De_load_104 ?_
      refine fm_if_ge (tgt := 112) S (fm_cmp_in _ _) d_De_load_105 (by decide) (fun c13 => ?_) (fun c13 => ?_)
      · rw [fm_cmp_ge] at c13
        refine fm_iconst S d_De_load_112 ?_
        exact key _ (by unfold sgn; first | rw [if_pos (by omega)] | rw [if_neg (by omega), if_pos (by omega)])
      · rw [fm_cmp_ge] at c13
        refine fm_iconst S d_De_load_108 ?_
        refine lv_goto (tgt := 113) hx hb d_De_load_109 (by decide) ?_
        exact key _ (by unfold sgn; first | rw [if_pos (by omega)] | rw [if_neg (by omega), if_pos (by omega)])
  · rw [fm_cmp_eq] at c4
    refine fm_vret S hr hlocks hK hw d_De_load_10 ?_
    have e : v = 0 := by omega
    subst e
    have e2 : hV 0 sc = 0 := by unfold hV; rw [Int.zero_mul]
    have hd0 := dF.z eF3
    exact ⟨⟨F3, by rw [e2, sgn_0, tp_0, nz_0]; exact c_h, c_a, by rw [e2]; exact hd0, by rw [e2]; exact dB_0⟩, hO0⟩
