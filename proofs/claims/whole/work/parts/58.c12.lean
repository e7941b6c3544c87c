theorem z_De : ∀ j, j < 5 → defaultValue (t_De j) = vp_V [.int (iN (0)), .int (iN (0)), .int (iN (0)), .int (iN (0)), .null] j := by
  intro j hj
  rcases (show j = 0 ∨ j = 1 ∨ j = 2 ∨ j = 3 ∨ j = 4 by omega) with h | h | h | h | h <;> subst h <;> rfl
theorem z_Ca : ∀ j, j < 4 → defaultValue (t_Ca j) = vp_V [.int (iN (0)), .null, .null, .null] j := by
  intro j hj
  rcases (show j = 0 ∨ j = 1 ∨ j = 2 ∨ j = 3 by omega) with h | h | h | h <;> subst h <;> rfl
theorem z_Re : ∀ j, j < 6 → defaultValue (t_Re j) = vp_V [.int (iN (0)), .int (iN (0)), .int (iN (0)), .long (jN (0)), .long (jN (0)), .int (iN (0))] j := by
  intro j hj
  rcases (show j = 0 ∨ j = 1 ∨ j = 2 ∨ j = 3 ∨ j = 4 ∨ j = 5 by omega) with h | h | h | h | h | h <;> subst h <;> rfl
set_option maxHeartbeats 4000000 in
set_option maxRecDepth 100000 in
/-- new Decimal() -/
theorem t_De_init (l : Launch) (D : va_G) (cs : Nat → ClassId) (Z : (Nat → Prop) → State → Heap → Prop) (hZo : fm_Zok Z) (tT : Nat) (hZc : ∀ A U H, Z A U H → Zc tT A U H) (μ : fm_Mu) (sz : Nat) (h : Nat)  (c_h : μ h = some (oE 2 [.int (iN (0)), .int (iN (0)), .int (iN (0)), .int (iN (0)), .null])) : Met l y_De_init (Cond.code y_De_init c_De_init 1 none :: wA) ({ frames := 1, cells := 1, slots := 4, locals := 20 }) (fm_Pc D clsA (tysA cs) Z μ sz [.ref h]) (fm_Qv D clsA (tysA cs) μ sz (fun μ' => ∃ a : Nat, μ a = none ∧ μ' h = some (dE 0 0 0 0 a) ∧ μ' a = some (lE cs 4 (fun _ => 0)) ∧ fm_O μ μ' [h, a])) 1 4 (fm_A μ sz) := by
  refine cl_of (by decide +kernel) (Nat.le_of_ble_eq_true rfl) (fun p e s m below meth c S hr hlocks hnm hsz hw hK hZ hA ls hl => ?_)
  subst hsz
  replace S : CallFix p m c c_De_init 1 s _ wA "ArithmeticForms$Decimal" := S
  obtain ⟨hx, hb, hml, hown, hts⟩ := id S
  have hzc := hZc _ _ _ hZ
  have hO0 : fm_O μ μ [h] := fm_O.rf
  have hl : lv_has ls 1 [(0, .ref h)] := hl
  refine lv_aload_n hx hb d_De_init_0 rfl (lv_at hl 0 rfl) ?_
  refine W.objInit hx hb hown (hts _ k31) (hts _ k21) (hts _ k22) rfl (by rw [hml]; exact hl.1) rfl d_De_init_1 (Nat.le_of_ble_eq_true rfl) (Nat.le_of_ble_eq_true rfl) ?_
  show W p l e _ s m _ below meth c _ _ _ _ _ (F0 m 4 ls [])
  refine lv_aload_n hx hb d_De_init_4 rfl (lv_at hl 0 rfl) ?_
  refine fm_iconst S d_De_init_5 ?_
  refine fm_newa (ty := .long) rfl S hK hw hA (hts _ k57) 1 rfl (fm_j0 4) (by decide) rfl (Nat.le_of_ble_eq_true rfl) (Nat.le_of_ble_eq_true rfl) (Nat.le_of_ble_eq_true rfl) d_De_init_6 (fun a1 μ2 H hw hn hq hO => ?_)
  have ne_h_a1 := nn_ne c_h hn
  have hf_a1 := hO0.fr hn (nmc (Ne.symm ne_h_a1) nm0)
  have hO0 := hO0.mono (l' := [a1, h]) (fun _ h => List.mem_cons_of_mem _ h)
  have k_h : μ2 h = some (oE 2 [.int (iN (0)), .int (iN (0)), .int (iN (0)), .int (iN (0)), .null]) := hO.at (nmc ne_h_a1 nm0) c_h
  have k_a1 : μ2 a1 = some (lE cs 4 (fun _ => 0)) := hq
  have hO0 := hO0.tr1 hO (by simp)
  clear c_h
  have c_h := k_h; clear k_h
  have c_a1 := k_a1; clear k_a1
  clear hn hq hO
  refine fm_putF S hK hw c_h i_De rfl t_De t_De_ok n_De 4 (by decide) (hts _ k44) (fun _ h => h) rfl hnm rfl (ty := (.array .long)) (by decide +kernel) rfl rfl (Nat.le_of_ble_eq_true rfl) d_De_init_8 (fun μ3 H locs hw hq hO => ?_)
  have k_a1 : μ3 a1 = some (lE cs 4 (fun _ => 0)) := hO.at (nmc (Ne.symm ne_h_a1) nm0) c_a1
  have k_h : μ3 h = some (oE 2 [.int (iN (0)), .int (iN (0)), .int (iN (0)), .int (iN (0)), .ref a1]) := hq
  have hO0 := hO0.tr1 hO (by simp)
  clear c_h c_a1
  have c_a1 := k_a1; clear k_a1
  have c_h := k_h; clear k_h
  clear hq hO
  refine fm_vret S hr hlocks hK hw d_De_init_11 ?_
  exact ⟨a1, hf_a1, c_h, c_a1, hO0.mono (by intro q hq; simp at hq ⊢; omega)⟩

set_option maxHeartbeats 4000000 in
set_option maxRecDepth 100000 in
/-- new Receiver(digits, scale, rounding) -/
theorem t_Re_init (l : Launch) (D : va_G) (cs : Nat → ClassId) (Z : (Nat → Prop) → State → Heap → Prop) (hZo : fm_Zok Z) (tT : Nat) (hZc : ∀ A U H, Z A U H → Zc tT A U H) (μ : fm_Mu) (sz : Nat) (h : Nat) (di : Int) (sc : Int) (ro : Int)  (c_h : μ h = some (oE 3 [.int (iN (0)), .int (iN (0)), .int (iN (0)), .long (jN (0)), .long (jN (0)), .int (iN (0))])) : Met l y_Re_init (Cond.code y_Re_init c_Re_init 4 none :: wA) ({ frames := 1, cells := 0, slots := 0, locals := 20 }) (fm_Pc D clsA (tysA cs) Z μ sz [.ref h, .int (iN (di)), .int (iN (sc)), .int (iN (ro))]) (fm_Qv D clsA (tysA cs) μ sz (fun μ' => μ' h = some (rE (di, sc, ro, 0, 0, 0)) ∧ fm_O μ μ' [h])) 0 0 (fm_A μ sz) := by
  refine cl_of (by decide +kernel) (Nat.le_of_ble_eq_true rfl) (fun p e s m below meth c S hr hlocks hnm hsz hw hK hZ hA ls hl => ?_)
  subst hsz
  replace S : CallFix p m c c_Re_init 4 s _ wA "ArithmeticForms$Receiver" := S
  obtain ⟨hx, hb, hml, hown, hts⟩ := id S
  have hzc := hZc _ _ _ hZ
  have hO0 : fm_O μ μ [h] := fm_O.rf
  have hl : lv_has ls 4 [(0, .ref h), (1, .int (iN (di))), (2, .int (iN (sc))), (3, .int (iN (ro)))] := hl
  refine lv_aload_n hx hb d_Re_init_0 rfl (lv_at hl 0 rfl) ?_
  refine W.objInit hx hb hown (hts _ k279) (hts _ k21) (hts _ k22) rfl (by rw [hml]; exact hl.1) rfl d_Re_init_1 (Nat.le_of_ble_eq_true rfl) (Nat.le_of_ble_eq_true rfl) ?_
  show W p l e _ s m _ below meth c _ _ _ _ _ (F0 m 4 ls [])
  refine lv_aload_n hx hb d_Re_init_4 rfl (lv_at hl 0 rfl) ?_
  refine lv_iload_n hx hb d_Re_init_5 rfl (lv_at hl 1 rfl) ?_
  refine fm_putF S hK hw c_h i_Re rfl t_Re t_Re_ok n_Re 1 (by decide) (hts _ k282) (fun _ h => h) rfl hnm rfl (ty := .int) (by decide +kernel) rfl rfl (Nat.le_of_ble_eq_true rfl) d_Re_init_6 (fun μ1 H locs hw hq hO => ?_)
  have k_h : μ1 h = some (oE 3 [.int (iN (0)), .int (iN (di)), .int (iN (0)), .long (jN (0)), .long (jN (0)), .int (iN (0))]) := hq
  have hO0 := hO0.tr1 hO (by simp)
  clear c_h
  have c_h := k_h; clear k_h
  clear hq hO
  refine lv_aload_n hx hb d_Re_init_9 rfl (lv_at hl 0 rfl) ?_
  refine lv_iload_n hx hb d_Re_init_10 rfl (lv_at hl 2 rfl) ?_
  refine fm_putF S hK hw c_h i_Re rfl t_Re t_Re_ok n_Re 0 (by decide) (hts _ k280) (fun _ h => h) rfl hnm rfl (ty := .int) (by decide +kernel) rfl rfl (Nat.le_of_ble_eq_true rfl) d_Re_init_11 (fun μ2 H locs hw hq hO => ?_)
  have k_h : μ2 h = some (oE 3 [.int (iN (sc)), .int (iN (di)), .int (iN (0)), .long (jN (0)), .long (jN (0)), .int (iN (0))]) := hq
  have hO0 := hO0.tr1 hO (by simp)
  clear c_h
  have c_h := k_h; clear k_h
  clear hq hO
  refine lv_aload_n hx hb d_Re_init_14 rfl (lv_at hl 0 rfl) ?_
  refine lv_iload_n hx hb d_Re_init_15 rfl (lv_at hl 3 rfl) ?_
  refine fm_putF S hK hw c_h i_Re rfl t_Re t_Re_ok n_Re 2 (by decide) (hts _ k283) (fun _ h => h) rfl hnm rfl (ty := .int) (by decide +kernel) rfl rfl (Nat.le_of_ble_eq_true rfl) d_Re_init_16 (fun μ3 H locs hw hq hO => ?_)
  have k_h : μ3 h = some (oE 3 [.int (iN (sc)), .int (iN (di)), .int (iN (ro)), .long (jN (0)), .long (jN (0)), .int (iN (0))]) := hq
  have hO0 := hO0.tr1 hO (by simp)
  clear c_h
  have c_h := k_h; clear k_h
  clear hq hO
  refine fm_vret S hr hlocks hK hw d_Re_init_19 ?_
  exact ⟨c_h, hO0⟩

theorem hV_1 : hV 1 0 = one300 := by unfold hV one300; decide +kernel
set_option maxHeartbeats 4000000 in
set_option maxRecDepth 100000 in
/-- new Calculator(P) -/
theorem t_Ca_init (l : Launch) (D : va_G) (cs : Nat → ClassId) (Z : (Nat → Prop) → State → Heap → Prop) (hZo : fm_Zok Z) (tT : Nat) (hZc : ∀ A U H, Z A U H → Zc tT A U H) (μ : fm_Mu) (sz : Nat) (k : Nat) (P : Int)  (c_k : μ k = some (oE 1 [.int (iN (0)), .null, .null, .null])) : Met l y_Ca_init (Cond.code y_Ca_init c_Ca_init 2 none :: wA) ({ frames := 4, cells := 4, slots := 44, locals := 94 }) (fm_Pc D clsA (tysA cs) Z μ sz [.ref k, .int (iN (P))]) (fm_Qv D clsA (tysA cs) μ sz (fun μ' => ∃ w lf on lo : Nat, (μ w = none ∧ μ lf = none ∧ μ on = none ∧ μ lo = none) ∧ μ' k = some (oE 1 [.int (iN P), .ref w, .ref lf, .ref on]) ∧ μ' w = some (lE cs 30 (fun _ => 0)) ∧ μ' lf = some (lE cs 5 (fun _ => 0)) ∧ Dc cs μ' on lo 0 one300 ∧ fm_O μ μ' [k, w, lf, on, lo])) 4 44 (fm_A μ sz) := by
  refine cl_of (by decide +kernel) (Nat.le_of_ble_eq_true rfl) (fun p e s m below meth c S hr hlocks hnm hsz hw hK hZ hA ls hl => ?_)
  subst hsz
  replace S : CallFix p m c c_Ca_init 2 s _ wA "ArithmeticForms$Calculator" := S
  obtain ⟨hx, hb, hml, hown, hts⟩ := id S
  have hzc := hZc _ _ _ hZ
  have hO0 : fm_O μ μ [k] := fm_O.rf
  have hl : lv_has ls 2 [(0, .ref k), (1, .int (iN (P)))] := hl
  refine lv_aload_n hx hb d_Ca_init_0 rfl (lv_at hl 0 rfl) ?_
  refine W.objInit hx hb hown (hts _ k69) (hts _ k21) (hts _ k22) rfl (by rw [hml]; exact hl.1) rfl d_Ca_init_1 (Nat.le_of_ble_eq_true rfl) (Nat.le_of_ble_eq_true rfl) ?_
  show W p l e _ s m _ below meth c _ _ _ _ _ (F0 m 4 ls [])
  refine lv_aload_n hx hb d_Ca_init_4 rfl (lv_at hl 0 rfl) ?_
  refine fm_bipush S d_Ca_init_5 (by decide) ?_
  refine fm_newa (ty := .long) rfl S hK hw hA (hts _ k57) 1 rfl (fm_j0 30) (by decide) rfl (Nat.le_of_ble_eq_true rfl) (Nat.le_of_ble_eq_true rfl) (Nat.le_of_ble_eq_true rfl) d_Ca_init_7 (fun a1 μ2 H hw hn hq hO => ?_)
  have ne_k_a1 := nn_ne c_k hn
  have hf_a1 := hO0.fr hn (nmc (Ne.symm ne_k_a1) nm0)
  have hO0 := hO0.mono (l' := [a1, k]) (fun _ h => List.mem_cons_of_mem _ h)
  have k_k : μ2 k = some (oE 1 [.int (iN (0)), .null, .null, .null]) := hO.at (nmc ne_k_a1 nm0) c_k
  have k_a1 : μ2 a1 = some (lE cs 30 (fun _ => 0)) := hq
  have hO0 := hO0.tr1 hO (by simp)
  clear c_k
  have c_k := k_k; clear k_k
  have c_a1 := k_a1; clear k_a1
  clear hn hq hO
  refine fm_putF S hK hw c_k i_Ca rfl t_Ca t_Ca_ok n_Ca 1 (by decide) (hts _ k100) (fun _ h => h) rfl hnm rfl (ty := (.array .long)) (by decide +kernel) rfl rfl (Nat.le_of_ble_eq_true rfl) d_Ca_init_9 (fun μ3 H locs hw hq hO => ?_)
  have k_a1 : μ3 a1 = some (lE cs 30 (fun _ => 0)) := hO.at (nmc (Ne.symm ne_k_a1) nm0) c_a1
  have k_k : μ3 k = some (oE 1 [.int (iN (0)), .ref a1, .null, .null]) := hq
  have hO0 := hO0.tr1 hO (by simp)
  clear c_k c_a1
  have c_a1 := k_a1; clear k_a1
  have c_k := k_k; clear k_k
  clear hq hO
  refine lv_aload_n hx hb d_Ca_init_12 rfl (lv_at hl 0 rfl) ?_
  refine fm_iconst S d_Ca_init_13 ?_
  refine fm_newa (ty := .long) rfl S hK hw hA (hts _ k57) 1 rfl (fm_j0 5) (by decide) rfl (Nat.le_of_ble_eq_true rfl) (Nat.le_of_ble_eq_true rfl) (Nat.le_of_ble_eq_true rfl) d_Ca_init_14 (fun a4 μ5 H hw hn hq hO => ?_)
  have ne_a1_a4 := nn_ne c_a1 hn
  have ne_k_a4 := nn_ne c_k hn
  have hf_a4 := hO0.fr hn (nmc (Ne.symm ne_a1_a4) (nmc (Ne.symm ne_k_a4) nm0))
  have hO0 := hO0.mono (l' := [a4, a1, k]) (fun _ h => List.mem_cons_of_mem _ h)
  have k_a1 : μ5 a1 = some (lE cs 30 (fun _ => 0)) := hO.at (nmc ne_a1_a4 nm0) c_a1
  have k_k : μ5 k = some (oE 1 [.int (iN (0)), .ref a1, .null, .null]) := hO.at (nmc ne_k_a4 nm0) c_k
  have k_a4 : μ5 a4 = some (lE cs 5 (fun _ => 0)) := hq
  have hO0 := hO0.tr1 hO (by simp)
  clear c_a1 c_k
  have c_a1 := k_a1; clear k_a1
  have c_k := k_k; clear k_k
  have c_a4 := k_a4; clear k_a4
  clear hn hq hO
  refine fm_putF S hK hw c_k i_Ca rfl t_Ca t_Ca_ok n_Ca 2 (by decide) (hts _ k101) (fun _ h => h) rfl hnm rfl (ty := (.array .long)) (by decide +kernel) rfl rfl (Nat.le_of_ble_eq_true rfl) d_Ca_init_16 (fun μ6 H locs hw hq hO => ?_)
  have k_a1 : μ6 a1 = some (lE cs 30 (fun _ => 0)) := hO.at (nmc (Ne.symm ne_k_a1) nm0) c_a1
  have k_a4 : μ6 a4 = some (lE cs 5 (fun _ => 0)) := hO.at (nmc (Ne.symm ne_k_a4) nm0) c_a4
  have k_k : μ6 k = some (oE 1 [.int (iN (0)), .ref a1, .ref a4, .null]) := hq
  have hO0 := hO0.tr1 hO (by simp)
  clear c_a1 c_k c_a4
  have c_a1 := k_a1; clear k_a1
  have c_a4 := k_a4; clear k_a4
  have c_k := k_k; clear k_k
  clear hq hO
  refine lv_aload_n hx hb d_Ca_init_19 rfl (lv_at hl 0 rfl) ?_
  refine fm_new (ci := 2) (fs := [.int (iN (0)), .int (iN (0)), .int (iN (0)), .int (iN (0)), .null]) S hK hw hA i_De rfl t_De t_De_ok (hts _ k70) (hts _ k27) (hts _ k2) z_De (Nat.le_of_ble_eq_true rfl) (Nat.le_of_ble_eq_true rfl) d_Ca_init_20 (fun a7 μ8 H hw hn hq hO => ?_)
  have ne_a1_a7 := nn_ne c_a1 hn
  have ne_a4_a7 := nn_ne c_a4 hn
  have ne_k_a7 := nn_ne c_k hn
  have hf_a7 := hO0.fr hn (nmc (Ne.symm ne_a4_a7) (nmc (Ne.symm ne_a1_a7) (nmc (Ne.symm ne_k_a7) nm0)))
  have hO0 := hO0.mono (l' := [a7, a4, a1, k]) (fun _ h => List.mem_cons_of_mem _ h)
  have k_a1 : μ8 a1 = some (lE cs 30 (fun _ => 0)) := hO.at (nmc ne_a1_a7 nm0) c_a1
  have k_a4 : μ8 a4 = some (lE cs 5 (fun _ => 0)) := hO.at (nmc ne_a4_a7 nm0) c_a4
  have k_k : μ8 k = some (oE 1 [.int (iN (0)), .ref a1, .ref a4, .null]) := hO.at (nmc ne_k_a7 nm0) c_k
  have k_a7 : μ8 a7 = some (oE 2 [.int (iN (0)), .int (iN (0)), .int (iN (0)), .int (iN (0)), .null]) := hq
  have hO0 := hO0.tr1 hO (by simp)
  clear c_a1 c_a4 c_k
  have c_a1 := k_a1; clear k_a1
  have c_a4 := k_a4; clear k_a4
  have c_k := k_k; clear k_k
  have c_a7 := k_a7; clear k_a7
  clear hn hq hO
  refine lv_dup hx hb d_Ca_init_23 rfl ?_
  refine fm_callv (va_runIN (As := []) (rest := [.ref a7, .ref k]) S (t_De_init l D cs Z hZo tT hZc μ8 _ a7 c_a7) ⟨cwNA 0 hts k30 rfl rfl hzc.2.2.1.2.1 k2 (by decide +kernel) (by decide), rfl, hts _ k29⟩ (fm_pre hZo hK hw hZ hA _) rfl rfl hl.1 rfl (lv_room (Nat.le_of_ble_eq_true rfl)) d_Ca_init_24 ⟨Nat.le_of_ble_eq_true rfl, Nat.le_of_ble_eq_true rfl⟩) hw hA (fun μ10 H locs q9 hw => ?_)
  obtain ⟨a11, hn, hq, hq2, hO⟩ := q9
  have ne_a1_a11 := nn_ne c_a1 hn
  have ne_a4_a11 := nn_ne c_a4 hn
  have ne_k_a11 := nn_ne c_k hn
  have ne_a7_a11 := nn_ne c_a7 hn
  have hf_a11 := hO0.fr hn (nmc (Ne.symm ne_a7_a11) (nmc (Ne.symm ne_a4_a11) (nmc (Ne.symm ne_a1_a11) (nmc (Ne.symm ne_k_a11) nm0))))
  have hO0 := hO0.mono (l' := [a11, a7, a4, a1, k]) (fun _ h => List.mem_cons_of_mem _ h)
  have k_a1 : μ10 a1 = some (lE cs 30 (fun _ => 0)) := hO.at (nmc ne_a1_a7 (nmc ne_a1_a11 nm0)) c_a1
  have k_a4 : μ10 a4 = some (lE cs 5 (fun _ => 0)) := hO.at (nmc ne_a4_a7 (nmc ne_a4_a11 nm0)) c_a4
  have k_k : μ10 k = some (oE 1 [.int (iN (0)), .ref a1, .ref a4, .null]) := hO.at (nmc ne_k_a7 (nmc ne_k_a11 nm0)) c_k
  have k_a7 : μ10 a7 = some (oE 2 [.int (iN (0)), .int (iN (0)), .int (iN (0)), .int (iN (0)), .ref a11]) := hq
  have k_a11 : μ10 a11 = some (lE cs 4 (fun _ => 0)) := hq2
  have hO0 := hO0.tr1 hO (by simp)
  clear c_a1 c_a4 c_k c_a7
  have c_a1 := k_a1; clear k_a1
  have c_a4 := k_a4; clear k_a4
  have c_k := k_k; clear k_k
  have c_a7 := k_a7; clear k_a7
  have c_a11 := k_a11; clear k_a11
  clear hn hq hq2 hO
  refine fm_putF S hK hw c_k i_Ca rfl t_Ca t_Ca_ok n_Ca 3 (by decide) (hts _ k102) (fun _ h => h) rfl hnm rfl (ty := (.object "ArithmeticForms$Decimal")) (by decide +kernel) rfl rfl (Nat.le_of_ble_eq_true rfl) d_Ca_init_27 (fun μ12 H locs hw hq hO => ?_)
  have k_a1 : μ12 a1 = some (lE cs 30 (fun _ => 0)) := hO.at (nmc (Ne.symm ne_k_a1) nm0) c_a1
  have k_a4 : μ12 a4 = some (lE cs 5 (fun _ => 0)) := hO.at (nmc (Ne.symm ne_k_a4) nm0) c_a4
  have k_a7 : μ12 a7 = some (oE 2 [.int (iN (0)), .int (iN (0)), .int (iN (0)), .int (iN (0)), .ref a11]) := hO.at (nmc (Ne.symm ne_k_a7) nm0) c_a7
  have k_a11 : μ12 a11 = some (lE cs 4 (fun _ => 0)) := hO.at (nmc (Ne.symm ne_k_a11) nm0) c_a11
  have k_k : μ12 k = some (oE 1 [.int (iN (0)), .ref a1, .ref a4, .ref a7]) := hq
  have hO0 := hO0.tr1 hO (by simp)
  clear c_a1 c_a4 c_k c_a7 c_a11
  have c_a1 := k_a1; clear k_a1
  have c_a4 := k_a4; clear k_a4
  have c_a7 := k_a7; clear k_a7
  have c_a11 := k_a11; clear k_a11
  have c_k := k_k; clear k_k
  clear hq hO
  refine lv_aload_n hx hb d_Ca_init_30 rfl (lv_at hl 0 rfl) ?_
  refine lv_iload_n hx hb d_Ca_init_31 rfl (lv_at hl 1 rfl) ?_
  refine fm_putF S hK hw c_k i_Ca rfl t_Ca t_Ca_ok n_Ca 0 (by decide) (hts _ k98) (fun _ h => h) rfl hnm rfl (ty := .int) (by decide +kernel) rfl rfl (Nat.le_of_ble_eq_true rfl) d_Ca_init_32 (fun μ13 H locs hw hq hO => ?_)
  have k_a1 : μ13 a1 = some (lE cs 30 (fun _ => 0)) := hO.at (nmc (Ne.symm ne_k_a1) nm0) c_a1
  have k_a4 : μ13 a4 = some (lE cs 5 (fun _ => 0)) := hO.at (nmc (Ne.symm ne_k_a4) nm0) c_a4
  have k_a7 : μ13 a7 = some (oE 2 [.int (iN (0)), .int (iN (0)), .int (iN (0)), .int (iN (0)), .ref a11]) := hO.at (nmc (Ne.symm ne_k_a7) nm0) c_a7
  have k_a11 : μ13 a11 = some (lE cs 4 (fun _ => 0)) := hO.at (nmc (Ne.symm ne_k_a11) nm0) c_a11
  have k_k : μ13 k = some (oE 1 [.int (iN (P)), .ref a1, .ref a4, .ref a7]) := hq
  have hO0 := hO0.tr1 hO (by simp)
  clear c_a1 c_a4 c_a7 c_a11 c_k
  have c_a1 := k_a1; clear k_a1
  have c_a4 := k_a4; clear k_a4
  have c_a7 := k_a7; clear k_a7
  have c_a11 := k_a11; clear k_a11
  have c_k := k_k; clear k_k
  clear hq hO
  refine lv_aload_n hx hb d_Ca_init_35 rfl (lv_at hl 0 rfl) ?_
  refine fm_get S hK hw c_k i_Ca rfl 3 (by decide) (hts _ k102) (fun _ h => h) rfl d_Ca_init_36 ?_
  refine fm_lconst1 S d_Ca_init_39 ?_
  refine fm_iconst S d_Ca_init_40 ?_
  refine fm_callv (va_runV (As := [.long (jN (1)), .int (iN (0))]) (rest := []) S (t_De_load l D cs Z hZo tT hZc μ13 _ a7 a11 0 0 0 0 (fun _ => 0) 1 0 (by omega) (by omega) c_a7 c_a11) (cwV 2 hts (gV k72 k73 k74 k2 k75) rfl rfl rfl (by decide +kernel) (by decide)) (fm_preV hZo hK hw hZ hA c_a7 rfl _) rfl rfl hl.1 rfl (lv_room (Nat.le_of_ble_eq_true rfl)) d_Ca_init_41 ⟨Nat.le_of_ble_eq_true rfl, Nat.le_of_ble_eq_true rfl⟩) hw hA (fun μ15 H locs q14 hw => ?_)
  obtain ⟨⟨F16, hq, hq2, hdF16, hvF16⟩, hO⟩ := q14
  have k_a1 : μ15 a1 = some (lE cs 30 (fun _ => 0)) := hO.at (nmc ne_a1_a7 (nmc ne_a1_a11 nm0)) c_a1
  have k_a4 : μ15 a4 = some (lE cs 5 (fun _ => 0)) := hO.at (nmc ne_a4_a7 (nmc ne_a4_a11 nm0)) c_a4
  have k_k : μ15 k = some (oE 1 [.int (iN (P)), .ref a1, .ref a4, .ref a7]) := hO.at (nmc ne_k_a7 (nmc ne_k_a11 nm0)) c_k
  have k_a7 : μ15 a7 = some (oE 2 [.int (iN (0)), .int (iN ((sgn (hV 1 0)))), .int (iN ((tp (hV 1 0)))), .int (iN ((nd (cN (hV 1 0)) : Int))), .ref a11]) := hq
  have k_a11 : μ15 a11 = some (lE cs 4 F16) := hq2
  have hO0 := hO0.tr1 hO (by simp)
  clear c_a1 c_a4 c_a7 c_a11 c_k
  have c_a1 := k_a1; clear k_a1
  have c_a4 := k_a4; clear k_a4
  have c_k := k_k; clear k_k
  have c_a7 := k_a7; clear k_a7
  have c_a11 := k_a11; clear k_a11
  clear hq hq2 hO
  have hDl : Dc cs μ15 a7 a11 0 (hV 1 0) := ⟨_, c_a7, c_a11, hdF16, hvF16⟩
  refine fm_vret S hr hlocks hK hw d_Ca_init_44 ?_
  rw [hV_1] at hDl
  exact ⟨a1, a4, a7, a11, ⟨hf_a1, hf_a4, hf_a7, hf_a11⟩, c_k, c_a1, c_a4, hDl, hO0.mono (by intro q hq; simp at hq ⊢; omega)⟩
