def f4 (a b c d : Nat) (i : Nat) : Nat := if i = 0 then a else if i = 1 then b else if i = 2 then c else d
theorem f4_in {a b c d : Nat} (h1 : a ≠ b) (h2 : a ≠ c) (h3 : a ≠ d) (h4 : b ≠ c) (h5 : b ≠ d) (h6 : c ≠ d) : ∀ i j, i < 4 + 0 → j < 4 + 0 → f4 a b c d i = f4 a b c d j → i = j := by
  intro i j hi hj
  rcases (show i = 0 ∨ i = 1 ∨ i = 2 ∨ i = 3 by omega) with e | e | e | e <;> rcases (show j = 0 ∨ j = 1 ∨ j = 2 ∨ j = 3 by omega) with e2 | e2 | e2 | e2 <;> subst e <;> subst e2 <;> simp [f4] <;> omega
theorem prec_m {f : Int} : (prec f : Int) = max 1 (min 31 f) := by unfold prec; split; omega; split <;> omega

set_option maxHeartbeats 4000000 in
set_option maxRecDepth 100000 in
/-- new ArithmeticForms(f) -/
theorem t_AF_init (l : Launch) (D : va_G) (cs : Nat → ClassId) (Z : (Nat → Prop) → State → Heap → Prop) (hZo : fm_Zok Z) (tT : Nat) (hZc : ∀ A U H, Z A U H → Zc tT A U H) (μ : fm_Mu) (sz : Nat) (x : Nat) (f : Int) (hif : inI f) (c_x : μ x = some (oE 0 [.null, .null, .int (iN (0)), .null, .int (iN (0)), .int (iN (0)), .null, .null, .null])) : Met l y_AF_init (Cond.code y_AF_init c_AF_init 2 none :: wA) ({ frames := 5, cells := 13, slots := 195, locals := 115 }) (fm_Pc D clsA (tysA cs) Z μ sz [.ref x, .int (iN (f))]) (fm_Qv D clsA (tysA cs) μ sz (fun μ' => ∃ (kc kn kr wd lf : Nat) (da dl ra : Nat → Nat), afS cs μ' x kc kn kr wd lf da dl ra (sg0 f) ∧ kpR μ μ')) 13 195 (fm_A μ sz) := by
  refine cl_of (by decide +kernel) (Nat.le_of_ble_eq_true rfl) (fun p e s m below meth c S hr hlocks hnm hsz hw hK hZ hA ls hl => ?_)
  subst hsz
  replace S : CallFix p m c c_AF_init 2 s _ wA "ArithmeticForms" := S
  obtain ⟨hx, hb, hml, hown, hts⟩ := id S
  have hzc := hZc _ _ _ hZ
  have hO0 : fm_O μ μ [x] := fm_O.rf
  have hl : lv_has ls 2 [(0, .ref x), (1, .int (iN (f)))] := hl
  have j_x := c_x
  refine lv_aload_n hx hb d_AF_init_0 rfl (lv_at hl 0 rfl) ?_
  refine W.objInit hx hb hown (hts _ k20) (hts _ k21) (hts _ k22) rfl (by rw [hml]; exact hl.1) rfl d_AF_init_1 (Nat.le_of_ble_eq_true rfl) (Nat.le_of_ble_eq_true rfl) ?_
  show W p l e _ s m _ below meth c _ _ _ _ _ (F0 m 4 ls [])
  refine lv_aload_n hx hb d_AF_init_4 rfl (lv_at hl 0 rfl) ?_
  refine fm_bipush S d_AF_init_5 (by decide) ?_
  refine fm_newq S hK hw hA (hts _ k23) hzc.2.2.2.1 3 rfl (by decide) rfl (Nat.le_of_ble_eq_true rfl) (Nat.le_of_ble_eq_true rfl) (Nat.le_of_ble_eq_true rfl) d_AF_init_7 (fun a1 μ2 H hw hn hq hO => ?_)
  have ne_x_a1 := nn_ne c_x hn
  have hf_a1 := hO0.fr hn (nmc (Ne.symm ne_x_a1) nm0)
  have hO0 := hO0.mono (l' := [a1, x]) (fun _ h => List.mem_cons_of_mem _ h)
  have k_x : μ2 x = some (oE 0 [.null, .null, .int (iN (0)), .null, .int (iN (0)), .int (iN (0)), .null, .null, .null]) := hO.at (nmc ne_x_a1 nm0) c_x
  have k_a1 : μ2 a1 = some (qE (cs 3) 100 (fun _ => none)) := hq
  have hO0 := hO0.tr1 hO (by simp)
  clear c_x
  have c_x := k_x; clear k_x
  have c_a1 := k_a1; clear k_a1
  clear hn hq hO
  refine fm_putF S hK hw c_x i_AF rfl t_AF t_AF_ok n_AF 1 (by decide) (hts _ k113) (fun _ h => h) rfl hnm rfl (ty := (.array (.object "ArithmeticForms$Decimal"))) (by decide +kernel) rfl rfl (Nat.le_of_ble_eq_true rfl) d_AF_init_10 (fun μ3 H locs hw hq hO => ?_)
  have k_a1 : μ3 a1 = some (qE (cs 3) 100 (fun _ => none)) := hO.at (nmc (Ne.symm ne_x_a1) nm0) c_a1
  have k_x : μ3 x = some (oE 0 [.null, .ref a1, .int (iN (0)), .null, .int (iN (0)), .int (iN (0)), .null, .null, .null]) := hq
  have hO0 := hO0.tr1 hO (by simp)
  clear c_x c_a1
  have c_a1 := k_a1; clear k_a1
  have c_x := k_x; clear k_x
  clear hq hO
  refine lv_aload_n hx hb d_AF_init_13 rfl (lv_at hl 0 rfl) ?_
  refine fm_bipush S d_AF_init_14 (by decide) ?_
  refine fm_newq S hK hw hA (hts _ k25) hzc.2.2.2.2.1 4 rfl (by decide) rfl (Nat.le_of_ble_eq_true rfl) (Nat.le_of_ble_eq_true rfl) (Nat.le_of_ble_eq_true rfl) d_AF_init_16 (fun a4 μ5 H hw hn hq hO => ?_)
  have ne_a1_a4 := nn_ne c_a1 hn
  have ne_x_a4 := nn_ne c_x hn
  have hf_a4 := hO0.fr hn (nmc (Ne.symm ne_a1_a4) (nmc (Ne.symm ne_x_a4) nm0))
  have hO0 := hO0.mono (l' := [a4, a1, x]) (fun _ h => List.mem_cons_of_mem _ h)
  have k_a1 : μ5 a1 = some (qE (cs 3) 100 (fun _ => none)) := hO.at (nmc ne_a1_a4 nm0) c_a1
  have k_x : μ5 x = some (oE 0 [.null, .ref a1, .int (iN (0)), .null, .int (iN (0)), .int (iN (0)), .null, .null, .null]) := hO.at (nmc ne_x_a4 nm0) c_x
  have k_a4 : μ5 a4 = some (qE (cs 4) 20 (fun _ => none)) := hq
  have hO0 := hO0.tr1 hO (by simp)
  clear c_a1 c_x
  have c_a1 := k_a1; clear k_a1
  have c_x := k_x; clear k_x
  have c_a4 := k_a4; clear k_a4
  clear hn hq hO
  refine fm_putF S hK hw c_x i_AF rfl t_AF t_AF_ok n_AF 3 (by decide) (hts _ k115) (fun _ h => h) rfl hnm rfl (ty := (.array (.object "ArithmeticForms$Receiver"))) (by decide +kernel) rfl rfl (Nat.le_of_ble_eq_true rfl) d_AF_init_19 (fun μ6 H locs hw hq hO => ?_)
  have k_a1 : μ6 a1 = some (qE (cs 3) 100 (fun _ => none)) := hO.at (nmc (Ne.symm ne_x_a1) nm0) c_a1
  have k_a4 : μ6 a4 = some (qE (cs 4) 20 (fun _ => none)) := hO.at (nmc (Ne.symm ne_x_a4) nm0) c_a4
  have k_x : μ6 x = some (oE 0 [.null, .ref a1, .int (iN (0)), .ref a4, .int (iN (0)), .int (iN (0)), .null, .null, .null]) := hq
  have hO0 := hO0.tr1 hO (by simp)
  clear c_a1 c_x c_a4
  have c_a1 := k_a1; clear k_a1
  have c_a4 := k_a4; clear k_a4
  have c_x := k_x; clear k_x
  clear hq hO
  refine lv_aload_n hx hb d_AF_init_22 rfl (lv_at hl 0 rfl) ?_
  refine fm_new (ci := 2) (fs := [.int (iN (0)), .int (iN (0)), .int (iN (0)), .int (iN (0)), .null]) S hK hw hA i_De rfl t_De t_De_ok (hts _ k23) (hts _ k27) (hts _ k2) z_De (Nat.le_of_ble_eq_true rfl) (Nat.le_of_ble_eq_true rfl) d_AF_init_23 (fun a7 μ8 H hw hn hq hO => ?_)
  have ne_a1_a7 := nn_ne c_a1 hn
  have ne_a4_a7 := nn_ne c_a4 hn
  have ne_x_a7 := nn_ne c_x hn
  have hf_a7 := hO0.fr hn (nmc (Ne.symm ne_a4_a7) (nmc (Ne.symm ne_a1_a7) (nmc (Ne.symm ne_x_a7) nm0)))
  have hO0 := hO0.mono (l' := [a7, a4, a1, x]) (fun _ h => List.mem_cons_of_mem _ h)
  have k_a1 : μ8 a1 = some (qE (cs 3) 100 (fun _ => none)) := hO.at (nmc ne_a1_a7 nm0) c_a1
  have k_a4 : μ8 a4 = some (qE (cs 4) 20 (fun _ => none)) := hO.at (nmc ne_a4_a7 nm0) c_a4
  have k_x : μ8 x = some (oE 0 [.null, .ref a1, .int (iN (0)), .ref a4, .int (iN (0)), .int (iN (0)), .null, .null, .null]) := hO.at (nmc ne_x_a7 nm0) c_x
  have k_a7 : μ8 a7 = some (oE 2 [.int (iN (0)), .int (iN (0)), .int (iN (0)), .int (iN (0)), .null]) := hq
  have hO0 := hO0.tr1 hO (by simp)
  clear c_a1 c_a4 c_x
  have c_a1 := k_a1; clear k_a1
  have c_a4 := k_a4; clear k_a4
  have c_x := k_x; clear k_x
  have c_a7 := k_a7; clear k_a7
  clear hn hq hO
  refine lv_dup hx hb d_AF_init_26 rfl ?_
  refine fm_callv (va_runIN (As := []) (rest := [.ref a7, .ref x]) S (t_De_init l D cs Z hZo tT hZc μ8 _ a7 c_a7) ⟨cwNA 0 hts k30 rfl rfl hzc.2.2.1.1 k2 (by decide +kernel) (by decide), rfl, hts _ k29⟩ (fm_pre hZo hK hw hZ hA _) rfl rfl hl.1 rfl (lv_room (Nat.le_of_ble_eq_true rfl)) d_AF_init_27 ⟨Nat.le_of_ble_eq_true rfl, Nat.le_of_ble_eq_true rfl⟩) hw hA (fun μ10 H locs q9 hw => ?_)
  obtain ⟨a11, hn, hq, hq2, hO⟩ := q9
  have ne_a1_a11 := nn_ne c_a1 hn
  have ne_a4_a11 := nn_ne c_a4 hn
  have ne_x_a11 := nn_ne c_x hn
  have ne_a7_a11 := nn_ne c_a7 hn
  have hf_a11 := hO0.fr hn (nmc (Ne.symm ne_a7_a11) (nmc (Ne.symm ne_a4_a11) (nmc (Ne.symm ne_a1_a11) (nmc (Ne.symm ne_x_a11) nm0))))
  have hO0 := hO0.mono (l' := [a11, a7, a4, a1, x]) (fun _ h => List.mem_cons_of_mem _ h)
  have k_a1 : μ10 a1 = some (qE (cs 3) 100 (fun _ => none)) := hO.at (nmc ne_a1_a7 (nmc ne_a1_a11 nm0)) c_a1
  have k_a4 : μ10 a4 = some (qE (cs 4) 20 (fun _ => none)) := hO.at (nmc ne_a4_a7 (nmc ne_a4_a11 nm0)) c_a4
  have k_x : μ10 x = some (oE 0 [.null, .ref a1, .int (iN (0)), .ref a4, .int (iN (0)), .int (iN (0)), .null, .null, .null]) := hO.at (nmc ne_x_a7 (nmc ne_x_a11 nm0)) c_x
  have k_a7 : μ10 a7 = some (oE 2 [.int (iN (0)), .int (iN (0)), .int (iN (0)), .int (iN (0)), .ref a11]) := hq
  have k_a11 : μ10 a11 = some (lE cs 4 (fun _ => 0)) := hq2
  have hO0 := hO0.tr1 hO (by simp)
  clear c_a1 c_a4 c_x c_a7
  have c_a1 := k_a1; clear k_a1
  have c_a4 := k_a4; clear k_a4
  have c_x := k_x; clear k_x
  have c_a7 := k_a7; clear k_a7
  have c_a11 := k_a11; clear k_a11
  clear hn hq hq2 hO
  refine fm_putF S hK hw c_x i_AF rfl t_AF t_AF_ok n_AF 6 (by decide) (hts _ k118) (fun _ h => h) rfl hnm rfl (ty := (.object "ArithmeticForms$Decimal")) (by decide +kernel) rfl rfl (Nat.le_of_ble_eq_true rfl) d_AF_init_30 (fun μ12 H locs hw hq hO => ?_)
  have k_a1 : μ12 a1 = some (qE (cs 3) 100 (fun _ => none)) := hO.at (nmc (Ne.symm ne_x_a1) nm0) c_a1
  have k_a4 : μ12 a4 = some (qE (cs 4) 20 (fun _ => none)) := hO.at (nmc (Ne.symm ne_x_a4) nm0) c_a4
  have k_a7 : μ12 a7 = some (oE 2 [.int (iN (0)), .int (iN (0)), .int (iN (0)), .int (iN (0)), .ref a11]) := hO.at (nmc (Ne.symm ne_x_a7) nm0) c_a7
  have k_a11 : μ12 a11 = some (lE cs 4 (fun _ => 0)) := hO.at (nmc (Ne.symm ne_x_a11) nm0) c_a11
  have k_x : μ12 x = some (oE 0 [.null, .ref a1, .int (iN (0)), .ref a4, .int (iN (0)), .int (iN (0)), .ref a7, .null, .null]) := hq
  have hO0 := hO0.tr1 hO (by simp)
  clear c_a1 c_a4 c_x c_a7 c_a11
  have c_a1 := k_a1; clear k_a1
  have c_a4 := k_a4; clear k_a4
  have c_a7 := k_a7; clear k_a7
  have c_a11 := k_a11; clear k_a11
  have c_x := k_x; clear k_x
  clear hq hO
  refine lv_aload_n hx hb d_AF_init_33 rfl (lv_at hl 0 rfl) ?_
  refine fm_new (ci := 2) (fs := [.int (iN (0)), .int (iN (0)), .int (iN (0)), .int (iN (0)), .null]) S hK hw hA i_De rfl t_De t_De_ok (hts _ k23) (hts _ k27) (hts _ k2) z_De (Nat.le_of_ble_eq_true rfl) (Nat.le_of_ble_eq_true rfl) d_AF_init_34 (fun a13 μ14 H hw hn hq hO => ?_)
  have ne_a1_a13 := nn_ne c_a1 hn
  have ne_a4_a13 := nn_ne c_a4 hn
  have ne_a7_a13 := nn_ne c_a7 hn
  have ne_a11_a13 := nn_ne c_a11 hn
  have ne_x_a13 := nn_ne c_x hn
  have hf_a13 := hO0.fr hn (nmc (Ne.symm ne_a11_a13) (nmc (Ne.symm ne_a7_a13) (nmc (Ne.symm ne_a4_a13) (nmc (Ne.symm ne_a1_a13) (nmc (Ne.symm ne_x_a13) nm0)))))
  have hO0 := hO0.mono (l' := [a13, a11, a7, a4, a1, x]) (fun _ h => List.mem_cons_of_mem _ h)
  have k_a1 : μ14 a1 = some (qE (cs 3) 100 (fun _ => none)) := hO.at (nmc ne_a1_a13 nm0) c_a1
  have k_a4 : μ14 a4 = some (qE (cs 4) 20 (fun _ => none)) := hO.at (nmc ne_a4_a13 nm0) c_a4
  have k_a7 : μ14 a7 = some (oE 2 [.int (iN (0)), .int (iN (0)), .int (iN (0)), .int (iN (0)), .ref a11]) := hO.at (nmc ne_a7_a13 nm0) c_a7
  have k_a11 : μ14 a11 = some (lE cs 4 (fun _ => 0)) := hO.at (nmc ne_a11_a13 nm0) c_a11
  have k_x : μ14 x = some (oE 0 [.null, .ref a1, .int (iN (0)), .ref a4, .int (iN (0)), .int (iN (0)), .ref a7, .null, .null]) := hO.at (nmc ne_x_a13 nm0) c_x
  have k_a13 : μ14 a13 = some (oE 2 [.int (iN (0)), .int (iN (0)), .int (iN (0)), .int (iN (0)), .null]) := hq
  have hO0 := hO0.tr1 hO (by simp)
  clear c_a1 c_a4 c_a7 c_a11 c_x
  have c_a1 := k_a1; clear k_a1
  have c_a4 := k_a4; clear k_a4
  have c_a7 := k_a7; clear k_a7
  have c_a11 := k_a11; clear k_a11
  have c_x := k_x; clear k_x
  have c_a13 := k_a13; clear k_a13
  clear hn hq hO
  refine lv_dup hx hb d_AF_init_37 rfl ?_
  refine fm_callv (va_runIN (As := []) (rest := [.ref a13, .ref x]) S (t_De_init l D cs Z hZo tT hZc μ14 _ a13 c_a13) ⟨cwNA 0 hts k30 rfl rfl hzc.2.2.1.1 k2 (by decide +kernel) (by decide), rfl, hts _ k29⟩ (fm_pre hZo hK hw hZ hA _) rfl rfl hl.1 rfl (lv_room (Nat.le_of_ble_eq_true rfl)) d_AF_init_38 ⟨Nat.le_of_ble_eq_true rfl, Nat.le_of_ble_eq_true rfl⟩) hw hA (fun μ16 H locs q15 hw => ?_)
  obtain ⟨a17, hn, hq, hq2, hO⟩ := q15
  have ne_a1_a17 := nn_ne c_a1 hn
  have ne_a4_a17 := nn_ne c_a4 hn
  have ne_a7_a17 := nn_ne c_a7 hn
  have ne_a11_a17 := nn_ne c_a11 hn
  have ne_x_a17 := nn_ne c_x hn
  have ne_a13_a17 := nn_ne c_a13 hn
  have hf_a17 := hO0.fr hn (nmc (Ne.symm ne_a13_a17) (nmc (Ne.symm ne_a11_a17) (nmc (Ne.symm ne_a7_a17) (nmc (Ne.symm ne_a4_a17) (nmc (Ne.symm ne_a1_a17) (nmc (Ne.symm ne_x_a17) nm0))))))
  have hO0 := hO0.mono (l' := [a17, a13, a11, a7, a4, a1, x]) (fun _ h => List.mem_cons_of_mem _ h)
  have k_a1 : μ16 a1 = some (qE (cs 3) 100 (fun _ => none)) := hO.at (nmc ne_a1_a13 (nmc ne_a1_a17 nm0)) c_a1
  have k_a4 : μ16 a4 = some (qE (cs 4) 20 (fun _ => none)) := hO.at (nmc ne_a4_a13 (nmc ne_a4_a17 nm0)) c_a4
  have k_a7 : μ16 a7 = some (oE 2 [.int (iN (0)), .int (iN (0)), .int (iN (0)), .int (iN (0)), .ref a11]) := hO.at (nmc ne_a7_a13 (nmc ne_a7_a17 nm0)) c_a7
  have k_a11 : μ16 a11 = some (lE cs 4 (fun _ => 0)) := hO.at (nmc ne_a11_a13 (nmc ne_a11_a17 nm0)) c_a11
  have k_x : μ16 x = some (oE 0 [.null, .ref a1, .int (iN (0)), .ref a4, .int (iN (0)), .int (iN (0)), .ref a7, .null, .null]) := hO.at (nmc ne_x_a13 (nmc ne_x_a17 nm0)) c_x
  have k_a13 : μ16 a13 = some (oE 2 [.int (iN (0)), .int (iN (0)), .int (iN (0)), .int (iN (0)), .ref a17]) := hq
  have k_a17 : μ16 a17 = some (lE cs 4 (fun _ => 0)) := hq2
  have hO0 := hO0.tr1 hO (by simp)
  clear c_a1 c_a4 c_a7 c_a11 c_x c_a13
  have c_a1 := k_a1; clear k_a1
  have c_a4 := k_a4; clear k_a4
  have c_a7 := k_a7; clear k_a7
  have c_a11 := k_a11; clear k_a11
  have c_x := k_x; clear k_x
  have c_a13 := k_a13; clear k_a13
  have c_a17 := k_a17; clear k_a17
  clear hn hq hq2 hO
  refine fm_putF S hK hw c_x i_AF rfl t_AF t_AF_ok n_AF 7 (by decide) (hts _ k119) (fun _ h => h) rfl hnm rfl (ty := (.object "ArithmeticForms$Decimal")) (by decide +kernel) rfl rfl (Nat.le_of_ble_eq_true rfl) d_AF_init_41 (fun μ18 H locs hw hq hO => ?_)
  have k_a1 : μ18 a1 = some (qE (cs 3) 100 (fun _ => none)) := hO.at (nmc (Ne.symm ne_x_a1) nm0) c_a1
  have k_a4 : μ18 a4 = some (qE (cs 4) 20 (fun _ => none)) := hO.at (nmc (Ne.symm ne_x_a4) nm0) c_a4
  have k_a7 : μ18 a7 = some (oE 2 [.int (iN (0)), .int (iN (0)), .int (iN (0)), .int (iN (0)), .ref a11]) := hO.at (nmc (Ne.symm ne_x_a7) nm0) c_a7
  have k_a11 : μ18 a11 = some (lE cs 4 (fun _ => 0)) := hO.at (nmc (Ne.symm ne_x_a11) nm0) c_a11
  have k_a13 : μ18 a13 = some (oE 2 [.int (iN (0)), .int (iN (0)), .int (iN (0)), .int (iN (0)), .ref a17]) := hO.at (nmc (Ne.symm ne_x_a13) nm0) c_a13
  have k_a17 : μ18 a17 = some (lE cs 4 (fun _ => 0)) := hO.at (nmc (Ne.symm ne_x_a17) nm0) c_a17
  have k_x : μ18 x = some (oE 0 [.null, .ref a1, .int (iN (0)), .ref a4, .int (iN (0)), .int (iN (0)), .ref a7, .ref a13, .null]) := hq
  have hO0 := hO0.tr1 hO (by simp)
  clear c_a1 c_a4 c_a7 c_a11 c_x c_a13 c_a17
  have c_a1 := k_a1; clear k_a1
  have c_a4 := k_a4; clear k_a4
  have c_a7 := k_a7; clear k_a7
  have c_a11 := k_a11; clear k_a11
  have c_a13 := k_a13; clear k_a13
  have c_a17 := k_a17; clear k_a17
  have c_x := k_x; clear k_x
  clear hq hO
  refine lv_aload_n hx hb d_AF_init_44 rfl (lv_at hl 0 rfl) ?_
  refine fm_new (ci := 2) (fs := [.int (iN (0)), .int (iN (0)), .int (iN (0)), .int (iN (0)), .null]) S hK hw hA i_De rfl t_De t_De_ok (hts _ k23) (hts _ k27) (hts _ k2) z_De (Nat.le_of_ble_eq_true rfl) (Nat.le_of_ble_eq_true rfl) d_AF_init_45 (fun a19 μ20 H hw hn hq hO => ?_)
  have ne_a1_a19 := nn_ne c_a1 hn
  have ne_a4_a19 := nn_ne c_a4 hn
  have ne_a7_a19 := nn_ne c_a7 hn
  have ne_a11_a19 := nn_ne c_a11 hn
  have ne_a13_a19 := nn_ne c_a13 hn
  have ne_a17_a19 := nn_ne c_a17 hn
  have ne_x_a19 := nn_ne c_x hn
  have hf_a19 := hO0.fr hn (nmc (Ne.symm ne_a17_a19) (nmc (Ne.symm ne_a13_a19) (nmc (Ne.symm ne_a11_a19) (nmc (Ne.symm ne_a7_a19) (nmc (Ne.symm ne_a4_a19) (nmc (Ne.symm ne_a1_a19) (nmc (Ne.symm ne_x_a19) nm0)))))))
  have hO0 := hO0.mono (l' := [a19, a17, a13, a11, a7, a4, a1, x]) (fun _ h => List.mem_cons_of_mem _ h)
  have k_a1 : μ20 a1 = some (qE (cs 3) 100 (fun _ => none)) := hO.at (nmc ne_a1_a19 nm0) c_a1
  have k_a4 : μ20 a4 = some (qE (cs 4) 20 (fun _ => none)) := hO.at (nmc ne_a4_a19 nm0) c_a4
  have k_a7 : μ20 a7 = some (oE 2 [.int (iN (0)), .int (iN (0)), .int (iN (0)), .int (iN (0)), .ref a11]) := hO.at (nmc ne_a7_a19 nm0) c_a7
  have k_a11 : μ20 a11 = some (lE cs 4 (fun _ => 0)) := hO.at (nmc ne_a11_a19 nm0) c_a11
  have k_a13 : μ20 a13 = some (oE 2 [.int (iN (0)), .int (iN (0)), .int (iN (0)), .int (iN (0)), .ref a17]) := hO.at (nmc ne_a13_a19 nm0) c_a13
  have k_a17 : μ20 a17 = some (lE cs 4 (fun _ => 0)) := hO.at (nmc ne_a17_a19 nm0) c_a17
  have k_x : μ20 x = some (oE 0 [.null, .ref a1, .int (iN (0)), .ref a4, .int (iN (0)), .int (iN (0)), .ref a7, .ref a13, .null]) := hO.at (nmc ne_x_a19 nm0) c_x
  have k_a19 : μ20 a19 = some (oE 2 [.int (iN (0)), .int (iN (0)), .int (iN (0)), .int (iN (0)), .null]) := hq
  have hO0 := hO0.tr1 hO (by simp)
  clear c_a1 c_a4 c_a7 c_a11 c_a13 c_a17 c_x
  have c_a1 := k_a1; clear k_a1
  have c_a4 := k_a4; clear k_a4
  have c_a7 := k_a7; clear k_a7
  have c_a11 := k_a11; clear k_a11
  have c_a13 := k_a13; clear k_a13
  have c_a17 := k_a17; clear k_a17
  have c_x := k_x; clear k_x
  have c_a19 := k_a19; clear k_a19
  clear hn hq hO
  refine lv_dup hx hb d_AF_init_48 rfl ?_
  refine fm_callv (va_runIN (As := []) (rest := [.ref a19, .ref x]) S (t_De_init l D cs Z hZo tT hZc μ20 _ a19 c_a19) ⟨cwNA 0 hts k30 rfl rfl hzc.2.2.1.1 k2 (by decide +kernel) (by decide), rfl, hts _ k29⟩ (fm_pre hZo hK hw hZ hA _) rfl rfl hl.1 rfl (lv_room (Nat.le_of_ble_eq_true rfl)) d_AF_init_49 ⟨Nat.le_of_ble_eq_true rfl, Nat.le_of_ble_eq_true rfl⟩) hw hA (fun μ22 H locs q21 hw => ?_)
  obtain ⟨a23, hn, hq, hq2, hO⟩ := q21
  have ne_a1_a23 := nn_ne c_a1 hn
  have ne_a4_a23 := nn_ne c_a4 hn
  have ne_a7_a23 := nn_ne c_a7 hn
  have ne_a11_a23 := nn_ne c_a11 hn
  have ne_a13_a23 := nn_ne c_a13 hn
  have ne_a17_a23 := nn_ne c_a17 hn
  have ne_x_a23 := nn_ne c_x hn
  have ne_a19_a23 := nn_ne c_a19 hn
  have hf_a23 := hO0.fr hn (nmc (Ne.symm ne_a19_a23) (nmc (Ne.symm ne_a17_a23) (nmc (Ne.symm ne_a13_a23) (nmc (Ne.symm ne_a11_a23) (nmc (Ne.symm ne_a7_a23) (nmc (Ne.symm ne_a4_a23) (nmc (Ne.symm ne_a1_a23) (nmc (Ne.symm ne_x_a23) nm0))))))))
  have hO0 := hO0.mono (l' := [a23, a19, a17, a13, a11, a7, a4, a1, x]) (fun _ h => List.mem_cons_of_mem _ h)
  have k_a1 : μ22 a1 = some (qE (cs 3) 100 (fun _ => none)) := hO.at (nmc ne_a1_a19 (nmc ne_a1_a23 nm0)) c_a1
  have k_a4 : μ22 a4 = some (qE (cs 4) 20 (fun _ => none)) := hO.at (nmc ne_a4_a19 (nmc ne_a4_a23 nm0)) c_a4
  have k_a7 : μ22 a7 = some (oE 2 [.int (iN (0)), .int (iN (0)), .int (iN (0)), .int (iN (0)), .ref a11]) := hO.at (nmc ne_a7_a19 (nmc ne_a7_a23 nm0)) c_a7
  have k_a11 : μ22 a11 = some (lE cs 4 (fun _ => 0)) := hO.at (nmc ne_a11_a19 (nmc ne_a11_a23 nm0)) c_a11
  have k_a13 : μ22 a13 = some (oE 2 [.int (iN (0)), .int (iN (0)), .int (iN (0)), .int (iN (0)), .ref a17]) := hO.at (nmc ne_a13_a19 (nmc ne_a13_a23 nm0)) c_a13
  have k_a17 : μ22 a17 = some (lE cs 4 (fun _ => 0)) := hO.at (nmc ne_a17_a19 (nmc ne_a17_a23 nm0)) c_a17
  have k_x : μ22 x = some (oE 0 [.null, .ref a1, .int (iN (0)), .ref a4, .int (iN (0)), .int (iN (0)), .ref a7, .ref a13, .null]) := hO.at (nmc ne_x_a19 (nmc ne_x_a23 nm0)) c_x
  have k_a19 : μ22 a19 = some (oE 2 [.int (iN (0)), .int (iN (0)), .int (iN (0)), .int (iN (0)), .ref a23]) := hq
  have k_a23 : μ22 a23 = some (lE cs 4 (fun _ => 0)) := hq2
  have hO0 := hO0.tr1 hO (by simp)
  clear c_a1 c_a4 c_a7 c_a11 c_a13 c_a17 c_x c_a19
  have c_a1 := k_a1; clear k_a1
  have c_a4 := k_a4; clear k_a4
  have c_a7 := k_a7; clear k_a7
  have c_a11 := k_a11; clear k_a11
  have c_a13 := k_a13; clear k_a13
  have c_a17 := k_a17; clear k_a17
  have c_x := k_x; clear k_x
  have c_a19 := k_a19; clear k_a19
  have c_a23 := k_a23; clear k_a23
  clear hn hq hq2 hO
  refine fm_putF S hK hw c_x i_AF rfl t_AF t_AF_ok n_AF 8 (by decide) (hts _ k120) (fun _ h => h) rfl hnm rfl (ty := (.object "ArithmeticForms$Decimal")) (by decide +kernel) rfl rfl (Nat.le_of_ble_eq_true rfl) d_AF_init_52 (fun μ24 H locs hw hq hO => ?_)
  have k_a1 : μ24 a1 = some (qE (cs 3) 100 (fun _ => none)) := hO.at (nmc (Ne.symm ne_x_a1) nm0) c_a1
  have k_a4 : μ24 a4 = some (qE (cs 4) 20 (fun _ => none)) := hO.at (nmc (Ne.symm ne_x_a4) nm0) c_a4
  have k_a7 : μ24 a7 = some (oE 2 [.int (iN (0)), .int (iN (0)), .int (iN (0)), .int (iN (0)), .ref a11]) := hO.at (nmc (Ne.symm ne_x_a7) nm0) c_a7
  have k_a11 : μ24 a11 = some (lE cs 4 (fun _ => 0)) := hO.at (nmc (Ne.symm ne_x_a11) nm0) c_a11
  have k_a13 : μ24 a13 = some (oE 2 [.int (iN (0)), .int (iN (0)), .int (iN (0)), .int (iN (0)), .ref a17]) := hO.at (nmc (Ne.symm ne_x_a13) nm0) c_a13
  have k_a17 : μ24 a17 = some (lE cs 4 (fun _ => 0)) := hO.at (nmc (Ne.symm ne_x_a17) nm0) c_a17
  have k_a19 : μ24 a19 = some (oE 2 [.int (iN (0)), .int (iN (0)), .int (iN (0)), .int (iN (0)), .ref a23]) := hO.at (nmc (Ne.symm ne_x_a19) nm0) c_a19
  have k_a23 : μ24 a23 = some (lE cs 4 (fun _ => 0)) := hO.at (nmc (Ne.symm ne_x_a23) nm0) c_a23
  have k_x : μ24 x = some (oE 0 [.null, .ref a1, .int (iN (0)), .ref a4, .int (iN (0)), .int (iN (0)), .ref a7, .ref a13, .ref a19]) := hq
  have hO0 := hO0.tr1 hO (by simp)
  clear c_a1 c_a4 c_a7 c_a11 c_a13 c_a17 c_x c_a19 c_a23
  have c_a1 := k_a1; clear k_a1
  have c_a4 := k_a4; clear k_a4
  have c_a7 := k_a7; clear k_a7
  have c_a11 := k_a11; clear k_a11
  have c_a13 := k_a13; clear k_a13
  have c_a17 := k_a17; clear k_a17
  have c_a19 := k_a19; clear k_a19
  have c_a23 := k_a23; clear k_a23
  have c_x := k_x; clear k_x
  clear hq hO
  refine lv_aload_n hx hb d_AF_init_55 rfl (lv_at hl 0 rfl) ?_
  refine fm_new (ci := 1) (fs := [.int (iN (0)), .null, .null, .null]) S hK hw hA i_Ca rfl t_Ca t_Ca_ok (hts _ k58) (hts _ k59) (hts _ k3) z_Ca (Nat.le_of_ble_eq_true rfl) (Nat.le_of_ble_eq_true rfl) d_AF_init_56 (fun a25 μ26 H hw hn hq hO => ?_)
  have ne_a1_a25 := nn_ne c_a1 hn
  have ne_a4_a25 := nn_ne c_a4 hn
  have ne_a7_a25 := nn_ne c_a7 hn
  have ne_a11_a25 := nn_ne c_a11 hn
  have ne_a13_a25 := nn_ne c_a13 hn
  have ne_a17_a25 := nn_ne c_a17 hn
  have ne_a19_a25 := nn_ne c_a19 hn
  have ne_a23_a25 := nn_ne c_a23 hn
  have ne_x_a25 := nn_ne c_x hn
  have hf_a25 := hO0.fr hn (nmc (Ne.symm ne_a23_a25) (nmc (Ne.symm ne_a19_a25) (nmc (Ne.symm ne_a17_a25) (nmc (Ne.symm ne_a13_a25) (nmc (Ne.symm ne_a11_a25) (nmc (Ne.symm ne_a7_a25) (nmc (Ne.symm ne_a4_a25) (nmc (Ne.symm ne_a1_a25) (nmc (Ne.symm ne_x_a25) nm0)))))))))
  have hO0 := hO0.mono (l' := [a25, a23, a19, a17, a13, a11, a7, a4, a1, x]) (fun _ h => List.mem_cons_of_mem _ h)
  have k_a1 : μ26 a1 = some (qE (cs 3) 100 (fun _ => none)) := hO.at (nmc ne_a1_a25 nm0) c_a1
  have k_a4 : μ26 a4 = some (qE (cs 4) 20 (fun _ => none)) := hO.at (nmc ne_a4_a25 nm0) c_a4
  have k_a7 : μ26 a7 = some (oE 2 [.int (iN (0)), .int (iN (0)), .int (iN (0)), .int (iN (0)), .ref a11]) := hO.at (nmc ne_a7_a25 nm0) c_a7
  have k_a11 : μ26 a11 = some (lE cs 4 (fun _ => 0)) := hO.at (nmc ne_a11_a25 nm0) c_a11
  have k_a13 : μ26 a13 = some (oE 2 [.int (iN (0)), .int (iN (0)), .int (iN (0)), .int (iN (0)), .ref a17]) := hO.at (nmc ne_a13_a25 nm0) c_a13
  have k_a17 : μ26 a17 = some (lE cs 4 (fun _ => 0)) := hO.at (nmc ne_a17_a25 nm0) c_a17
  have k_a19 : μ26 a19 = some (oE 2 [.int (iN (0)), .int (iN (0)), .int (iN (0)), .int (iN (0)), .ref a23]) := hO.at (nmc ne_a19_a25 nm0) c_a19
  have k_a23 : μ26 a23 = some (lE cs 4 (fun _ => 0)) := hO.at (nmc ne_a23_a25 nm0) c_a23
  have k_x : μ26 x = some (oE 0 [.null, .ref a1, .int (iN (0)), .ref a4, .int (iN (0)), .int (iN (0)), .ref a7, .ref a13, .ref a19]) := hO.at (nmc ne_x_a25 nm0) c_x
  have k_a25 : μ26 a25 = some (oE 1 [.int (iN (0)), .null, .null, .null]) := hq
  have hO0 := hO0.tr1 hO (by simp)
  clear c_a1 c_a4 c_a7 c_a11 c_a13 c_a17 c_a19 c_a23 c_x
  have c_a1 := k_a1; clear k_a1
  have c_a4 := k_a4; clear k_a4
  have c_a7 := k_a7; clear k_a7
  have c_a11 := k_a11; clear k_a11
  have c_a13 := k_a13; clear k_a13
  have c_a17 := k_a17; clear k_a17
  have c_a19 := k_a19; clear k_a19
  have c_a23 := k_a23; clear k_a23
  have c_x := k_x; clear k_x
  have c_a25 := k_a25; clear k_a25
  clear hn hq hO
  refine lv_dup hx hb d_AF_init_59 rfl ?_
  refine fm_iconst S d_AF_init_60 ?_
  refine fm_bipush S d_AF_init_61 (by decide) ?_
  refine lv_iload_n hx hb d_AF_init_63 rfl (lv_at hl 1 rfl) ?_
  refine fm_callSi (va_runS (As := [.int (iN (31)), .int (iN (f))]) (rest := [.int (iN (1)), .ref a25, .ref a25, .ref x]) S (t_Ma_min l D cs Z hZo tT hZc μ26 _ 31 f (by decide) (by assumption)) (va_cwS 2 hts (gS k60 k61 k4 k62) rfl rfl rfl (by decide +kernel) (by decide)) (fm_pre hZo hK hw hZ hA _) rfl rfl hl.1 rfl (lv_room (Nat.le_of_ble_eq_true rfl)) d_AF_init_64 ⟨Nat.le_of_ble_eq_true rfl, Nat.le_of_ble_eq_true rfl⟩) (fun x28 q27 => ?_)
  refine fm_callSi (va_runS (As := [.int (iN (1)), .int (iN (x28))]) (rest := [.ref a25, .ref a25, .ref x]) S (t_Ma_max l D cs Z hZo tT hZc μ26 _ 1 x28 (by omega) (by omega)) (va_cwS 2 hts (gS k63 k64 k4 k65) rfl rfl rfl (by decide +kernel) (by decide)) (fm_pre hZo hK hw hZ hA _) rfl rfl hl.1 rfl (lv_room (Nat.le_of_ble_eq_true rfl)) d_AF_init_67 ⟨Nat.le_of_ble_eq_true rfl, Nat.le_of_ble_eq_true rfl⟩) (fun x30 q29 => ?_)
  have hprec : x30 = (prec f : Int) := by rw [prec_m, q29, q27]
  refine fm_callv (va_runI (As := [.int (iN (x30))]) (rest := [.ref a25, .ref x]) S (t_Ca_init l D cs Z hZo tT hZc μ26 _ a25 x30 c_a25) (cwIA 1 hts k68 rfl rfl k66 k3 k67 rfl (by decide +kernel) (by decide)) (fm_pre hZo hK hw hZ hA _) rfl rfl hl.1 rfl (lv_room (Nat.le_of_ble_eq_true rfl)) d_AF_init_70 ⟨Nat.le_of_ble_eq_true rfl, Nat.le_of_ble_eq_true rfl⟩) hw hA (fun μ32 H locs q31 hw => ?_)
  obtain ⟨a33, a34, a35, a36, ⟨hn1, hn2, hn3, hn4⟩, hq, hq2, hq3, ⟨F37, hq4, hq5, hdF37, hvF37⟩, hO⟩ := q31
  have ne_a1_a33 := nn_ne c_a1 hn1
  have ne_a4_a33 := nn_ne c_a4 hn1
  have ne_a7_a33 := nn_ne c_a7 hn1
  have ne_a11_a33 := nn_ne c_a11 hn1
  have ne_a13_a33 := nn_ne c_a13 hn1
  have ne_a17_a33 := nn_ne c_a17 hn1
  have ne_a19_a33 := nn_ne c_a19 hn1
  have ne_a23_a33 := nn_ne c_a23 hn1
  have ne_x_a33 := nn_ne c_x hn1
  have ne_a25_a33 := nn_ne c_a25 hn1
  have hf_a33 := hO0.fr hn1 (nmc (Ne.symm ne_a25_a33) (nmc (Ne.symm ne_a23_a33) (nmc (Ne.symm ne_a19_a33) (nmc (Ne.symm ne_a17_a33) (nmc (Ne.symm ne_a13_a33) (nmc (Ne.symm ne_a11_a33) (nmc (Ne.symm ne_a7_a33) (nmc (Ne.symm ne_a4_a33) (nmc (Ne.symm ne_a1_a33) (nmc (Ne.symm ne_x_a33) nm0))))))))))
  have ne_a1_a34 := nn_ne c_a1 hn2
  have ne_a4_a34 := nn_ne c_a4 hn2
  have ne_a7_a34 := nn_ne c_a7 hn2
  have ne_a11_a34 := nn_ne c_a11 hn2
  have ne_a13_a34 := nn_ne c_a13 hn2
  have ne_a17_a34 := nn_ne c_a17 hn2
  have ne_a19_a34 := nn_ne c_a19 hn2
  have ne_a23_a34 := nn_ne c_a23 hn2
  have ne_x_a34 := nn_ne c_x hn2
  have ne_a25_a34 := nn_ne c_a25 hn2
  have hf_a34 := hO0.fr hn2 (nmc (Ne.symm ne_a25_a34) (nmc (Ne.symm ne_a23_a34) (nmc (Ne.symm ne_a19_a34) (nmc (Ne.symm ne_a17_a34) (nmc (Ne.symm ne_a13_a34) (nmc (Ne.symm ne_a11_a34) (nmc (Ne.symm ne_a7_a34) (nmc (Ne.symm ne_a4_a34) (nmc (Ne.symm ne_a1_a34) (nmc (Ne.symm ne_x_a34) nm0))))))))))
  have ne_a1_a35 := nn_ne c_a1 hn3
  have ne_a4_a35 := nn_ne c_a4 hn3
  have ne_a7_a35 := nn_ne c_a7 hn3
  have ne_a11_a35 := nn_ne c_a11 hn3
  have ne_a13_a35 := nn_ne c_a13 hn3
  have ne_a17_a35 := nn_ne c_a17 hn3
  have ne_a19_a35 := nn_ne c_a19 hn3
  have ne_a23_a35 := nn_ne c_a23 hn3
  have ne_x_a35 := nn_ne c_x hn3
  have ne_a25_a35 := nn_ne c_a25 hn3
  have hf_a35 := hO0.fr hn3 (nmc (Ne.symm ne_a25_a35) (nmc (Ne.symm ne_a23_a35) (nmc (Ne.symm ne_a19_a35) (nmc (Ne.symm ne_a17_a35) (nmc (Ne.symm ne_a13_a35) (nmc (Ne.symm ne_a11_a35) (nmc (Ne.symm ne_a7_a35) (nmc (Ne.symm ne_a4_a35) (nmc (Ne.symm ne_a1_a35) (nmc (Ne.symm ne_x_a35) nm0))))))))))
  have ne_a1_a36 := nn_ne c_a1 hn4
  have ne_a4_a36 := nn_ne c_a4 hn4
  have ne_a7_a36 := nn_ne c_a7 hn4
  have ne_a11_a36 := nn_ne c_a11 hn4
  have ne_a13_a36 := nn_ne c_a13 hn4
  have ne_a17_a36 := nn_ne c_a17 hn4
  have ne_a19_a36 := nn_ne c_a19 hn4
  have ne_a23_a36 := nn_ne c_a23 hn4
  have ne_x_a36 := nn_ne c_x hn4
  have ne_a25_a36 := nn_ne c_a25 hn4
  have hf_a36 := hO0.fr hn4 (nmc (Ne.symm ne_a25_a36) (nmc (Ne.symm ne_a23_a36) (nmc (Ne.symm ne_a19_a36) (nmc (Ne.symm ne_a17_a36) (nmc (Ne.symm ne_a13_a36) (nmc (Ne.symm ne_a11_a36) (nmc (Ne.symm ne_a7_a36) (nmc (Ne.symm ne_a4_a36) (nmc (Ne.symm ne_a1_a36) (nmc (Ne.symm ne_x_a36) nm0))))))))))
  have k_a1 : μ32 a1 = some (qE (cs 3) 100 (fun _ => none)) := hO.at (nmc ne_a1_a25 (nmc ne_a1_a33 (nmc ne_a1_a34 (nmc ne_a1_a35 (nmc ne_a1_a36 nm0))))) c_a1
  have k_a4 : μ32 a4 = some (qE (cs 4) 20 (fun _ => none)) := hO.at (nmc ne_a4_a25 (nmc ne_a4_a33 (nmc ne_a4_a34 (nmc ne_a4_a35 (nmc ne_a4_a36 nm0))))) c_a4
  have k_a7 : μ32 a7 = some (oE 2 [.int (iN (0)), .int (iN (0)), .int (iN (0)), .int (iN (0)), .ref a11]) := hO.at (nmc ne_a7_a25 (nmc ne_a7_a33 (nmc ne_a7_a34 (nmc ne_a7_a35 (nmc ne_a7_a36 nm0))))) c_a7
  have k_a11 : μ32 a11 = some (lE cs 4 (fun _ => 0)) := hO.at (nmc ne_a11_a25 (nmc ne_a11_a33 (nmc ne_a11_a34 (nmc ne_a11_a35 (nmc ne_a11_a36 nm0))))) c_a11
  have k_a13 : μ32 a13 = some (oE 2 [.int (iN (0)), .int (iN (0)), .int (iN (0)), .int (iN (0)), .ref a17]) := hO.at (nmc ne_a13_a25 (nmc ne_a13_a33 (nmc ne_a13_a34 (nmc ne_a13_a35 (nmc ne_a13_a36 nm0))))) c_a13
  have k_a17 : μ32 a17 = some (lE cs 4 (fun _ => 0)) := hO.at (nmc ne_a17_a25 (nmc ne_a17_a33 (nmc ne_a17_a34 (nmc ne_a17_a35 (nmc ne_a17_a36 nm0))))) c_a17
  have k_a19 : μ32 a19 = some (oE 2 [.int (iN (0)), .int (iN (0)), .int (iN (0)), .int (iN (0)), .ref a23]) := hO.at (nmc ne_a19_a25 (nmc ne_a19_a33 (nmc ne_a19_a34 (nmc ne_a19_a35 (nmc ne_a19_a36 nm0))))) c_a19
  have k_a23 : μ32 a23 = some (lE cs 4 (fun _ => 0)) := hO.at (nmc ne_a23_a25 (nmc ne_a23_a33 (nmc ne_a23_a34 (nmc ne_a23_a35 (nmc ne_a23_a36 nm0))))) c_a23
  have k_x : μ32 x = some (oE 0 [.null, .ref a1, .int (iN (0)), .ref a4, .int (iN (0)), .int (iN (0)), .ref a7, .ref a13, .ref a19]) := hO.at (nmc ne_x_a25 (nmc ne_x_a33 (nmc ne_x_a34 (nmc ne_x_a35 (nmc ne_x_a36 nm0))))) c_x
  have k_a25 : μ32 a25 = some (oE 1 [.int (iN (x30)), .ref a33, .ref a34, .ref a35]) := hq
  have k_a33 : μ32 a33 = some (lE cs 30 (fun _ => 0)) := hq2
  have k_a34 : μ32 a34 = some (lE cs 5 (fun _ => 0)) := hq3
  have k_a35 : μ32 a35 = some (oE 2 [.int (iN (0)), .int (iN ((sgn one300))), .int (iN ((tp one300))), .int (iN ((nd (cN one300) : Int))), .ref a36]) := hq4
  have k_a36 : μ32 a36 = some (lE cs 4 F37) := hq5
  have hO0 := hO0.mono (l' := [a33, a34, a35, a36, a25, a23, a19, a17, a13, a11, a7, a4, a1, x]) (fun _ h => List.mem_cons_of_mem _ (List.mem_cons_of_mem _ (List.mem_cons_of_mem _ (List.mem_cons_of_mem _ (h)))))
  have hO0 := hO0.tr1 hO (by simp)
  clear c_a1 c_a4 c_a7 c_a11 c_a13 c_a17 c_a19 c_a23 c_x c_a25
  have c_a1 := k_a1; clear k_a1
  have c_a4 := k_a4; clear k_a4
  have c_a7 := k_a7; clear k_a7
  have c_a11 := k_a11; clear k_a11
  have c_a13 := k_a13; clear k_a13
  have c_a17 := k_a17; clear k_a17
  have c_a19 := k_a19; clear k_a19
  have c_a23 := k_a23; clear k_a23
  have c_x := k_x; clear k_x
  have c_a25 := k_a25; clear k_a25
  have c_a33 := k_a33; clear k_a33
  have c_a34 := k_a34; clear k_a34
  have c_a35 := k_a35; clear k_a35
  have c_a36 := k_a36; clear k_a36
  clear hn1 hn2 hn3 hn4 hq hq2 hq3 hq4 hq5 hO
  refine fm_putF S hK hw c_x i_AF rfl t_AF t_AF_ok n_AF 0 (by decide) (hts _ k112) (fun _ h => h) rfl hnm rfl (ty := (.object "ArithmeticForms$Calculator")) (by decide +kernel) rfl rfl (Nat.le_of_ble_eq_true rfl) d_AF_init_73 (fun μ38 H locs hw hq hO => ?_)
  have k_a1 : μ38 a1 = some (qE (cs 3) 100 (fun _ => none)) := hO.at (nmc (Ne.symm ne_x_a1) nm0) c_a1
  have k_a4 : μ38 a4 = some (qE (cs 4) 20 (fun _ => none)) := hO.at (nmc (Ne.symm ne_x_a4) nm0) c_a4
  have k_a7 : μ38 a7 = some (oE 2 [.int (iN (0)), .int (iN (0)), .int (iN (0)), .int (iN (0)), .ref a11]) := hO.at (nmc (Ne.symm ne_x_a7) nm0) c_a7
  have k_a11 : μ38 a11 = some (lE cs 4 (fun _ => 0)) := hO.at (nmc (Ne.symm ne_x_a11) nm0) c_a11
  have k_a13 : μ38 a13 = some (oE 2 [.int (iN (0)), .int (iN (0)), .int (iN (0)), .int (iN (0)), .ref a17]) := hO.at (nmc (Ne.symm ne_x_a13) nm0) c_a13
  have k_a17 : μ38 a17 = some (lE cs 4 (fun _ => 0)) := hO.at (nmc (Ne.symm ne_x_a17) nm0) c_a17
  have k_a19 : μ38 a19 = some (oE 2 [.int (iN (0)), .int (iN (0)), .int (iN (0)), .int (iN (0)), .ref a23]) := hO.at (nmc (Ne.symm ne_x_a19) nm0) c_a19
  have k_a23 : μ38 a23 = some (lE cs 4 (fun _ => 0)) := hO.at (nmc (Ne.symm ne_x_a23) nm0) c_a23
  have k_a25 : μ38 a25 = some (oE 1 [.int (iN (x30)), .ref a33, .ref a34, .ref a35]) := hO.at (nmc (Ne.symm ne_x_a25) nm0) c_a25
  have k_a33 : μ38 a33 = some (lE cs 30 (fun _ => 0)) := hO.at (nmc (Ne.symm ne_x_a33) nm0) c_a33
  have k_a34 : μ38 a34 = some (lE cs 5 (fun _ => 0)) := hO.at (nmc (Ne.symm ne_x_a34) nm0) c_a34
  have k_a35 : μ38 a35 = some (oE 2 [.int (iN (0)), .int (iN ((sgn one300))), .int (iN ((tp one300))), .int (iN ((nd (cN one300) : Int))), .ref a36]) := hO.at (nmc (Ne.symm ne_x_a35) nm0) c_a35
  have k_a36 : μ38 a36 = some (lE cs 4 F37) := hO.at (nmc (Ne.symm ne_x_a36) nm0) c_a36
  have k_x : μ38 x = some (oE 0 [.ref a25, .ref a1, .int (iN (0)), .ref a4, .int (iN (0)), .int (iN (0)), .ref a7, .ref a13, .ref a19]) := hq
  have hO0 := hO0.tr1 hO (by simp)
  clear c_a1 c_a4 c_a7 c_a11 c_a13 c_a17 c_a19 c_a23 c_x c_a25 c_a33 c_a34 c_a35 c_a36
  have c_a1 := k_a1; clear k_a1
  have c_a4 := k_a4; clear k_a4
  have c_a7 := k_a7; clear k_a7
  have c_a11 := k_a11; clear k_a11
  have c_a13 := k_a13; clear k_a13
  have c_a17 := k_a17; clear k_a17
  have c_a19 := k_a19; clear k_a19
  have c_a23 := k_a23; clear k_a23
  have c_a25 := k_a25; clear k_a25
  have c_a33 := k_a33; clear k_a33
  have c_a34 := k_a34; clear k_a34
  have c_a35 := k_a35; clear k_a35
  have c_a36 := k_a36; clear k_a36
  have c_x := k_x; clear k_x
  clear hq hO
  refine fm_vret S hr hlocks hK hw d_AF_init_76 ?_
  rw [hprec] at c_a25
  refine ⟨a25, a1, a4, a33, a34, f4 a35 a7 a13 a19, f4 a36 a11 a17 a23, fun _ => 0, ⟨sg0_ok f, c_x, c_a25, ⟨_, c_a33⟩, ⟨_, c_a34⟩, ⟨_, c_a1, fun i hi => absurd hi (Nat.not_lt_zero i)⟩, ⟨_, c_a4, fun i hi => absurd hi (Nat.not_lt_zero i)⟩, ⟨F37, c_a35, c_a36, hdF37, hvF37⟩, ⟨_, _, _, _, _, c_a7, c_a11⟩, ⟨_, _, _, _, _, c_a13, c_a17⟩, ⟨_, _, _, _, _, c_a19, c_a23⟩, fun i hi => absurd hi (Nat.not_lt_zero i), fun i hi => absurd hi (Nat.not_lt_zero i), f4_in (Ne.symm ne_a7_a35) (Ne.symm ne_a13_a35) (Ne.symm ne_a19_a35) ne_a7_a13 ne_a7_a19 ne_a13_a19, f4_in (Ne.symm ne_a11_a36) (Ne.symm ne_a17_a36) (Ne.symm ne_a23_a36) ne_a11_a17 ne_a11_a23 ne_a17_a23, fun i j hi => absurd hi (Nat.not_lt_zero i)⟩, ?_⟩
  exact kpR.of hO0 (okL.f hf_a33 (okL.f hf_a34 (okL.f hf_a35 (okL.f hf_a36 (okL.f hf_a25 (okL.f hf_a23 (okL.f hf_a19 (okL.f hf_a17 (okL.f hf_a13 (okL.f hf_a11 (okL.f hf_a7 (okL.f hf_a4 (okL.f hf_a1 (okL.c j_x rfl okL.n))))))))))))))
