theorem fd_lo {a b x : Int} (hb : 0 < b) (ha : a < 0) (hm : ¬ x * b = a) (hx : x = Int.tdiv a b) : x - 1 = a / b := by
  subst hx
  have h1 := Int.tdiv_mul_add_tmod a b
  have h2 := Int.tmod_eq_emod (a := a) (b := b)
  have h3 := Int.tdiv_eq_ediv (a := a) (b := b)
  have hd : ¬ b ∣ a := fun hd => hm (Int.tdiv_mul_cancel hd)
  rw [h3, if_neg (by intro h; rcases h with h | h; omega; exact hd h), Int.sign_eq_one_of_pos hb]
  omega
theorem fd_hi {a b : Int} (hb : 0 < b) (h : 0 ≤ a ∨ Int.tdiv a b * b = a) : Int.tdiv a b = a / b := by
  rw [Int.tdiv_eq_ediv]
  rcases h with h | h
  · rw [if_pos (Or.inl h)]; omega
  · rw [if_pos (Or.inr ⟨Int.tdiv a b, by rw [Int.mul_comm]; exact h.symm⟩)]; omega
theorem td_np {a b : Int} (hb : 0 < b) (ha : a ≤ 0) : Int.tdiv a b ≤ 0 ∧ a ≤ Int.tdiv a b := by
  have h1 : Int.tdiv a b = -((-a) / b) := by rw [← Int.tdiv_eq_ediv_of_nonneg (show 0 ≤ -a by omega), Int.neg_tdiv, Int.neg_neg]
  have h2 := Int.ediv_nonneg (show 0 ≤ -a by omega) (show 0 ≤ b by omega)
  have h3 := Int.ediv_le_self b (show 0 ≤ -a by omega)
  omega
theorem td_in {a b : Int} (ha : inJ a) (hb : 0 < b) : inJ (Int.tdiv a b) := by
  rcases Int.le_total 0 a with h | h
  · rw [Int.tdiv_eq_ediv_of_nonneg h]
    have h2 := Int.ediv_nonneg h (show 0 ≤ b by omega)
    have h3 := Int.ediv_le_self b h
    omega
  · have := td_np hb h
    omega

set_option maxHeartbeats 4000000 in
set_option maxRecDepth 100000 in
theorem t_Ma_floorDiv (l : Launch) (D : va_G) (cs : Nat → ClassId) (Z : (Nat → Prop) → State → Heap → Prop) (hZo : fm_Zok Z) (tT : Nat) (hZc : ∀ A U H, Z A U H → Zc tT A U H) (μ : fm_Mu) (sz : Nat) (a b : Int) (hia : inJ a) (hib : inJ b) (hbp : 0 < b) : Met l y_Ma_floorDiv (Cond.code y_Ma_floorDiv c_Ma_floorDiv 6 (some .long) :: wA) ({ frames := 0, cells := 0, slots := 0, locals := 0 }) (fm_Pc D clsA (tysA cs) Z μ sz [.long (jN a), .long (jN b)]) (fm_Sl (fun z => z = a / b)) 0 0 (fun _ => False) := by
  refine cl_ofF (by decide +kernel) (Nat.le_of_ble_eq_true rfl) (fun p e s m below meth c S hr hlocks hnm hsz hw hK hZ hA ls hl => ?_)
  subst hsz
  replace S : CallFix p m c c_Ma_floorDiv 6 s _ wA "java/lang/Math" := S
  obtain ⟨hx, hb, hml, hown, hts⟩ := id S
  have hl : lv_has ls 6 [(0, .long (jN a)), (2, .long (jN b))] := hl
  have hq0 : inJ (Int.tdiv a b) := td_in hia hbp
  refine lv_lload_n hx hb d_Ma_floorDiv_0 rfl (lv_at hl 0 rfl) ?_
  refine lv_lload_n hx hb d_Ma_floorDiv_1 rfl (lv_at hl 1 rfl) ?_
  refine fm_ldiv S (by omega) d_Ma_floorDiv_2 ?_
  refine lv_lstore (lv' := [(4, .long (jN (Int.tdiv a b))), (0, .long (jN a)), (2, .long (jN b))]) hx hb d_Ma_floorDiv_3 hl (by decide) rfl (fun ls hl => ?_)
  refine lv_lload_n hx hb d_Ma_floorDiv_5 rfl (lv_at hl 1 rfl) ?_
  refine lv_lload_n hx hb d_Ma_floorDiv_6 rfl (lv_at hl 2 rfl) ?_
  obtain ⟨z, hz, ez, sz⟩ := jN_xor hia hib (by omega)
  refine lv_lxor hx hb d_Ma_floorDiv_7 ?_
  rw [ez]
  refine fm_lconst0 S d_Ma_floorDiv_8 ?_
  refine fm_lcmp S hz inJ_0 d_Ma_floorDiv_9 ?_
  refine fm_if_ge (tgt := 27) S (fm_cmp_in _ _) d_Ma_floorDiv_10 (by decide) (fun c1 => ?_) (fun c1 => ?_)
  · rw [fm_cmp_ge] at c1
    refine lv_lload hx hb d_Ma_floorDiv_27 (lv_at hl 0 rfl) ?_
    exact fm_lretS S hr hlocks d_Ma_floorDiv_29 (fd_hi hbp (Or.inl (sz.mp c1)))
  · rw [fm_cmp_ge] at c1
    have ha0 : a < 0 := by
      rcases Int.lt_or_le a 0 with h | h
      · exact h
      · exact absurd (sz.mpr h) c1
    have hq1 : inJ (Int.tdiv a b * b) := by
      have h1 := Int.tdiv_mul_add_tmod a b
      have h2 : Int.tmod a b ≤ 0 := by
        have := Int.tmod_nonneg (a := -a) b (by omega)
        rw [Int.neg_tmod] at this
        omega
      have h3 : Int.tdiv a b ≤ 0 := (td_np hbp (by omega)).1
      have h4 : Int.tdiv a b * b ≤ 0 := Int.mul_nonpos_of_nonpos_of_nonneg h3 (by omega)
      omega
    refine lv_lload hx hb d_Ma_floorDiv_13 (lv_at hl 0 rfl) ?_
    refine lv_lload_n hx hb d_Ma_floorDiv_15 rfl (lv_at hl 2 rfl) ?_
    refine fm_lmul S d_Ma_floorDiv_16 ?_
    refine lv_lload_n hx hb d_Ma_floorDiv_17 rfl (lv_at hl 1 rfl) ?_
    refine fm_lcmp S hq1 hia d_Ma_floorDiv_18 ?_
    refine fm_if_eq (tgt := 27) S (fm_cmp_in _ _) d_Ma_floorDiv_19 (by decide) (fun c2 => ?_) (fun c2 => ?_)
    · rw [fm_cmp_eq] at c2
      refine lv_lload hx hb d_Ma_floorDiv_27 (lv_at hl 0 rfl) ?_
      exact fm_lretS S hr hlocks d_Ma_floorDiv_29 (fd_hi hbp (Or.inr c2))
    · rw [fm_cmp_eq] at c2
      refine lv_lload hx hb d_Ma_floorDiv_22 (lv_at hl 0 rfl) ?_
      refine fm_lconst1 S d_Ma_floorDiv_24 ?_
      refine fm_lsub S d_Ma_floorDiv_25 ?_
      exact fm_lretS S hr hlocks d_Ma_floorDiv_26 (fd_lo hbp ha0 c2 rfl)

set_option maxHeartbeats 4000000 in
set_option maxRecDepth 100000 in
/-- L_fill -/
theorem L_fill {p : Program} {l : Launch} {e : Env} {s : State} {m : MethodId} {args : Array Value} {below : List Frame} {meth : Method} {c : Code} {Q : State → Prop} {D : va_G} {cs : Nat → ClassId} {Z : (Nat → Prop) → State → Heap → Prop} {A : Nat → Prop}  (S : CallFix p m c c_Ar_fill 5 s args wA "java/util/Arrays") (hK : va_K D clsA (tysA cs) s) (hZo : fm_Zok Z) (tT : Nat) (hZc : ∀ A U H, Z A U H → Zc tT A U H) (hZ : Z A s s.heap) (hA : ∀ q, s.heap.size ≤ q → A q) (μ0 : fm_Mu) (a n : Nat) (v : Int) (hn1 : n < 1000) (kk22 : ∀ (μ1 : fm_Mu) (i : Int) (F1 : Int → Int) (H : Heap) (locs : List Loc) (ls : Array Slot), (i = n) → (∀ q : Int, 0 ≤ q → q < i → F1 q = v) → (μ1 a = some (lE cs n F1)) → fm_O μ0 μ1 [a] → lv_has ls 5 [(3, .int (iN (i))), (4, .int (iN ((n : Int)))), (0, .ref a), (1, .long (jN (v)))] → fm_W D clsA A s.heap μ1 H locs → W p l e ({ frames := 0, cells := 0, slots := 0, locals := 0 }) s m args below meth c H locs 0 0 Q (F0 m 22 ls [])) : ∀ (fu : Nat) (μ1 : fm_Mu) (i : Int) (F1 : Int → Int) (H : Heap) (locs : List Loc) (ls : Array Slot), (n : Int) - i < (fu : Int) → (0 ≤ i ∧ i ≤ n) → (∀ q : Int, 0 ≤ q → q < i → F1 q = v) → (μ1 a = some (lE cs n F1)) → fm_O μ0 μ1 [a] → lv_has ls 5 [(3, .int (iN (i))), (4, .int (iN ((n : Int)))), (0, .ref a), (1, .long (jN (v)))] → fm_W D clsA A s.heap μ1 H locs → W p l e ({ frames := 0, cells := 0, slots := 0, locals := 0 }) s m args below meth c H locs 0 0 Q (F0 m 6 ls []) := by
  obtain ⟨hx, hb, hml, hown, hts⟩ := id S
  have hzc := hZc _ _ _ hZ
  intro fu
  induction fu with
  | zero =>
    intro μ1 i F1 H locs ls hn hi hF c_a hO0 hl hw
    exfalso; omega
  | succ fu ih =>
    intro μ1 i F1 H locs ls hn hi hF c_a hO0 hl hw
    refine lv_iload_n hx hb d_Ar_fill_6 rfl (lv_at hl 0 rfl) ?_
    refine lv_iload hx hb d_Ar_fill_7 (lv_at hl 1 rfl) ?_
    refine fm_icmp_ge (tgt := 22) S (by omega) (by omega) d_Ar_fill_9 (by decide) (fun c1 => ?_) (fun c1 => ?_)
    · exact kk22 μ1 i F1 _ _ _ (by omega) (hF) c_a hO0 (lv_sub hl [0, 1, 2, 3] rfl) hw
    · refine lv_aload_n hx hb d_Ar_fill_12 rfl (lv_at hl 2 rfl) ?_
      refine lv_iload_n hx hb d_Ar_fill_13 rfl (lv_at hl 0 rfl) ?_
      refine lv_lload_n hx hb d_Ar_fill_14 rfl (lv_at hl 3 rfl) ?_
      refine cl_last S hK hw c_a (by omega) d_Ar_fill_15 (fun F2 μ3 H locs eF2 hw hq hO => ?_)
      have k_a : μ3 a = some (lE cs n F2) := hq
      have hO0 := hO0.tr1 hO (by simp)
      clear c_a
      have c_a := k_a; clear k_a
      clear hq hO
      refine lv_iinc (v := iN ((i + 1))) (lv' := [(3, .int (iN ((i + 1)))), (4, .int (iN ((n : Int)))), (0, .ref a), (1, .long (jN (v)))]) hx hb d_Ar_fill_16 hl (k := 0) rfl (iN_add _ _) (by decide) rfl (fun ls hl => ?_)
      refine lv_goto (tgt := 6) hx hb d_Ar_fill_19 (by decide) ?_
      exact ih μ3 (i + 1) F2 _ _ _ (by omega) (by omega) (by intro q h1 h2; rw [eF2]; by_cases h3 : q = i; rw [h3, uI_s]; rw [uI_n h3]; exact hF q h1 (by omega)) c_a hO0 (lv_sub hl [0, 1, 2, 3] rfl) hw

set_option maxHeartbeats 4000000 in
set_option maxRecDepth 100000 in
/-- Arrays.fill -/
theorem t_Ar_fill (l : Launch) (D : va_G) (cs : Nat → ClassId) (Z : (Nat → Prop) → State → Heap → Prop) (hZo : fm_Zok Z) (tT : Nat) (hZc : ∀ A U H, Z A U H → Zc tT A U H) (μ : fm_Mu) (sz : Nat) (a : Nat) (n : Nat) (F : Int → Int) (v : Int) (hn1 : n < 1000) (c_a : μ a = some (lE cs n F)) : Met l y_Ar_fill (Cond.code y_Ar_fill c_Ar_fill 5 none :: wA) ({ frames := 0, cells := 0, slots := 0, locals := 0 }) (fm_Pc D clsA (tysA cs) Z μ sz [.ref a, .long (jN (v))]) (fm_Qv D clsA (tysA cs) μ sz (fun μ' => ∃ F' : Int → Int, μ' a = some (lE cs n F') ∧ (∀ q : Int, 0 ≤ q → q < n → F' q = v) ∧ fm_O μ μ' [a])) 0 0 (fm_A μ sz) := by
  refine cl_ofF (by decide +kernel) (Nat.le_of_ble_eq_true rfl) (fun p e s m below meth c S hr hlocks hnm hsz hw hK hZ hA ls hl => ?_)
  subst hsz
  replace S : CallFix p m c c_Ar_fill 5 s _ wA "java/util/Arrays" := S
  obtain ⟨hx, hb, hml, hown, hts⟩ := id S
  have hzc := hZc _ _ _ hZ
  have hO0 : fm_O μ μ [a] := fm_O.rf
  have hl : lv_has ls 5 [(0, .ref a), (1, .long (jN (v)))] := hl
  refine fm_iconst S d_Ar_fill_0 ?_
  refine lv_istore_n (lv' := [(3, .int (iN (0))), (0, .ref a), (1, .long (jN (v)))]) hx hb d_Ar_fill_1 rfl hl (by decide) rfl (fun ls hl => ?_)
  refine lv_aload_n hx hb d_Ar_fill_2 rfl (lv_at hl 1 rfl) ?_
  refine cl_alen S hK hw c_a d_Ar_fill_3 ?_
  refine lv_istore (lv' := [(4, .int (iN (n))), (3, .int (iN (0))), (0, .ref a), (1, .long (jN (v)))]) hx hb d_Ar_fill_4 hl (by decide) rfl (fun ls hl => ?_)
  refine L_fill (Z := Z) S hK hZo tT hZc hZ hA μ a n v hn1 (fun μ1 i F1 H locs ls hi hF c_a hO0 hl hw => ?_) (n + 1) μ 0 F _ _ _ (by omega) (by omega) (by intro q h1 h2; omega) c_a hO0 (lv_sub hl [1, 0, 2, 3] rfl) hw
  refine fm_vret S hr hlocks hK hw d_Ar_fill_22 ?_
  exact ⟨F1, c_a, fun q h1 h2 => hF q h1 (by omega), hO0⟩

set_option maxHeartbeats 4000000 in
set_option maxRecDepth 100000 in
/-- clear() -/
theorem t_De_clear (l : Launch) (D : va_G) (cs : Nat → ClassId) (Z : (Nat → Prop) → State → Heap → Prop) (hZo : fm_Zok Z) (tT : Nat) (hZc : ∀ A U H, Z A U H → Zc tT A U H) (μ : fm_Mu) (sz : Nat) (h : Nat) (a : Nat) (co : Int) (sg : Int) (tp : Int) (ct : Int) (F : Int → Int)  (c_h : μ h = some (oE 2 [.int (iN (co)), .int (iN (sg)), .int (iN (tp)), .int (iN (ct)), .ref a])) (c_a : μ a = some (lE cs 4 F)) : Met l y_De_clear (Cond.code y_De_clear c_De_clear 1 none :: wA) ({ frames := 1, cells := 0, slots := 0, locals := 24 }) (fm_Pc D clsA (tysA cs) Z μ sz [.ref h]) (fm_Qv D clsA (tysA cs) μ sz (fun μ' => ∃ F' : Int → Int, μ' h = some (dE 0 0 0 0 a) ∧ μ' a = some (lE cs 4 F') ∧ (∀ q : Int, 0 ≤ q → q < (4 : Nat) → F' q = 0) ∧ fm_O μ μ' [h, a])) 0 0 (fm_A μ sz) := by
  refine cl_of (by decide +kernel) (Nat.le_of_ble_eq_true rfl) (fun p e s m below meth c S hr hlocks hnm hsz hw hK hZ hA ls hl => ?_)
  subst hsz
  replace S : CallFix p m c c_De_clear 1 s _ wA "ArithmeticForms$Decimal" := S
  obtain ⟨hx, hb, hml, hown, hts⟩ := id S
  have hzc := hZc _ _ _ hZ
  have hO0 : fm_O μ μ [h, a] := fm_O.rf
  have hl : lv_has ls 1 [(0, .ref h)] := hl
  refine lv_aload_n hx hb d_De_clear_0 rfl (lv_at hl 0 rfl) ?_
  refine fm_iconst S d_De_clear_1 ?_
  refine fm_put S hK hw c_h i_De rfl t_De t_De_ok n_De 0 (by decide) (hts _ k32) (fun _ h => h) rfl (ty := .int) (by decide +kernel) rfl rfl (Nat.le_of_ble_eq_true rfl) d_De_clear_2 (fun μ1 H locs hw hq hO => ?_)
  have k_a : μ1 a = some (lE cs 4 F) := hO.at (nmc (fm_kn c_a c_h rfl) nm0) c_a
  have k_h : μ1 h = some (oE 2 [.int (iN (0)), .int (iN (sg)), .int (iN (tp)), .int (iN (ct)), .ref a]) := hq
  have hO0 := hO0.tr1 hO (by simp)
  clear c_h c_a
  have c_a := k_a; clear k_a
  have c_h := k_h; clear k_h
  clear hq hO
  refine lv_aload_n hx hb d_De_clear_5 rfl (lv_at hl 0 rfl) ?_
  refine fm_iconst S d_De_clear_6 ?_
  refine fm_put S hK hw c_h i_De rfl t_De t_De_ok n_De 1 (by decide) (hts _ k35) (fun _ h => h) rfl (ty := .int) (by decide +kernel) rfl rfl (Nat.le_of_ble_eq_true rfl) d_De_clear_7 (fun μ2 H locs hw hq hO => ?_)
  have k_a : μ2 a = some (lE cs 4 F) := hO.at (nmc (fm_kn c_a c_h rfl) nm0) c_a
  have k_h : μ2 h = some (oE 2 [.int (iN (0)), .int (iN (0)), .int (iN (tp)), .int (iN (ct)), .ref a]) := hq
  have hO0 := hO0.tr1 hO (by simp)
  clear c_a c_h
  have c_a := k_a; clear k_a
  have c_h := k_h; clear k_h
  clear hq hO
  refine lv_aload_n hx hb d_De_clear_10 rfl (lv_at hl 0 rfl) ?_
  refine fm_iconst S d_De_clear_11 ?_
  refine fm_put S hK hw c_h i_De rfl t_De t_De_ok n_De 2 (by decide) (hts _ k39) (fun _ h => h) rfl (ty := .int) (by decide +kernel) rfl rfl (Nat.le_of_ble_eq_true rfl) d_De_clear_12 (fun μ3 H locs hw hq hO => ?_)
  have k_a : μ3 a = some (lE cs 4 F) := hO.at (nmc (fm_kn c_a c_h rfl) nm0) c_a
  have k_h : μ3 h = some (oE 2 [.int (iN (0)), .int (iN (0)), .int (iN (0)), .int (iN (ct)), .ref a]) := hq
  have hO0 := hO0.tr1 hO (by simp)
  clear c_a c_h
  have c_a := k_a; clear k_a
  have c_h := k_h; clear k_h
  clear hq hO
  refine lv_aload_n hx hb d_De_clear_15 rfl (lv_at hl 0 rfl) ?_
  refine fm_iconst S d_De_clear_16 ?_
  refine fm_put S hK hw c_h i_De rfl t_De t_De_ok n_De 3 (by decide) (hts _ k41) (fun _ h => h) rfl (ty := .int) (by decide +kernel) rfl rfl (Nat.le_of_ble_eq_true rfl) d_De_clear_17 (fun μ4 H locs hw hq hO => ?_)
  have k_a : μ4 a = some (lE cs 4 F) := hO.at (nmc (fm_kn c_a c_h rfl) nm0) c_a
  have k_h : μ4 h = some (oE 2 [.int (iN (0)), .int (iN (0)), .int (iN (0)), .int (iN (0)), .ref a]) := hq
  have hO0 := hO0.tr1 hO (by simp)
  clear c_a c_h
  have c_a := k_a; clear k_a
  have c_h := k_h; clear k_h
  clear hq hO
  refine lv_aload_n hx hb d_De_clear_20 rfl (lv_at hl 0 rfl) ?_
  refine fm_get S hK hw c_h i_De rfl 4 (by decide) (hts _ k44) (fun _ h => h) rfl d_De_clear_21 ?_
  refine fm_lconst0 S d_De_clear_24 ?_
  refine fm_callv (va_runS (As := [.ref a, .long (jN (0))]) (rest := []) S (t_Ar_fill l D cs Z hZo tT hZc μ4 _ a 4 F 0 (by decide) c_a) (va_cwS 2 hts (gS k80 k81 k5 k82) rfl rfl rfl (by decide +kernel) (by decide)) (fm_pre hZo hK hw hZ hA _) rfl rfl hl.1 rfl (lv_room (Nat.le_of_ble_eq_true rfl)) d_De_clear_25 ⟨Nat.le_of_ble_eq_true rfl, Nat.le_of_ble_eq_true rfl⟩) hw hA (fun μ6 H locs q5 hw => ?_)
  obtain ⟨F7, hq, eF7, hO⟩ := q5
  have k_h : μ6 h = some (oE 2 [.int (iN (0)), .int (iN (0)), .int (iN (0)), .int (iN (0)), .ref a]) := hO.at (nmc (fm_kn c_h c_a rfl) nm0) c_h
  have k_a : μ6 a = some (lE cs 4 F7) := hq
  have hO0 := hO0.tr1 hO (by simp)
  clear c_a c_h
  have c_h := k_h; clear k_h
  have c_a := k_a; clear k_a
  clear hq hO
  refine fm_vret S hr hlocks hK hw d_De_clear_28 ?_
  exact ⟨F7, c_h, c_a, eF7, hO0⟩

set_option maxHeartbeats 4000000 in
set_option maxRecDepth 100000 in
/-- raise(w) -/
theorem t_De_raise (l : Launch) (D : va_G) (cs : Nat → ClassId) (Z : (Nat → Prop) → State → Heap → Prop) (hZo : fm_Zok Z) (tT : Nat) (hZc : ∀ A U H, Z A U H → Zc tT A U H) (μ : fm_Mu) (sz : Nat) (h : Nat) (a : Nat) (co : Int) (sg : Int) (tp : Int) (ct : Int) (F : Int → Int) (w : Int)  (c_h : μ h = some (oE 2 [.int (iN (co)), .int (iN (sg)), .int (iN (tp)), .int (iN (ct)), .ref a])) (c_a : μ a = some (lE cs 4 F)) : Met l y_De_raise (Cond.code y_De_raise c_De_raise 2 none :: wA) ({ frames := 2, cells := 0, slots := 0, locals := 44 }) (fm_Pc D clsA (tysA cs) Z μ sz [.ref h, .int (iN (w))]) (fm_Qv D clsA (tysA cs) μ sz (fun μ' => ∃ F' : Int → Int, μ' h = some (dE w 0 0 0 a) ∧ μ' a = some (lE cs 4 F') ∧ (∀ q : Int, 0 ≤ q → q < (4 : Nat) → F' q = 0) ∧ fm_O μ μ' [h, a])) 0 0 (fm_A μ sz) := by
  refine cl_of (by decide +kernel) (Nat.le_of_ble_eq_true rfl) (fun p e s m below meth c S hr hlocks hnm hsz hw hK hZ hA ls hl => ?_)
  subst hsz
  replace S : CallFix p m c c_De_raise 2 s _ wA "ArithmeticForms$Decimal" := S
  obtain ⟨hx, hb, hml, hown, hts⟩ := id S
  have hzc := hZc _ _ _ hZ
  have hO0 : fm_O μ μ [h, a] := fm_O.rf
  have hl : lv_has ls 2 [(0, .ref h), (1, .int (iN (w)))] := hl
  refine lv_aload_n hx hb d_De_raise_0 rfl (lv_at hl 0 rfl) ?_
  refine fm_callv (va_runV (As := []) (rest := []) S (t_De_clear l D cs Z hZo tT hZc μ _ h a co sg tp ct F c_h c_a) (cwV 0 hts (gV k76 k77 k78 k2 k79) rfl rfl rfl (by decide +kernel) (by decide)) (fm_preV hZo hK hw hZ hA c_h rfl _) rfl rfl hl.1 rfl (lv_room (Nat.le_of_ble_eq_true rfl)) d_De_raise_1 ⟨Nat.le_of_ble_eq_true rfl, Nat.le_of_ble_eq_true rfl⟩) hw hA (fun μ2 H locs q1 hw => ?_)
  obtain ⟨F3, hq, hq2, eF3, hO⟩ := q1
  have k_h : μ2 h = some (oE 2 [.int (iN (0)), .int (iN (0)), .int (iN (0)), .int (iN (0)), .ref a]) := hq
  have k_a : μ2 a = some (lE cs 4 F3) := hq2
  have hO0 := hO0.tr1 hO (by simp)
  clear c_h c_a
  have c_h := k_h; clear k_h
  have c_a := k_a; clear k_a
  clear hq hq2 hO
  refine lv_aload_n hx hb d_De_raise_4 rfl (lv_at hl 0 rfl) ?_
  refine lv_iload_n hx hb d_De_raise_5 rfl (lv_at hl 1 rfl) ?_
  refine fm_put S hK hw c_h i_De rfl t_De t_De_ok n_De 0 (by decide) (hts _ k32) (fun _ h => h) rfl (ty := .int) (by decide +kernel) rfl rfl (Nat.le_of_ble_eq_true rfl) d_De_raise_6 (fun μ4 H locs hw hq hO => ?_)
  have k_a : μ4 a = some (lE cs 4 F3) := hO.at (nmc (fm_kn c_a c_h rfl) nm0) c_a
  have k_h : μ4 h = some (oE 2 [.int (iN (w)), .int (iN (0)), .int (iN (0)), .int (iN (0)), .ref a]) := hq
  have hO0 := hO0.tr1 hO (by simp)
  clear c_h c_a
  have c_a := k_a; clear k_a
  have c_h := k_h; clear k_h
  clear hq hO
  refine fm_vret S hr hlocks hK hw d_De_raise_9 ?_
  exact ⟨F3, c_h, c_a, eF3, hO0⟩

set_option maxHeartbeats 4000000 in
set_option maxRecDepth 100000 in
/-- exponent() -/
theorem t_De_exponent (l : Launch) (D : va_G) (cs : Nat → ClassId) (Z : (Nat → Prop) → State → Heap → Prop) (hZo : fm_Zok Z) (tT : Nat) (hZc : ∀ A U H, Z A U H → Zc tT A U H) (μ : fm_Mu) (sz : Nat) (h : Nat) (a : Nat) (co : Int) (sg : Int) (tp : Int) (ct : Int) (F : Int → Int) (hct : inI ct) (c_h : μ h = some (oE 2 [.int (iN (co)), .int (iN (sg)), .int (iN (tp)), .int (iN (ct)), .ref a])) (c_a : μ a = some (lE cs 4 F)) : Met l y_De_exponent (Cond.code y_De_exponent c_De_exponent 1 (some .int) :: wA) ({ frames := 0, cells := 0, slots := 0, locals := 0 }) (fm_Pc D clsA (tysA cs) Z μ sz [.ref h]) (fm_Si (fun z => z = if ct = 0 then 0 else tp + 1 - ct)) 0 0 (fun _ => False) := by
  refine cl_of (by decide +kernel) (Nat.le_of_ble_eq_true rfl) (fun p e s m below meth c S hr hlocks hnm hsz hw hK hZ hA ls hl => ?_)
  subst hsz
  replace S : CallFix p m c c_De_exponent 1 s _ wA "ArithmeticForms$Decimal" := S
  obtain ⟨hx, hb, hml, hown, hts⟩ := id S
  have hzc := hZc _ _ _ hZ
  have hl : lv_has ls 1 [(0, .ref h)] := hl
  refine lv_aload_n hx hb d_De_exponent_0 rfl (lv_at hl 0 rfl) ?_
  refine fm_get S hK hw c_h i_De rfl 3 (by decide) (hts _ k41) (fun _ h => h) rfl d_De_exponent_1 ?_
  refine fm_if_ne (tgt := 11) S (by omega) d_De_exponent_4 (by decide) (fun c1 => ?_) (fun c1 => ?_)
  · refine lv_aload_n hx hb d_De_exponent_11 rfl (lv_at hl 0 rfl) ?_
    refine fm_get S hK hw c_h i_De rfl 2 (by decide) (hts _ k39) (fun _ h => h) rfl d_De_exponent_12 ?_
    refine fm_iconst S d_De_exponent_15 ?_
    refine fm_iadd S d_De_exponent_16 ?_
    refine lv_aload_n hx hb d_De_exponent_17 rfl (lv_at hl 0 rfl) ?_
    refine fm_get S hK hw c_h i_De rfl 3 (by decide) (hts _ k41) (fun _ h => h) rfl d_De_exponent_18 ?_
    refine fm_isub S d_De_exponent_21 ?_
    refine fm_iretS S hr hlocks d_De_exponent_22 ?_
    split <;> omega
  · refine fm_iconst S d_De_exponent_7 ?_
    refine lv_goto (tgt := 22) hx hb d_De_exponent_8 (by decide) ?_
    refine fm_iretS S hr hlocks d_De_exponent_22 ?_
    split <;> omega

set_option maxHeartbeats 4000000 in
set_option maxRecDepth 100000 in
/-- wholeDigits(sc) -/
theorem t_De_wholeDigits (l : Launch) (D : va_G) (cs : Nat → ClassId) (Z : (Nat → Prop) → State → Heap → Prop) (hZo : fm_Zok Z) (tT : Nat) (hZc : ∀ A U H, Z A U H → Zc tT A U H) (μ : fm_Mu) (sz : Nat) (h : Nat) (a : Nat) (co : Int) (sg : Int) (tp : Int) (ct : Int) (F : Int → Int) (sc : Int) (hct : inI ct) (c_h : μ h = some (oE 2 [.int (iN (co)), .int (iN (sg)), .int (iN (tp)), .int (iN (ct)), .ref a])) (c_a : μ a = some (lE cs 4 F)) : Met l y_De_wholeDigits (Cond.code y_De_wholeDigits c_De_wholeDigits 2 (some .int) :: wA) ({ frames := 0, cells := 0, slots := 0, locals := 0 }) (fm_Pc D clsA (tysA cs) Z μ sz [.ref h, .int (iN (sc))]) (fm_Si (fun z => z = if ct = 0 then 0 else tp + 1 + sc)) 0 0 (fun _ => False) := by
  refine cl_of (by decide +kernel) (Nat.le_of_ble_eq_true rfl) (fun p e s m below meth c S hr hlocks hnm hsz hw hK hZ hA ls hl => ?_)
  subst hsz
  replace S : CallFix p m c c_De_wholeDigits 2 s _ wA "ArithmeticForms$Decimal" := S
  obtain ⟨hx, hb, hml, hown, hts⟩ := id S
  have hzc := hZc _ _ _ hZ
  have hl : lv_has ls 2 [(0, .ref h), (1, .int (iN (sc)))] := hl
  refine lv_aload_n hx hb d_De_wholeDigits_0 rfl (lv_at hl 0 rfl) ?_
  refine fm_get S hK hw c_h i_De rfl 3 (by decide) (hts _ k41) (fun _ h => h) rfl d_De_wholeDigits_1 ?_
  refine fm_if_ne (tgt := 11) S (by omega) d_De_wholeDigits_4 (by decide) (fun c1 => ?_) (fun c1 => ?_)
  · refine lv_aload_n hx hb d_De_wholeDigits_11 rfl (lv_at hl 0 rfl) ?_
    refine fm_get S hK hw c_h i_De rfl 2 (by decide) (hts _ k39) (fun _ h => h) rfl d_De_wholeDigits_12 ?_
    refine fm_iconst S d_De_wholeDigits_15 ?_
    refine fm_iadd S d_De_wholeDigits_16 ?_
    refine lv_iload_n hx hb d_De_wholeDigits_17 rfl (lv_at hl 1 rfl) ?_
    refine fm_iadd S d_De_wholeDigits_18 ?_
    refine fm_iretS S hr hlocks d_De_wholeDigits_19 ?_
    split <;> omega
  · refine fm_iconst S d_De_wholeDigits_7 ?_
    refine lv_goto (tgt := 19) hx hb d_De_wholeDigits_8 (by decide) ?_
    refine fm_iretS S hr hlocks d_De_wholeDigits_19 ?_
    split <;> omega

set_option maxHeartbeats 4000000 in
set_option maxRecDepth 100000 in
/-- copy(other) -/
theorem t_De_copy (l : Launch) (D : va_G) (cs : Nat → ClassId) (Z : (Nat → Prop) → State → Heap → Prop) (hZo : fm_Zok Z) (tT : Nat) (hZc : ∀ A U H, Z A U H → Zc tT A U H) (μ : fm_Mu) (sz : Nat) (h : Nat) (a : Nat) (co : Int) (sg : Int) (tp : Int) (ct : Int) (F : Int → Int) (g : Nat) (b : Nat) (co2 : Int) (sg2 : Int) (tp2 : Int) (ct2 : Int) (G : Int → Int) (hne : g ≠ h) (hne2 : b ≠ a) (c_h : μ h = some (oE 2 [.int (iN (co)), .int (iN (sg)), .int (iN (tp)), .int (iN (ct)), .ref a])) (c_a : μ a = some (lE cs 4 F)) (c_g : μ g = some (oE 2 [.int (iN (co2)), .int (iN (sg2)), .int (iN (tp2)), .int (iN (ct2)), .ref b])) (c_b : μ b = some (lE cs 4 G)) : Met l y_De_copy (Cond.code y_De_copy c_De_copy 2 none :: wA) ({ frames := 1, cells := 0, slots := 0, locals := 40 }) (fm_Pc D clsA (tysA cs) Z μ sz [.ref h, .ref g]) (fm_Qv D clsA (tysA cs) μ sz (fun μ' => ∃ F' : Int → Int, μ' h = some (dE co2 sg2 tp2 ct2 a) ∧ μ' a = some (lE cs 4 F') ∧ (∀ q : Int, 0 ≤ q → q < (4 : Nat) → F' q = G q) ∧ fm_O μ μ' [h, a])) 0 0 (fm_A μ sz) := by
  refine cl_of (by decide +kernel) (Nat.le_of_ble_eq_true rfl) (fun p e s m below meth c S hr hlocks hnm hsz hw hK hZ hA ls hl => ?_)
  subst hsz
  replace S : CallFix p m c c_De_copy 2 s _ wA "ArithmeticForms$Decimal" := S
  obtain ⟨hx, hb, hml, hown, hts⟩ := id S
  have hzc := hZc _ _ _ hZ
  have hO0 : fm_O μ μ [h, a] := fm_O.rf
  have hl : lv_has ls 2 [(0, .ref h), (1, .ref g)] := hl
  refine lv_aload_n hx hb d_De_copy_0 rfl (lv_at hl 0 rfl) ?_
  refine lv_aload_n hx hb d_De_copy_1 rfl (lv_at hl 1 rfl) ?_
  refine fm_get S hK hw c_g i_De rfl 0 (by decide) (hts _ k32) (fun _ h => h) rfl d_De_copy_2 ?_
  refine fm_put S hK hw c_h i_De rfl t_De t_De_ok n_De 0 (by decide) (hts _ k32) (fun _ h => h) rfl (ty := .int) (by decide +kernel) rfl rfl (Nat.le_of_ble_eq_true rfl) d_De_copy_5 (fun μ1 H locs hw hq hO => ?_)
  have k_a : μ1 a = some (lE cs 4 F) := hO.at (nmc (fm_kn c_a c_h rfl) nm0) c_a
  have k_g : μ1 g = some (oE 2 [.int (iN (co2)), .int (iN (sg2)), .int (iN (tp2)), .int (iN (ct2)), .ref b]) := hO.at (nmc hne nm0) c_g
  have k_b : μ1 b = some (lE cs 4 G) := hO.at (nmc (fm_kn c_b c_h rfl) nm0) c_b
  have k_h : μ1 h = some (oE 2 [.int (iN (co2)), .int (iN (sg)), .int (iN (tp)), .int (iN (ct)), .ref a]) := hq
  have hO0 := hO0.tr1 hO (by simp)
  clear c_h c_a c_g c_b
  have c_a := k_a; clear k_a
  have c_g := k_g; clear k_g
  have c_b := k_b; clear k_b
  have c_h := k_h; clear k_h
  clear hq hO
  refine lv_aload_n hx hb d_De_copy_8 rfl (lv_at hl 0 rfl) ?_
  refine lv_aload_n hx hb d_De_copy_9 rfl (lv_at hl 1 rfl) ?_
  refine fm_get S hK hw c_g i_De rfl 1 (by decide) (hts _ k35) (fun _ h => h) rfl d_De_copy_10 ?_
  refine fm_put S hK hw c_h i_De rfl t_De t_De_ok n_De 1 (by decide) (hts _ k35) (fun _ h => h) rfl (ty := .int) (by decide +kernel) rfl rfl (Nat.le_of_ble_eq_true rfl) d_De_copy_13 (fun μ2 H locs hw hq hO => ?_)
  have k_a : μ2 a = some (lE cs 4 F) := hO.at (nmc (fm_kn c_a c_h rfl) nm0) c_a
  have k_g : μ2 g = some (oE 2 [.int (iN (co2)), .int (iN (sg2)), .int (iN (tp2)), .int (iN (ct2)), .ref b]) := hO.at (nmc hne nm0) c_g
  have k_b : μ2 b = some (lE cs 4 G) := hO.at (nmc (fm_kn c_b c_h rfl) nm0) c_b
  have k_h : μ2 h = some (oE 2 [.int (iN (co2)), .int (iN (sg2)), .int (iN (tp)), .int (iN (ct)), .ref a]) := hq
  have hO0 := hO0.tr1 hO (by simp)
  clear c_a c_g c_b c_h
  have c_a := k_a; clear k_a
  have c_g := k_g; clear k_g
  have c_b := k_b; clear k_b
  have c_h := k_h; clear k_h
  clear hq hO
  refine lv_aload_n hx hb d_De_copy_16 rfl (lv_at hl 0 rfl) ?_
  refine lv_aload_n hx hb d_De_copy_17 rfl (lv_at hl 1 rfl) ?_
  refine fm_get S hK hw c_g i_De rfl 2 (by decide) (hts _ k39) (fun _ h => h) rfl d_De_copy_18 ?_
  refine fm_put S hK hw c_h i_De rfl t_De t_De_ok n_De 2 (by decide) (hts _ k39) (fun _ h => h) rfl (ty := .int) (by decide +kernel) rfl rfl (Nat.le_of_ble_eq_true rfl) d_De_copy_21 (fun μ3 H locs hw hq hO => ?_)
  have k_a : μ3 a = some (lE cs 4 F) := hO.at (nmc (fm_kn c_a c_h rfl) nm0) c_a
  have k_g : μ3 g = some (oE 2 [.int (iN (co2)), .int (iN (sg2)), .int (iN (tp2)), .int (iN (ct2)), .ref b]) := hO.at (nmc hne nm0) c_g
  have k_b : μ3 b = some (lE cs 4 G) := hO.at (nmc (fm_kn c_b c_h rfl) nm0) c_b
  have k_h : μ3 h = some (oE 2 [.int (iN (co2)), .int (iN (sg2)), .int (iN (tp2)), .int (iN (ct)), .ref a]) := hq
  have hO0 := hO0.tr1 hO (by simp)
  clear c_a c_g c_b c_h
  have c_a := k_a; clear k_a
  have c_g := k_g; clear k_g
  have c_b := k_b; clear k_b
  have c_h := k_h; clear k_h
  clear hq hO
  refine lv_aload_n hx hb d_De_copy_24 rfl (lv_at hl 0 rfl) ?_
  refine lv_aload_n hx hb d_De_copy_25 rfl (lv_at hl 1 rfl) ?_
  refine fm_get S hK hw c_g i_De rfl 3 (by decide) (hts _ k41) (fun _ h => h) rfl d_De_copy_26 ?_
  refine fm_put S hK hw c_h i_De rfl t_De t_De_ok n_De 3 (by decide) (hts _ k41) (fun _ h => h) rfl (ty := .int) (by decide +kernel) rfl rfl (Nat.le_of_ble_eq_true rfl) d_De_copy_29 (fun μ4 H locs hw hq hO => ?_)
  have k_a : μ4 a = some (lE cs 4 F) := hO.at (nmc (fm_kn c_a c_h rfl) nm0) c_a
  have k_g : μ4 g = some (oE 2 [.int (iN (co2)), .int (iN (sg2)), .int (iN (tp2)), .int (iN (ct2)), .ref b]) := hO.at (nmc hne nm0) c_g
  have k_b : μ4 b = some (lE cs 4 G) := hO.at (nmc (fm_kn c_b c_h rfl) nm0) c_b
  have k_h : μ4 h = some (oE 2 [.int (iN (co2)), .int (iN (sg2)), .int (iN (tp2)), .int (iN (ct2)), .ref a]) := hq
  have hO0 := hO0.tr1 hO (by simp)
  clear c_a c_g c_b c_h
  have c_a := k_a; clear k_a
  have c_g := k_g; clear k_g
  have c_b := k_b; clear k_b
  have c_h := k_h; clear k_h
  clear hq hO
  refine lv_aload_n hx hb d_De_copy_32 rfl (lv_at hl 1 rfl) ?_
  refine fm_get S hK hw c_g i_De rfl 4 (by decide) (hts _ k44) (fun _ h => h) rfl d_De_copy_33 ?_
  refine fm_iconst S d_De_copy_36 ?_
  refine lv_aload_n hx hb d_De_copy_37 rfl (lv_at hl 0 rfl) ?_
  refine fm_get S hK hw c_h i_De rfl 4 (by decide) (hts _ k44) (fun _ h => h) rfl d_De_copy_38 ?_
  refine fm_iconst S d_De_copy_41 ?_
  refine fm_iconst S d_De_copy_42 ?_
  refine cl_copy S (by rw [hml]; exact hl.1.symm) hK hw hzc.2.2.2.2.2 k196 k197 k7 c_b c_a (by omega) (Nat.le_of_ble_eq_true rfl) (Nat.le_of_ble_eq_true rfl) d_De_copy_43 (fun F5 μ6 H locs eF5 hw hq hO => ?_)
  have k_g : μ6 g = some (oE 2 [.int (iN (co2)), .int (iN (sg2)), .int (iN (tp2)), .int (iN (ct2)), .ref b]) := hO.at (nmc (fm_kn c_g c_a rfl) nm0) c_g
  have k_b : μ6 b = some (lE cs 4 G) := hO.at (nmc hne2 nm0) c_b
  have k_h : μ6 h = some (oE 2 [.int (iN (co2)), .int (iN (sg2)), .int (iN (tp2)), .int (iN (ct2)), .ref a]) := hO.at (nmc (fm_kn c_h c_a rfl) nm0) c_h
  have k_a : μ6 a = some (lE cs 4 F5) := hq
  have hO0 := hO0.tr1 hO (by simp)
  clear c_a c_g c_b c_h
  have c_g := k_g; clear k_g
  have c_b := k_b; clear k_b
  have c_h := k_h; clear k_h
  have c_a := k_a; clear k_a
  clear hq hO
  refine fm_vret S hr hlocks hK hw d_De_copy_46 ?_
  exact ⟨F5, c_h, c_a, fun q h1 h2 => by rw [eF5 q h1, if_pos (by omega)]; congr 1; omega, hO0⟩
