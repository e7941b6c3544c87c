set_option maxHeartbeats 4000000 in
set_option maxRecDepth 100000 in
/-- nodeAt(n) -/
theorem t_AF_nodeAt (l : Launch) (D : va_G) (cs : Nat → ClassId) (Z : (Nat → Prop) → State → Heap → Prop) (hZo : fm_Zok Z) (tT : Nat) (hZc : ∀ A U H, Z A U H → Zc tT A U H) (μ : fm_Mu) (sz : Nat) (x : Nat) (kc : Nat) (kn : Nat) (kr : Nat) (wd : Nat) (lf : Nat) (da : Nat → Nat) (dl : Nat → Nat) (ra : Nat → Nat) (σ : Sg) (n : Int) (hS : afS cs μ x kc kn kr wd lf da dl ra σ) (hin : inI n)  : Met l y_AF_nodeAt (Cond.code y_AF_nodeAt c_AF_nodeAt 2 (some (.object "ArithmeticForms$Decimal")) :: wA) ({ frames := 0, cells := 0, slots := 0, locals := 0 }) (fm_Pc D clsA (tysA cs) Z μ sz [.ref x, .int (iN (n))]) (va_Sq (fun z => z = if 0 < n ∧ n ≤ (sC σ : Int) then some (da (4 + (n - 1).toNat)) else none)) 0 0 (fun _ => False) := by
  refine cl_of (by decide +kernel) (Nat.le_of_ble_eq_true rfl) (fun p e s m below meth c S hr hlocks hnm hsz hw hK hZ hA ls hl => ?_)
  subst hsz
  replace S : CallFix p m c c_AF_nodeAt 2 s _ wA "ArithmeticForms" := S
  obtain ⟨hx, hb, hml, hown, hts⟩ := id S
  have hzc := hZc _ _ _ hZ
  have hl : lv_has ls 2 [(0, .ref x), (1, .int (iN (n)))] := hl
  have c_x := hS.cx
  have c_kc := hS.ck
  obtain ⟨G0, c_wd⟩ := hS.cw
  obtain ⟨X0, c_lf⟩ := hS.cl
  obtain ⟨fn, c_kn, hfn⟩ := hS.cn
  obtain ⟨fr, c_kr, hfr⟩ := hS.cr
  have hok := hS.ok
  have hokC := hok.2.2.1
  have hokR := hok.2.2.2.1
  have hP : 1 ≤ sP σ ∧ sP σ ≤ 31 := ⟨hok.1, hok.2.1⟩
  have j_x := c_x
  have j_kc := c_kc
  have j_wd := c_wd
  have j_lf := c_lf
  have j_kn := c_kn
  have j_kr := c_kr
  refine lv_iload_n hx hb d_AF_nodeAt_0 rfl (lv_at hl 1 rfl) ?_
  refine fm_iconst S d_AF_nodeAt_1 ?_
  refine fm_icmp_lt (tgt := 13) S (by omega) (by omega) d_AF_nodeAt_2 (by decide) (fun c1 => ?_) (fun c1 => ?_)
  · refine lv_null hx hb d_AF_nodeAt_13 ?_
    refine lv_goto (tgt := 25) hx hb d_AF_nodeAt_14 (by decide) ?_
    refine fm_aretS (X := none) S hr (Or.inl ⟨_, rfl⟩) hlocks d_AF_nodeAt_25 ?_
    rw [if_neg (by omega)]
  · refine lv_iload_n hx hb d_AF_nodeAt_5 rfl (lv_at hl 1 rfl) ?_
    refine lv_aload_n hx hb d_AF_nodeAt_6 rfl (lv_at hl 0 rfl) ?_
    refine fm_get S hK hw c_x i_AF rfl 2 (by decide) (hts _ k114) (fun _ h => h) rfl d_AF_nodeAt_7 ?_
    refine fm_icmp_le (tgt := 17) S (by omega) (by omega) d_AF_nodeAt_10 (by decide) (fun c2 => ?_) (fun c2 => ?_)
    · refine lv_aload_n hx hb d_AF_nodeAt_17 rfl (lv_at hl 0 rfl) ?_
      refine fm_get S hK hw c_x i_AF rfl 1 (by decide) (hts _ k113) (fun _ h => h) rfl d_AF_nodeAt_18 ?_
      refine lv_iload_n hx hb d_AF_nodeAt_21 rfl (lv_at hl 1 rfl) ?_
      refine fm_iconst S d_AF_nodeAt_22 ?_
      refine fm_isub S d_AF_nodeAt_23 ?_
      refine fm_aald S hK hw c_kn 3 rfl (by omega) d_AF_nodeAt_24 ?_
      refine fm_aretS (X := fn ((n - 1)).toNat) S hr (Or.inl ⟨_, rfl⟩) hlocks d_AF_nodeAt_25 ?_
      rw [if_pos (by omega), hfn _ (by omega)]
    · refine lv_null hx hb d_AF_nodeAt_13 ?_
      refine lv_goto (tgt := 25) hx hb d_AF_nodeAt_14 (by decide) ?_
      refine fm_aretS (X := none) S hr (Or.inl ⟨_, rfl⟩) hlocks d_AF_nodeAt_25 ?_
      rw [if_neg (by omega)]

set_option maxHeartbeats 4000000 in
set_option maxRecDepth 100000 in
/-- receiverAt(n) -/
theorem t_AF_receiverAt (l : Launch) (D : va_G) (cs : Nat → ClassId) (Z : (Nat → Prop) → State → Heap → Prop) (hZo : fm_Zok Z) (tT : Nat) (hZc : ∀ A U H, Z A U H → Zc tT A U H) (μ : fm_Mu) (sz : Nat) (x : Nat) (kc : Nat) (kn : Nat) (kr : Nat) (wd : Nat) (lf : Nat) (da : Nat → Nat) (dl : Nat → Nat) (ra : Nat → Nat) (σ : Sg) (n : Int) (hS : afS cs μ x kc kn kr wd lf da dl ra σ) (hin : inI n)  : Met l y_AF_receiverAt (Cond.code y_AF_receiverAt c_AF_receiverAt 2 (some (.object "ArithmeticForms$Receiver")) :: wA) ({ frames := 0, cells := 0, slots := 0, locals := 0 }) (fm_Pc D clsA (tysA cs) Z μ sz [.ref x, .int (iN (n))]) (va_Sq (fun z => z = if 0 < n ∧ n ≤ (sR σ : Int) then some (ra (n - 1).toNat) else none)) 0 0 (fun _ => False) := by
  refine cl_of (by decide +kernel) (Nat.le_of_ble_eq_true rfl) (fun p e s m below meth c S hr hlocks hnm hsz hw hK hZ hA ls hl => ?_)
  subst hsz
  replace S : CallFix p m c c_AF_receiverAt 2 s _ wA "ArithmeticForms" := S
  obtain ⟨hx, hb, hml, hown, hts⟩ := id S
  have hzc := hZc _ _ _ hZ
  have hl : lv_has ls 2 [(0, .ref x), (1, .int (iN (n)))] := hl
  have c_x := hS.cx
  have c_kc := hS.ck
  obtain ⟨G0, c_wd⟩ := hS.cw
  obtain ⟨X0, c_lf⟩ := hS.cl
  obtain ⟨fn, c_kn, hfn⟩ := hS.cn
  obtain ⟨fr, c_kr, hfr⟩ := hS.cr
  have hok := hS.ok
  have hokC := hok.2.2.1
  have hokR := hok.2.2.2.1
  have hP : 1 ≤ sP σ ∧ sP σ ≤ 31 := ⟨hok.1, hok.2.1⟩
  have j_x := c_x
  have j_kc := c_kc
  have j_wd := c_wd
  have j_lf := c_lf
  have j_kn := c_kn
  have j_kr := c_kr
  refine lv_iload_n hx hb d_AF_receiverAt_0 rfl (lv_at hl 1 rfl) ?_
  refine fm_iconst S d_AF_receiverAt_1 ?_
  refine fm_icmp_lt (tgt := 13) S (by omega) (by omega) d_AF_receiverAt_2 (by decide) (fun c1 => ?_) (fun c1 => ?_)
  · refine lv_null hx hb d_AF_receiverAt_13 ?_
    refine lv_goto (tgt := 25) hx hb d_AF_receiverAt_14 (by decide) ?_
    refine fm_aretS (X := none) S hr (Or.inl ⟨_, rfl⟩) hlocks d_AF_receiverAt_25 ?_
    rw [if_neg (by omega)]
  · refine lv_iload_n hx hb d_AF_receiverAt_5 rfl (lv_at hl 1 rfl) ?_
    refine lv_aload_n hx hb d_AF_receiverAt_6 rfl (lv_at hl 0 rfl) ?_
    refine fm_get S hK hw c_x i_AF rfl 4 (by decide) (hts _ k116) (fun _ h => h) rfl d_AF_receiverAt_7 ?_
    refine fm_icmp_le (tgt := 17) S (by omega) (by omega) d_AF_receiverAt_10 (by decide) (fun c2 => ?_) (fun c2 => ?_)
    · refine lv_aload_n hx hb d_AF_receiverAt_17 rfl (lv_at hl 0 rfl) ?_
      refine fm_get S hK hw c_x i_AF rfl 3 (by decide) (hts _ k115) (fun _ h => h) rfl d_AF_receiverAt_18 ?_
      refine lv_iload_n hx hb d_AF_receiverAt_21 rfl (lv_at hl 1 rfl) ?_
      refine fm_iconst S d_AF_receiverAt_22 ?_
      refine fm_isub S d_AF_receiverAt_23 ?_
      refine fm_aald S hK hw c_kr 4 rfl (by omega) d_AF_receiverAt_24 ?_
      refine fm_aretS (X := fr ((n - 1)).toNat) S hr (Or.inl ⟨_, rfl⟩) hlocks d_AF_receiverAt_25 ?_
      rw [if_pos (by omega), hfr _ (by omega)]
    · refine lv_null hx hb d_AF_receiverAt_13 ?_
      refine lv_goto (tgt := 25) hx hb d_AF_receiverAt_14 (by decide) ?_
      refine fm_aretS (X := none) S hr (Or.inl ⟨_, rfl⟩) hlocks d_AF_receiverAt_25 ?_
      rw [if_neg (by omega)]

set_option maxHeartbeats 4000000 in
set_option maxRecDepth 100000 in
/-- stored(r) -/
theorem t_AF_stored (l : Launch) (D : va_G) (cs : Nat → ClassId) (Z : (Nat → Prop) → State → Heap → Prop) (hZo : fm_Zok Z) (tT : Nat) (hZc : ∀ A U H, Z A U H → Zc tT A U H) (μ : fm_Mu) (sz : Nat) (x : Nat) (kc : Nat) (kn : Nat) (kr : Nat) (wd : Nat) (lf : Nat) (da : Nat → Nat) (dl : Nat → Nat) (ra : Nat → Nat) (σ : Sg) (n : Int) (hS : afS cs μ x kc kn kr wd lf da dl ra σ) (hin : inI n)  : Met l y_AF_stored (Cond.code y_AF_stored c_AF_stored 3 (some .long) :: wA) ({ frames := 1, cells := 0, slots := 0, locals := 21 }) (fm_Pc D clsA (tysA cs) Z μ sz [.ref x, .int (iN (n))]) (fm_Sl (fun z => z = sp_stored σ n)) 0 0 (fun _ => False) := by
  refine cl_of (by decide +kernel) (Nat.le_of_ble_eq_true rfl) (fun p e s m below meth c S hr hlocks hnm hsz hw hK hZ hA ls hl => ?_)
  subst hsz
  replace S : CallFix p m c c_AF_stored 3 s _ wA "ArithmeticForms" := S
  obtain ⟨hx, hb, hml, hown, hts⟩ := id S
  have hzc := hZc _ _ _ hZ
  have hl : lv_has ls 3 [(0, .ref x), (1, .int (iN (n)))] := hl
  have c_x := hS.cx
  have c_kc := hS.ck
  obtain ⟨G0, c_wd⟩ := hS.cw
  obtain ⟨X0, c_lf⟩ := hS.cl
  obtain ⟨fn, c_kn, hfn⟩ := hS.cn
  obtain ⟨fr, c_kr, hfr⟩ := hS.cr
  have hok := hS.ok
  have hokC := hok.2.2.1
  have hokR := hok.2.2.2.1
  have hP : 1 ≤ sP σ ∧ sP σ ≤ 31 := ⟨hok.1, hok.2.1⟩
  have j_x := c_x
  have j_kc := c_kc
  have j_wd := c_wd
  have j_lf := c_lf
  have j_kn := c_kn
  have j_kr := c_kr
  refine lv_aload_n hx hb d_AF_stored_0 rfl (lv_at hl 0 rfl) ?_
  refine lv_iload_n hx hb d_AF_stored_1 rfl (lv_at hl 1 rfl) ?_
  refine fm_callSq (va_runV (As := [.int (iN (n))]) (rest := []) S (t_AF_receiverAt l D cs Z hZo tT hZc μ _ x kc kn kr wd lf da dl ra σ n hS (by omega)) (cwV 1 hts (gV k304 k306 ks11 k1 k307) rfl rfl rfl (by decide +kernel) (by decide)) (fm_preV hZo hK hw hZ hA c_x rfl _) rfl rfl hl.1 rfl (lv_room (Nat.le_of_ble_eq_true rfl)) d_AF_stored_2 ⟨Nat.le_of_ble_eq_true rfl, Nat.le_of_ble_eq_true rfl⟩) (fun x2 q1 => ?_)
  by_cases hki3 : 0 < n ∧ n ≤ (sR σ : Int)
  · rw [if_pos hki3] at q1
    obtain ⟨i3, hii3⟩ : ∃ i3 : Nat, n = (i3 : Int) + 1 := ⟨(n - 1).toNat, by omega⟩
    rw [show (n - 1).toNat = i3 by omega] at q1
    subst q1
    show W p l e _ s m _ below meth c _ _ _ _ _ (F0 m 5 ls [.ref (ra i3)])
    have c_ra_i3 := hS.rc i3 (by omega)
    have j_ra_i3 := hS.rc i3 (by omega)
    have hrc := hok.2.2.2.2.2.2.2 (i3 + 1) (by omega) (by omega)
    refine lv_astore_n (lv' := [(2, .ref (ra i3)), (0, .ref x), (1, .int (iN (n)))]) hx hb d_AF_stored_5 rfl hl (by decide) rfl (fun ls hl => ?_)
    refine lv_aload_n hx hb d_AF_stored_6 rfl (lv_at hl 0 rfl) ?_
    refine lv_ifnonnull (tgt := 14) hx hb d_AF_stored_7 (by decide) ?_
    refine lv_aload_n hx hb d_AF_stored_14 rfl (lv_at hl 0 rfl) ?_
    refine fm_get S hK hw c_ra_i3 i_Re rfl 3 (by decide) (hts _ k284) (fun _ h => h) rfl d_AF_stored_15 ?_
    refine fm_lretS S hr hlocks d_AF_stored_18 ?_
    unfold sp_stored
    rw [if_pos hki3, show n.toNat = i3 + 1 by omega]
  · rw [if_neg hki3] at q1
    subst q1
    show W p l e _ s m _ below meth c _ _ _ _ _ (F0 m 5 ls [.null])
    refine lv_astore_nN (lv' := [(2, .null), (0, .ref x), (1, .int (iN (n)))]) hx hb d_AF_stored_5 rfl hl (by decide) rfl (fun ls hl => ?_)
    refine lv_aload_nN hx hb d_AF_stored_6 rfl (lv_at hl 0 rfl) ?_
    refine lv_ifnonnullN hx hb d_AF_stored_7 ?_
    refine fm_lconst0 S d_AF_stored_10 ?_
    refine lv_goto (tgt := 18) hx hb d_AF_stored_11 (by decide) ?_
    refine fm_lretS S hr hlocks d_AF_stored_18 ?_
    unfold sp_stored
    rw [if_neg hki3]

set_option maxHeartbeats 4000000 in
set_option maxRecDepth 100000 in
/-- rest(r) -/
theorem t_AF_rest (l : Launch) (D : va_G) (cs : Nat → ClassId) (Z : (Nat → Prop) → State → Heap → Prop) (hZo : fm_Zok Z) (tT : Nat) (hZc : ∀ A U H, Z A U H → Zc tT A U H) (μ : fm_Mu) (sz : Nat) (x : Nat) (kc : Nat) (kn : Nat) (kr : Nat) (wd : Nat) (lf : Nat) (da : Nat → Nat) (dl : Nat → Nat) (ra : Nat → Nat) (σ : Sg) (n : Int) (hS : afS cs μ x kc kn kr wd lf da dl ra σ) (hin : inI n)  : Met l y_AF_rest (Cond.code y_AF_rest c_AF_rest 3 (some .long) :: wA) ({ frames := 1, cells := 0, slots := 0, locals := 21 }) (fm_Pc D clsA (tysA cs) Z μ sz [.ref x, .int (iN (n))]) (fm_Sl (fun z => z = sp_rest σ n)) 0 0 (fun _ => False) := by
  refine cl_of (by decide +kernel) (Nat.le_of_ble_eq_true rfl) (fun p e s m below meth c S hr hlocks hnm hsz hw hK hZ hA ls hl => ?_)
  subst hsz
  replace S : CallFix p m c c_AF_rest 3 s _ wA "ArithmeticForms" := S
  obtain ⟨hx, hb, hml, hown, hts⟩ := id S
  have hzc := hZc _ _ _ hZ
  have hl : lv_has ls 3 [(0, .ref x), (1, .int (iN (n)))] := hl
  have c_x := hS.cx
  have c_kc := hS.ck
  obtain ⟨G0, c_wd⟩ := hS.cw
  obtain ⟨X0, c_lf⟩ := hS.cl
  obtain ⟨fn, c_kn, hfn⟩ := hS.cn
  obtain ⟨fr, c_kr, hfr⟩ := hS.cr
  have hok := hS.ok
  have hokC := hok.2.2.1
  have hokR := hok.2.2.2.1
  have hP : 1 ≤ sP σ ∧ sP σ ≤ 31 := ⟨hok.1, hok.2.1⟩
  have j_x := c_x
  have j_kc := c_kc
  have j_wd := c_wd
  have j_lf := c_lf
  have j_kn := c_kn
  have j_kr := c_kr
  refine lv_aload_n hx hb d_AF_rest_0 rfl (lv_at hl 0 rfl) ?_
  refine lv_iload_n hx hb d_AF_rest_1 rfl (lv_at hl 1 rfl) ?_
  refine fm_callSq (va_runV (As := [.int (iN (n))]) (rest := []) S (t_AF_receiverAt l D cs Z hZo tT hZc μ _ x kc kn kr wd lf da dl ra σ n hS (by omega)) (cwV 1 hts (gV k304 k306 ks11 k1 k307) rfl rfl rfl (by decide +kernel) (by decide)) (fm_preV hZo hK hw hZ hA c_x rfl _) rfl rfl hl.1 rfl (lv_room (Nat.le_of_ble_eq_true rfl)) d_AF_rest_2 ⟨Nat.le_of_ble_eq_true rfl, Nat.le_of_ble_eq_true rfl⟩) (fun x2 q1 => ?_)
  by_cases hki3 : 0 < n ∧ n ≤ (sR σ : Int)
  · rw [if_pos hki3] at q1
    obtain ⟨i3, hii3⟩ : ∃ i3 : Nat, n = (i3 : Int) + 1 := ⟨(n - 1).toNat, by omega⟩
    rw [show (n - 1).toNat = i3 by omega] at q1
    subst q1
    show W p l e _ s m _ below meth c _ _ _ _ _ (F0 m 5 ls [.ref (ra i3)])
    have c_ra_i3 := hS.rc i3 (by omega)
    have j_ra_i3 := hS.rc i3 (by omega)
    have hrc := hok.2.2.2.2.2.2.2 (i3 + 1) (by omega) (by omega)
    refine lv_astore_n (lv' := [(2, .ref (ra i3)), (0, .ref x), (1, .int (iN (n)))]) hx hb d_AF_rest_5 rfl hl (by decide) rfl (fun ls hl => ?_)
    refine lv_aload_n hx hb d_AF_rest_6 rfl (lv_at hl 0 rfl) ?_
    refine lv_ifnonnull (tgt := 14) hx hb d_AF_rest_7 (by decide) ?_
    refine lv_aload_n hx hb d_AF_rest_14 rfl (lv_at hl 0 rfl) ?_
    refine fm_get S hK hw c_ra_i3 i_Re rfl 4 (by decide) (hts _ k285) (fun _ h => h) rfl d_AF_rest_15 ?_
    refine fm_lretS S hr hlocks d_AF_rest_18 ?_
    unfold sp_rest
    rw [if_pos hki3, show n.toNat = i3 + 1 by omega]
  · rw [if_neg hki3] at q1
    subst q1
    show W p l e _ s m _ below meth c _ _ _ _ _ (F0 m 5 ls [.null])
    refine lv_astore_nN (lv' := [(2, .null), (0, .ref x), (1, .int (iN (n)))]) hx hb d_AF_rest_5 rfl hl (by decide) rfl (fun ls hl => ?_)
    refine lv_aload_nN hx hb d_AF_rest_6 rfl (lv_at hl 0 rfl) ?_
    refine lv_ifnonnullN hx hb d_AF_rest_7 ?_
    refine fm_lconst0 S d_AF_rest_10 ?_
    refine lv_goto (tgt := 18) hx hb d_AF_rest_11 (by decide) ?_
    refine fm_lretS S hr hlocks d_AF_rest_18 ?_
    unfold sp_rest
    rw [if_neg hki3]

set_option maxHeartbeats 4000000 in
set_option maxRecDepth 100000 in
/-- error(r) -/
theorem t_AF_error (l : Launch) (D : va_G) (cs : Nat → ClassId) (Z : (Nat → Prop) → State → Heap → Prop) (hZo : fm_Zok Z) (tT : Nat) (hZc : ∀ A U H, Z A U H → Zc tT A U H) (μ : fm_Mu) (sz : Nat) (x : Nat) (kc : Nat) (kn : Nat) (kr : Nat) (wd : Nat) (lf : Nat) (da : Nat → Nat) (dl : Nat → Nat) (ra : Nat → Nat) (σ : Sg) (n : Int) (hS : afS cs μ x kc kn kr wd lf da dl ra σ) (hin : inI n)  : Met l y_AF_error (Cond.code y_AF_error c_AF_error 3 (some .boolean) :: wA) ({ frames := 1, cells := 0, slots := 0, locals := 21 }) (fm_Pc D clsA (tysA cs) Z μ sz [.ref x, .int (iN (n))]) (fm_Si (fun z => z = sp_error σ n)) 0 0 (fun _ => False) := by
  refine cl_of (by decide +kernel) (Nat.le_of_ble_eq_true rfl) (fun p e s m below meth c S hr hlocks hnm hsz hw hK hZ hA ls hl => ?_)
  subst hsz
  replace S : CallFix p m c c_AF_error 3 s _ wA "ArithmeticForms" := S
  obtain ⟨hx, hb, hml, hown, hts⟩ := id S
  have hzc := hZc _ _ _ hZ
  have hl : lv_has ls 3 [(0, .ref x), (1, .int (iN (n)))] := hl
  have c_x := hS.cx
  have c_kc := hS.ck
  obtain ⟨G0, c_wd⟩ := hS.cw
  obtain ⟨X0, c_lf⟩ := hS.cl
  obtain ⟨fn, c_kn, hfn⟩ := hS.cn
  obtain ⟨fr, c_kr, hfr⟩ := hS.cr
  have hok := hS.ok
  have hokC := hok.2.2.1
  have hokR := hok.2.2.2.1
  have hP : 1 ≤ sP σ ∧ sP σ ≤ 31 := ⟨hok.1, hok.2.1⟩
  have j_x := c_x
  have j_kc := c_kc
  have j_wd := c_wd
  have j_lf := c_lf
  have j_kn := c_kn
  have j_kr := c_kr
  refine lv_aload_n hx hb d_AF_error_0 rfl (lv_at hl 0 rfl) ?_
  refine lv_iload_n hx hb d_AF_error_1 rfl (lv_at hl 1 rfl) ?_
  refine fm_callSq (va_runV (As := [.int (iN (n))]) (rest := []) S (t_AF_receiverAt l D cs Z hZo tT hZc μ _ x kc kn kr wd lf da dl ra σ n hS (by omega)) (cwV 1 hts (gV k304 k306 ks11 k1 k307) rfl rfl rfl (by decide +kernel) (by decide)) (fm_preV hZo hK hw hZ hA c_x rfl _) rfl rfl hl.1 rfl (lv_room (Nat.le_of_ble_eq_true rfl)) d_AF_error_2 ⟨Nat.le_of_ble_eq_true rfl, Nat.le_of_ble_eq_true rfl⟩) (fun x2 q1 => ?_)
  by_cases hki3 : 0 < n ∧ n ≤ (sR σ : Int)
  · rw [if_pos hki3] at q1
    obtain ⟨i3, hii3⟩ : ∃ i3 : Nat, n = (i3 : Int) + 1 := ⟨(n - 1).toNat, by omega⟩
    rw [show (n - 1).toNat = i3 by omega] at q1
    subst q1
    show W p l e _ s m _ below meth c _ _ _ _ _ (F0 m 5 ls [.ref (ra i3)])
    have c_ra_i3 := hS.rc i3 (by omega)
    have j_ra_i3 := hS.rc i3 (by omega)
    have hrc := hok.2.2.2.2.2.2.2 (i3 + 1) (by omega) (by omega)
    refine lv_astore_n (lv' := [(2, .ref (ra i3)), (0, .ref x), (1, .int (iN (n)))]) hx hb d_AF_error_5 rfl hl (by decide) rfl (fun ls hl => ?_)
    refine lv_aload_n hx hb d_AF_error_6 rfl (lv_at hl 0 rfl) ?_
    refine lv_ifnull hx hb d_AF_error_7 ?_
    have hz9 := hrc.2.2.2.2.2.2.2.2
    refine lv_aload_n hx hb d_AF_error_10 rfl (lv_at hl 0 rfl) ?_
    refine fm_get S hK hw c_ra_i3 i_Re rfl 5 (by decide) (hts _ k286) (fun _ h => h) rfl d_AF_error_11 ?_
    refine fm_if_eq (tgt := 21) S (by omega) d_AF_error_14 (by decide) (fun c4 => ?_) (fun c4 => ?_)
    · refine fm_iconst S d_AF_error_21 ?_
      refine fm_zretS S hr hlocks (by first | exact Or.inl rfl | exact Or.inr rfl) d_AF_error_22 ?_
      unfold sp_error
      rw [if_pos hki3, show n.toNat = i3 + 1 by omega]
      have hz9 := hrc.2.2.2.2.2.2.2.2
      omega
    · refine fm_iconst S d_AF_error_17 ?_
      refine lv_goto (tgt := 22) hx hb d_AF_error_18 (by decide) ?_
      refine fm_zretS S hr hlocks (by first | exact Or.inl rfl | exact Or.inr rfl) d_AF_error_22 ?_
      unfold sp_error
      rw [if_pos hki3, show n.toNat = i3 + 1 by omega]
      have hz9 := hrc.2.2.2.2.2.2.2.2
      omega
  · rw [if_neg hki3] at q1
    subst q1
    show W p l e _ s m _ below meth c _ _ _ _ _ (F0 m 5 ls [.null])
    refine lv_astore_nN (lv' := [(2, .null), (0, .ref x), (1, .int (iN (n)))]) hx hb d_AF_error_5 rfl hl (by decide) rfl (fun ls hl => ?_)
    refine lv_aload_nN hx hb d_AF_error_6 rfl (lv_at hl 0 rfl) ?_
    refine lv_ifnullN (tgt := 21) hx hb d_AF_error_7 (by decide) ?_
    refine fm_iconst S d_AF_error_21 ?_
    refine fm_zretS S hr hlocks (by first | exact Or.inl rfl | exact Or.inr rfl) d_AF_error_22 ?_
    unfold sp_error
    rw [if_neg hki3]

set_option maxHeartbeats 4000000 in
set_option maxRecDepth 100000 in
/-- raises(n) -/
theorem t_AF_raises (l : Launch) (D : va_G) (cs : Nat → ClassId) (Z : (Nat → Prop) → State → Heap → Prop) (hZo : fm_Zok Z) (tT : Nat) (hZc : ∀ A U H, Z A U H → Zc tT A U H) (μ : fm_Mu) (sz : Nat) (x : Nat) (kc : Nat) (kn : Nat) (kr : Nat) (wd : Nat) (lf : Nat) (da : Nat → Nat) (dl : Nat → Nat) (ra : Nat → Nat) (σ : Sg) (n : Int) (hS : afS cs μ x kc kn kr wd lf da dl ra σ) (hin : inI n)  : Met l y_AF_raises (Cond.code y_AF_raises c_AF_raises 3 (some .int) :: wA) ({ frames := 1, cells := 0, slots := 0, locals := 21 }) (fm_Pc D clsA (tysA cs) Z μ sz [.ref x, .int (iN (n))]) (fm_Si (fun z => z = sp_raises σ n)) 0 0 (fun _ => False) := by
  refine cl_of (by decide +kernel) (Nat.le_of_ble_eq_true rfl) (fun p e s m below meth c S hr hlocks hnm hsz hw hK hZ hA ls hl => ?_)
  subst hsz
  replace S : CallFix p m c c_AF_raises 3 s _ wA "ArithmeticForms" := S
  obtain ⟨hx, hb, hml, hown, hts⟩ := id S
  have hzc := hZc _ _ _ hZ
  have hl : lv_has ls 3 [(0, .ref x), (1, .int (iN (n)))] := hl
  have c_x := hS.cx
  have c_kc := hS.ck
  obtain ⟨G0, c_wd⟩ := hS.cw
  obtain ⟨X0, c_lf⟩ := hS.cl
  obtain ⟨fn, c_kn, hfn⟩ := hS.cn
  obtain ⟨fr, c_kr, hfr⟩ := hS.cr
  have hok := hS.ok
  have hokC := hok.2.2.1
  have hokR := hok.2.2.2.1
  have hP : 1 ≤ sP σ ∧ sP σ ≤ 31 := ⟨hok.1, hok.2.1⟩
  have j_x := c_x
  have j_kc := c_kc
  have j_wd := c_wd
  have j_lf := c_lf
  have j_kn := c_kn
  have j_kr := c_kr
  refine lv_aload_n hx hb d_AF_raises_0 rfl (lv_at hl 0 rfl) ?_
  refine lv_iload_n hx hb d_AF_raises_1 rfl (lv_at hl 1 rfl) ?_
  refine fm_callSq (va_runV (As := [.int (iN (n))]) (rest := []) S (t_AF_nodeAt l D cs Z hZo tT hZc μ _ x kc kn kr wd lf da dl ra σ n hS (by omega)) (cwV 1 hts (gV k154 k156 ks1 k1 k157) rfl rfl rfl (by decide +kernel) (by decide)) (fm_preV hZo hK hw hZ hA c_x rfl _) rfl rfl hl.1 rfl (lv_room (Nat.le_of_ble_eq_true rfl)) d_AF_raises_2 ⟨Nat.le_of_ble_eq_true rfl, Nat.le_of_ble_eq_true rfl⟩) (fun x2 q1 => ?_)
  by_cases hki3 : 0 < n ∧ n ≤ (sC σ : Int)
  · rw [if_pos hki3] at q1
    obtain ⟨i3, hii3⟩ : ∃ i3 : Nat, n = (i3 : Int) + 1 := ⟨(n - 1).toNat, by omega⟩
    rw [show (n - 1).toNat = i3 by omega] at q1
    subst q1
    show W p l e _ s m _ below meth c _ _ _ _ _ (F0 m 5 ls [.ref (da (4 + i3))])
    obtain ⟨F4, c_da_4_i3, c_dl_4_i3, hdF4, hvF4⟩ := hS.dN i3 (by omega)
    have hoki3 := hok.2.2.2.2.2.2.1 (i3 + 1) (by omega) (by omega)
    refine lv_astore_n (lv' := [(2, .ref (da (4 + i3))), (0, .ref x), (1, .int (iN (n)))]) hx hb d_AF_raises_5 rfl hl (by decide) rfl (fun ls hl => ?_)
    refine lv_aload_n hx hb d_AF_raises_6 rfl (lv_at hl 0 rfl) ?_
    refine lv_ifnonnull (tgt := 15) hx hb d_AF_raises_7 (by decide) ?_
    refine lv_aload_n hx hb d_AF_raises_15 rfl (lv_at hl 0 rfl) ?_
    refine fm_get S hK hw c_da_4_i3 i_De rfl 0 (by decide) (hts _ k34) (fun _ h => h) rfl d_AF_raises_16 ?_
    refine fm_iretS S hr hlocks d_AF_raises_19 ?_
    unfold sp_raises
    rw [if_pos hki3, show n.toNat = i3 + 1 by omega]
  · rw [if_neg hki3] at q1
    subst q1
    show W p l e _ s m _ below meth c _ _ _ _ _ (F0 m 5 ls [.null])
    refine lv_astore_nN (lv' := [(2, .null), (0, .ref x), (1, .int (iN (n)))]) hx hb d_AF_raises_5 rfl hl (by decide) rfl (fun ls hl => ?_)
    refine lv_aload_nN hx hb d_AF_raises_6 rfl (lv_at hl 0 rfl) ?_
    refine lv_ifnonnullN hx hb d_AF_raises_7 ?_
    refine fm_bipush S d_AF_raises_10 (by decide) ?_
    refine lv_goto (tgt := 19) hx hb d_AF_raises_12 (by decide) ?_
    refine fm_iretS S hr hlocks d_AF_raises_19 ?_
    unfold sp_raises
    rw [if_neg hki3]

set_option maxHeartbeats 4000000 in
set_option maxRecDepth 100000 in
/-- raised() -/
theorem t_AF_raised (l : Launch) (D : va_G) (cs : Nat → ClassId) (Z : (Nat → Prop) → State → Heap → Prop) (hZo : fm_Zok Z) (tT : Nat) (hZc : ∀ A U H, Z A U H → Zc tT A U H) (μ : fm_Mu) (sz : Nat) (x : Nat) (kc : Nat) (kn : Nat) (kr : Nat) (wd : Nat) (lf : Nat) (da : Nat → Nat) (dl : Nat → Nat) (ra : Nat → Nat) (σ : Sg) (hS : afS cs μ x kc kn kr wd lf da dl ra σ)  : Met l y_AF_raised (Cond.code y_AF_raised c_AF_raised 1 (some .int) :: wA) ({ frames := 0, cells := 0, slots := 0, locals := 0 }) (fm_Pc D clsA (tysA cs) Z μ sz [.ref x]) (fm_Si (fun z => z = sL σ)) 0 0 (fun _ => False) := by
  refine cl_of (by decide +kernel) (Nat.le_of_ble_eq_true rfl) (fun p e s m below meth c S hr hlocks hnm hsz hw hK hZ hA ls hl => ?_)
  subst hsz
  replace S : CallFix p m c c_AF_raised 1 s _ wA "ArithmeticForms" := S
  obtain ⟨hx, hb, hml, hown, hts⟩ := id S
  have hzc := hZc _ _ _ hZ
  have hl : lv_has ls 1 [(0, .ref x)] := hl
  have c_x := hS.cx
  have c_kc := hS.ck
  obtain ⟨G0, c_wd⟩ := hS.cw
  obtain ⟨X0, c_lf⟩ := hS.cl
  obtain ⟨fn, c_kn, hfn⟩ := hS.cn
  obtain ⟨fr, c_kr, hfr⟩ := hS.cr
  have hok := hS.ok
  have hokC := hok.2.2.1
  have hokR := hok.2.2.2.1
  have hP : 1 ≤ sP σ ∧ sP σ ≤ 31 := ⟨hok.1, hok.2.1⟩
  have j_x := c_x
  have j_kc := c_kc
  have j_wd := c_wd
  have j_lf := c_lf
  have j_kn := c_kn
  have j_kr := c_kr
  refine lv_aload_n hx hb d_AF_raised_0 rfl (lv_at hl 0 rfl) ?_
  refine fm_get S hK hw c_x i_AF rfl 5 (by decide) (hts _ k117) (fun _ h => h) rfl d_AF_raised_1 ?_
  refine fm_iretS S hr hlocks d_AF_raised_4 ?_
  rfl
