set_option maxHeartbeats 4000000 in
set_option maxRecDepth 100000 in
/-- set(r, v) -/
theorem t_AF_set (l : Launch) (D : va_G) (cs : Nat → ClassId) (Z : (Nat → Prop) → State → Heap → Prop) (hZo : fm_Zok Z) (tT : Nat) (hZc : ∀ A U H, Z A U H → Zc tT A U H) (μ : fm_Mu) (sz : Nat) (x : Nat) (kc : Nat) (kn : Nat) (kr : Nat) (wd : Nat) (lf : Nat) (da : Nat → Nat) (dl : Nat → Nat) (ra : Nat → Nat) (σ : Sg) (n : Int) (v : Int) (hS : afS cs μ x kc kn kr wd lf da dl ra σ) (hin : inI n) (hjv : inJ v)  : Met l y_AF_set (Cond.code y_AF_set c_AF_set 5 (some .int) :: wA) ({ frames := 2, cells := 0, slots := 0, locals := 42 }) (fm_Pc D clsA (tysA cs) Z μ sz [.ref x, .int (iN (n)), .long (jN (v))]) (fm_Qi D clsA (tysA cs) μ sz (fun z μ' => z = (sp_set σ n v).1 ∧ (∃ da' dl' ra' : Nat → Nat, afS cs μ' x kc kn kr wd lf da' dl' ra' (sp_set σ n v).2) ∧ kpR μ μ')) 0 0 (fm_A μ sz) := by
  refine cl_of (by decide +kernel) (Nat.le_of_ble_eq_true rfl) (fun p e s m below meth c S hr hlocks hnm hsz hw hK hZ hA ls hl => ?_)
  subst hsz
  replace S : CallFix p m c c_AF_set 5 s _ wA "ArithmeticForms" := S
  obtain ⟨hx, hb, hml, hown, hts⟩ := id S
  have hzc := hZc _ _ _ hZ
  have hO0 : fm_O μ μ [] := fm_O.rf
  have hl : lv_has ls 5 [(0, .ref x), (1, .int (iN (n))), (2, .long (jN (v)))] := hl
  have c_x := hS.cx
  have c_kc := hS.ck
  obtain ⟨G0, c_wd⟩ := hS.cw
  obtain ⟨X0, c_lf⟩ := hS.cl
  obtain ⟨fn, c_kn, hfn⟩ := hS.cn
  obtain ⟨fr, c_kr, hfr⟩ := hS.cr
  have hok := hS.ok
  have hokC := hok.2.2.1
  have hokR := hok.2.2.2.1
  have hP : 1 ≤ sP σ ∧ sP σ ≤ 31 := ⟨hok.1, hok.2.1⟩
  have j_x := c_x
  have j_kc := c_kc
  have j_wd := c_wd
  have j_lf := c_lf
  have j_kn := c_kn
  have j_kr := c_kr
  refine lv_aload_n hx hb d_AF_set_0 rfl (lv_at hl 0 rfl) ?_
  refine lv_iload_n hx hb d_AF_set_1 rfl (lv_at hl 1 rfl) ?_
  refine fm_callSq (va_runV (As := [.int (iN (n))]) (rest := []) S (t_AF_receiverAt l D cs Z hZo tT hZc μ _ x kc kn kr wd lf da dl ra σ n hS (by omega)) (cwV 1 hts (gV k304 k306 ks11 k1 k307) rfl rfl rfl (by decide +kernel) (by decide)) (fm_preV hZo hK hw hZ hA c_x rfl _) rfl rfl hl.1 rfl (lv_room (Nat.le_of_ble_eq_true rfl)) d_AF_set_2 ⟨Nat.le_of_ble_eq_true rfl, Nat.le_of_ble_eq_true rfl⟩) (fun x2 q1 => ?_)
  by_cases hki3 : 0 < n ∧ n ≤ (sR σ : Int)
  · rw [if_pos hki3] at q1
    obtain ⟨i3, hii3⟩ : ∃ i3 : Nat, n = (i3 : Int) + 1 := ⟨(n - 1).toNat, by omega⟩
    rw [show (n - 1).toNat = i3 by omega] at q1
    subst q1
    show W p l e _ s m _ below meth c _ _ _ _ _ (F0 m 5 ls [.ref (ra i3)])
    have c_ra_i3 := hS.rc i3 (by omega)
    have j_ra_i3 := hS.rc i3 (by omega)
    have hrc := hok.2.2.2.2.2.2.2 (i3 + 1) (by omega) (by omega)
    refine lv_astore (lv' := [(4, .ref (ra i3)), (0, .ref x), (1, .int (iN (n))), (2, .long (jN (v)))]) hx hb d_AF_set_5 hl (by decide) rfl (fun ls hl => ?_)
    refine lv_aload hx hb d_AF_set_7 (lv_at hl 0 rfl) ?_
    refine lv_ifnonnull (tgt := 15) hx hb d_AF_set_9 (by decide) ?_
    have hj9 := hrc.1
    have hj8 := hrc.2.1
    refine lv_aload hx hb d_AF_set_15 (lv_at hl 0 rfl) ?_
    refine lv_aload hx hb d_AF_set_17 (lv_at hl 0 rfl) ?_
    refine lv_lload_n hx hb d_AF_set_19 rfl (lv_at hl 3 rfl) ?_
    refine fm_callSl (va_runV (As := [.long (jN (v))]) (rest := [.ref (ra i3)]) S (t_Re_lowestDigits l D cs Z hZo tT hZc μ _ (ra i3) ((sQ σ (i3 + 1)).2.1) ((sQ σ (i3 + 1)).1) ((sQ σ (i3 + 1)).2.2.1) ((sQ σ (i3 + 1)).2.2.2.1) ((sQ σ (i3 + 1)).2.2.2.2.1) ((sQ σ (i3 + 1)).2.2.2.2.2) v (hjv) (by omega) c_ra_i3) (cwV 1 hts (gV k346 k347 k348 k10 k349) rfl rfl rfl (by decide +kernel) (by decide)) (fm_preV hZo hK hw hZ hA c_ra_i3 rfl _) rfl rfl hl.1 rfl (lv_room (Nat.le_of_ble_eq_true rfl)) d_AF_set_20 ⟨Nat.le_of_ble_eq_true rfl, Nat.le_of_ble_eq_true rfl⟩) (fun x5 q4 => ?_)
    refine fm_put S hK hw c_ra_i3 i_Re rfl t_Re t_Re_ok n_Re 3 (by decide) (hts _ k284) (fun _ h => h) rfl (ty := .long) (by decide +kernel) rfl rfl (Nat.le_of_ble_eq_true rfl) d_AF_set_23 (fun μ6 H locs hw hq hO => ?_)
    have k_x : μ6 x = some (oE 0 [.ref kc, .ref kn, .int (iN ((sC σ : Int))), .ref kr, .int (iN ((sR σ : Int))), .int (iN ((sL σ))), .ref (da 1), .ref (da 2), .ref (da 3)]) := hO.at (nmc (fm_kn c_x c_ra_i3 rfl) nm0) c_x
    have k_kc : μ6 kc = some (oE 1 [.int (iN ((sP σ : Int))), .ref wd, .ref lf, .ref (da 0)]) := hO.at (nmc (fm_kn c_kc c_ra_i3 rfl) nm0) c_kc
    have k_wd : μ6 wd = some (lE cs 30 G0) := hO.at (nmc (fm_kn c_wd c_ra_i3 rfl) nm0) c_wd
    have k_lf : μ6 lf = some (lE cs 5 X0) := hO.at (nmc (fm_kn c_lf c_ra_i3 rfl) nm0) c_lf
    have k_kn : μ6 kn = some (qE (cs 3) 100 fn) := hO.at (nmc (fm_kn c_kn c_ra_i3 rfl) nm0) c_kn
    have k_kr : μ6 kr = some (qE (cs 4) 20 fr) := hO.at (nmc (fm_kn c_kr c_ra_i3 rfl) nm0) c_kr
    have k_ra_i3 : μ6 (ra i3) = some (oE 3 [.int (iN ((sQ σ (i3 + 1)).2.1)), .int (iN ((sQ σ (i3 + 1)).1)), .int (iN ((sQ σ (i3 + 1)).2.2.1)), .long (jN (x5)), .long (jN ((sQ σ (i3 + 1)).2.2.2.2.1)), .int (iN ((sQ σ (i3 + 1)).2.2.2.2.2))]) := hq
    have hO0 := hO0.mono (l' := [(ra i3)]) (fun _ h => List.mem_cons_of_mem _ (h))
    have hO0 := hO0.tr1 hO (by simp)
    clear c_x c_kc c_wd c_lf c_kn c_kr c_ra_i3
    have c_x := k_x; clear k_x
    have c_kc := k_kc; clear k_kc
    have c_wd := k_wd; clear k_wd
    have c_lf := k_lf; clear k_lf
    have c_kn := k_kn; clear k_kn
    have c_kr := k_kr; clear k_kr
    have c_ra_i3 := k_ra_i3; clear k_ra_i3
    clear hq hO
    refine fm_iconst S d_AF_set_26 ?_
    refine fm_iret S hr hlocks hK hw d_AF_set_27 ?_
    have hq9 := hS.setR (q := putH (sQ σ (i3 + 1)) (v.tmod (10 ^ (sQ σ (i3 + 1)).1.toNat))) (by omega) ⟨hrc.1, hrc.2.1, hrc.2.2.1, hrc.2.2.2.1, hrc.2.2.2.2.1, hrc.2.2.2.2.2.1, tmod_lt _ _, hrc.2.2.2.2.2.2.2.1, hrc.2.2.2.2.2.2.2.2⟩ hO0 (by rw [q4] at c_ra_i3; exact c_ra_i3)
    unfold sp_set
    rw [if_pos hki3, show n.toNat = i3 + 1 by omega]
    exact ⟨rfl, ⟨da, dl, ra, hq9⟩, (kpR.of hO0 (okL.c j_ra_i3 rfl okL.n))⟩
  · rw [if_neg hki3] at q1
    subst q1
    show W p l e _ s m _ below meth c _ _ _ _ _ (F0 m 5 ls [.null])
    refine lv_astoreN (lv' := [(4, .null), (0, .ref x), (1, .int (iN (n))), (2, .long (jN (v)))]) hx hb d_AF_set_5 hl (by decide) rfl (fun ls hl => ?_)
    refine lv_aloadN hx hb d_AF_set_7 (lv_at hl 0 rfl) ?_
    refine lv_ifnonnullN hx hb d_AF_set_9 ?_
    refine fm_bipush S d_AF_set_12 (by decide) ?_
    refine fm_iret S hr hlocks hK hw d_AF_set_14 ?_
    unfold sp_set
    rw [if_neg hki3]
    exact ⟨rfl, ⟨da, dl, ra, hS⟩, kpR.rf⟩

set_option maxHeartbeats 4000000 in
set_option maxRecDepth 100000 in
/-- receiver(d, s, r) -/
theorem t_AF_receiver (l : Launch) (D : va_G) (cs : Nat → ClassId) (Z : (Nat → Prop) → State → Heap → Prop) (hZo : fm_Zok Z) (tT : Nat) (hZc : ∀ A U H, Z A U H → Zc tT A U H) (μ : fm_Mu) (sz : Nat) (x : Nat) (kc : Nat) (kn : Nat) (kr : Nat) (wd : Nat) (lf : Nat) (da : Nat → Nat) (dl : Nat → Nat) (ra : Nat → Nat) (σ : Sg) (d1 : Int) (s1 : Int) (r1 : Int) (hS : afS cs μ x kc kn kr wd lf da dl ra σ) (hi1 : inI d1) (hi2 : inI s1) (hi3 : inI r1)  : Met l y_AF_receiver (Cond.code y_AF_receiver c_AF_receiver 4 (some .int) :: wA) ({ frames := 2, cells := 1, slots := 6, locals := 43 }) (fm_Pc D clsA (tysA cs) Z μ sz [.ref x, .int (iN (d1)), .int (iN (s1)), .int (iN (r1))]) (fm_Qi D clsA (tysA cs) μ sz (fun z μ' => z = (sp_receiver σ d1 s1 r1).1 ∧ (∃ da' dl' ra' : Nat → Nat, afS cs μ' x kc kn kr wd lf da' dl' ra' (sp_receiver σ d1 s1 r1).2) ∧ kpR μ μ')) 1 6 (fm_A μ sz) := by
  refine cl_of (by decide +kernel) (Nat.le_of_ble_eq_true rfl) (fun p e s m below meth c S hr hlocks hnm hsz hw hK hZ hA ls hl => ?_)
  subst hsz
  replace S : CallFix p m c c_AF_receiver 4 s _ wA "ArithmeticForms" := S
  obtain ⟨hx, hb, hml, hown, hts⟩ := id S
  have hzc := hZc _ _ _ hZ
  have hO0 : fm_O μ μ [] := fm_O.rf
  have hl : lv_has ls 4 [(0, .ref x), (1, .int (iN (d1))), (2, .int (iN (s1))), (3, .int (iN (r1)))] := hl
  have c_x := hS.cx
  have c_kc := hS.ck
  obtain ⟨G0, c_wd⟩ := hS.cw
  obtain ⟨X0, c_lf⟩ := hS.cl
  obtain ⟨fn, c_kn, hfn⟩ := hS.cn
  obtain ⟨fr, c_kr, hfr⟩ := hS.cr
  have hok := hS.ok
  have hokC := hok.2.2.1
  have hokR := hok.2.2.2.1
  have hP : 1 ≤ sP σ ∧ sP σ ≤ 31 := ⟨hok.1, hok.2.1⟩
  have j_x := c_x
  have j_kc := c_kc
  have j_wd := c_wd
  have j_lf := c_lf
  have j_kn := c_kn
  have j_kr := c_kr
  refine lv_iload_n hx hb d_AF_receiver_0 rfl (lv_at hl 1 rfl) ?_
  refine fm_iconst S d_AF_receiver_1 ?_
  refine fm_icmp_lt (tgt := 30) S (by omega) (by omega) d_AF_receiver_2 (by decide) (fun c1 => ?_) (fun c1 => ?_)
  · refine fm_bipush S d_AF_receiver_30 (by decide) ?_
    refine W.widen (k := 1) (n := 6) (Nat.le_of_ble_eq_true rfl) (Nat.le_of_ble_eq_true rfl) ?_
    refine fm_iret S hr hlocks hK hw d_AF_receiver_32 ?_
    unfold sp_receiver
    rw [if_pos (by omega)]
    exact ⟨rfl, ⟨da, dl, ra, hS⟩, kpR.rf⟩
  · refine lv_iload_n hx hb d_AF_receiver_5 rfl (lv_at hl 1 rfl) ?_
    refine fm_bipush S d_AF_receiver_6 (by decide) ?_
    refine fm_icmp_gt (tgt := 30) S (by omega) (by omega) d_AF_receiver_8 (by decide) (fun c2 => ?_) (fun c2 => ?_)
    · refine fm_bipush S d_AF_receiver_30 (by decide) ?_
      refine W.widen (k := 1) (n := 6) (Nat.le_of_ble_eq_true rfl) (Nat.le_of_ble_eq_true rfl) ?_
      refine fm_iret S hr hlocks hK hw d_AF_receiver_32 ?_
      unfold sp_receiver
      rw [if_pos (by omega)]
      exact ⟨rfl, ⟨da, dl, ra, hS⟩, kpR.rf⟩
    · refine lv_iload_n hx hb d_AF_receiver_11 rfl (lv_at hl 2 rfl) ?_
      refine fm_if_lt (tgt := 30) S (by omega) d_AF_receiver_12 (by decide) (fun c3 => ?_) (fun c3 => ?_)
      · refine fm_bipush S d_AF_receiver_30 (by decide) ?_
        refine W.widen (k := 1) (n := 6) (Nat.le_of_ble_eq_true rfl) (Nat.le_of_ble_eq_true rfl) ?_
        refine fm_iret S hr hlocks hK hw d_AF_receiver_32 ?_
        unfold sp_receiver
        rw [if_pos (by omega)]
        exact ⟨rfl, ⟨da, dl, ra, hS⟩, kpR.rf⟩
      · refine lv_iload_n hx hb d_AF_receiver_15 rfl (lv_at hl 2 rfl) ?_
        refine lv_iload_n hx hb d_AF_receiver_16 rfl (lv_at hl 1 rfl) ?_
        refine fm_icmp_gt (tgt := 30) S (by omega) (by omega) d_AF_receiver_17 (by decide) (fun c4 => ?_) (fun c4 => ?_)
        · refine fm_bipush S d_AF_receiver_30 (by decide) ?_
          refine W.widen (k := 1) (n := 6) (Nat.le_of_ble_eq_true rfl) (Nat.le_of_ble_eq_true rfl) ?_
          refine fm_iret S hr hlocks hK hw d_AF_receiver_32 ?_
          unfold sp_receiver
          rw [if_pos (by omega)]
          exact ⟨rfl, ⟨da, dl, ra, hS⟩, kpR.rf⟩
        · refine lv_iload_n hx hb d_AF_receiver_20 rfl (lv_at hl 3 rfl) ?_
          refine fm_if_lt (tgt := 30) S (by omega) d_AF_receiver_21 (by decide) (fun c5 => ?_) (fun c5 => ?_)
          · refine fm_bipush S d_AF_receiver_30 (by decide) ?_
            refine W.widen (k := 1) (n := 6) (Nat.le_of_ble_eq_true rfl) (Nat.le_of_ble_eq_true rfl) ?_
            refine fm_iret S hr hlocks hK hw d_AF_receiver_32 ?_
            unfold sp_receiver
            rw [if_pos (by omega)]
            exact ⟨rfl, ⟨da, dl, ra, hS⟩, kpR.rf⟩
          · refine lv_iload_n hx hb d_AF_receiver_24 rfl (lv_at hl 3 rfl) ?_
            refine fm_bipush S d_AF_receiver_25 (by decide) ?_
            refine fm_icmp_le (tgt := 33) S (by omega) (by omega) d_AF_receiver_27 (by decide) (fun c6 => ?_) (fun c6 => ?_)
            · refine lv_aload_n hx hb d_AF_receiver_33 rfl (lv_at hl 0 rfl) ?_
              refine fm_get S hK hw c_x i_AF rfl 4 (by decide) (hts _ k116) (fun _ h => h) rfl d_AF_receiver_34 ?_
              refine fm_bipush S d_AF_receiver_37 (by decide) ?_
              refine fm_icmp_lt (tgt := 44) S (by omega) (by omega) d_AF_receiver_39 (by decide) (fun c7 => ?_) (fun c7 => ?_)
              · refine lv_aload_n hx hb d_AF_receiver_44 rfl (lv_at hl 0 rfl) ?_
                refine fm_get S hK hw c_x i_AF rfl 3 (by decide) (hts _ k115) (fun _ h => h) rfl d_AF_receiver_45 ?_
                refine lv_aload_n hx hb d_AF_receiver_48 rfl (lv_at hl 0 rfl) ?_
                refine fm_get S hK hw c_x i_AF rfl 4 (by decide) (hts _ k116) (fun _ h => h) rfl d_AF_receiver_49 ?_
                refine fm_new (ci := 3) (fs := [.int (iN (0)), .int (iN (0)), .int (iN (0)), .long (jN (0)), .long (jN (0)), .int (iN (0))]) S hK hw hA i_Re rfl t_Re t_Re_ok (hts _ k25) (hts _ k275) (hts _ k10) z_Re (Nat.le_of_ble_eq_true rfl) (Nat.le_of_ble_eq_true rfl) d_AF_receiver_52 (fun a8 μ9 H hw hn hq hO => ?_)
                have ne_x_a8 := nn_ne c_x hn
                have ne_kc_a8 := nn_ne c_kc hn
                have ne_wd_a8 := nn_ne c_wd hn
                have ne_lf_a8 := nn_ne c_lf hn
                have ne_kn_a8 := nn_ne c_kn hn
                have ne_kr_a8 := nn_ne c_kr hn
                have hf_a8 := hO0.fr hn nm0
                have hO0 := hO0.mono (l' := [a8]) (fun _ h => List.mem_cons_of_mem _ h)
                have k_x : μ9 x = some (oE 0 [.ref kc, .ref kn, .int (iN ((sC σ : Int))), .ref kr, .int (iN ((sR σ : Int))), .int (iN ((sL σ))), .ref (da 1), .ref (da 2), .ref (da 3)]) := hO.at (nmc ne_x_a8 nm0) c_x
                have k_kc : μ9 kc = some (oE 1 [.int (iN ((sP σ : Int))), .ref wd, .ref lf, .ref (da 0)]) := hO.at (nmc ne_kc_a8 nm0) c_kc
                have k_wd : μ9 wd = some (lE cs 30 G0) := hO.at (nmc ne_wd_a8 nm0) c_wd
                have k_lf : μ9 lf = some (lE cs 5 X0) := hO.at (nmc ne_lf_a8 nm0) c_lf
                have k_kn : μ9 kn = some (qE (cs 3) 100 fn) := hO.at (nmc ne_kn_a8 nm0) c_kn
                have k_kr : μ9 kr = some (qE (cs 4) 20 fr) := hO.at (nmc ne_kr_a8 nm0) c_kr
                have k_a8 : μ9 a8 = some (oE 3 [.int (iN (0)), .int (iN (0)), .int (iN (0)), .long (jN (0)), .long (jN (0)), .int (iN (0))]) := hq
                have hO0 := hO0.tr1 hO (by simp)
                clear c_x c_kc c_wd c_lf c_kn c_kr
                have c_x := k_x; clear k_x
                have c_kc := k_kc; clear k_kc
                have c_wd := k_wd; clear k_wd
                have c_lf := k_lf; clear k_lf
                have c_kn := k_kn; clear k_kn
                have c_kr := k_kr; clear k_kr
                have c_a8 := k_a8; clear k_a8
                clear hn hq hO
                refine lv_dup hx hb d_AF_receiver_55 rfl ?_
                refine lv_iload_n hx hb d_AF_receiver_56 rfl (lv_at hl 1 rfl) ?_
                refine lv_iload_n hx hb d_AF_receiver_57 rfl (lv_at hl 2 rfl) ?_
                refine lv_iload_n hx hb d_AF_receiver_58 rfl (lv_at hl 3 rfl) ?_
                refine fm_callv (va_runI (As := [.int (iN (d1)), .int (iN (s1)), .int (iN (r1))]) (rest := [.ref a8, .int (iN ((sR σ : Int))), .ref kr]) S (t_Re_init l D cs Z hZo tT hZc μ9 _ a8 d1 s1 r1 c_a8) (cwIA 3 hts k278 rfl rfl k276 k10 k277 rfl (by decide +kernel) (by decide)) (fm_pre hZo hK hw hZ hA _) rfl rfl hl.1 rfl (lv_room (Nat.le_of_ble_eq_true rfl)) d_AF_receiver_59 ⟨Nat.le_of_ble_eq_true rfl, Nat.le_of_ble_eq_true rfl⟩) hw hA (fun μ11 H locs q10 hw => ?_)
                obtain ⟨hq, hO⟩ := q10
                have k_x : μ11 x = some (oE 0 [.ref kc, .ref kn, .int (iN ((sC σ : Int))), .ref kr, .int (iN ((sR σ : Int))), .int (iN ((sL σ))), .ref (da 1), .ref (da 2), .ref (da 3)]) := hO.at (nmc ne_x_a8 nm0) c_x
                have k_kc : μ11 kc = some (oE 1 [.int (iN ((sP σ : Int))), .ref wd, .ref lf, .ref (da 0)]) := hO.at (nmc ne_kc_a8 nm0) c_kc
                have k_wd : μ11 wd = some (lE cs 30 G0) := hO.at (nmc ne_wd_a8 nm0) c_wd
                have k_lf : μ11 lf = some (lE cs 5 X0) := hO.at (nmc ne_lf_a8 nm0) c_lf
                have k_kn : μ11 kn = some (qE (cs 3) 100 fn) := hO.at (nmc ne_kn_a8 nm0) c_kn
                have k_kr : μ11 kr = some (qE (cs 4) 20 fr) := hO.at (nmc ne_kr_a8 nm0) c_kr
                have k_a8 : μ11 a8 = some (oE 3 [.int (iN (s1)), .int (iN (d1)), .int (iN (r1)), .long (jN (0)), .long (jN (0)), .int (iN (0))]) := hq
                have hO0 := hO0.tr1 hO (by simp)
                clear c_x c_kc c_wd c_lf c_kn c_kr c_a8
                have c_x := k_x; clear k_x
                have c_kc := k_kc; clear k_kc
                have c_wd := k_wd; clear k_wd
                have c_lf := k_lf; clear k_lf
                have c_kn := k_kn; clear k_kn
                have c_kr := k_kr; clear k_kr
                have c_a8 := k_a8; clear k_a8
                clear hq hO
                refine fm_aast S hK hw c_kr 4 rfl c_a8 rfl (by omega) d_AF_receiver_62 (fun μ12 H locs hw hq hO => ?_)
                have k_x : μ12 x = some (oE 0 [.ref kc, .ref kn, .int (iN ((sC σ : Int))), .ref kr, .int (iN ((sR σ : Int))), .int (iN ((sL σ))), .ref (da 1), .ref (da 2), .ref (da 3)]) := hO.at (nmc (fm_kn c_x c_kr rfl) nm0) c_x
                have k_kc : μ12 kc = some (oE 1 [.int (iN ((sP σ : Int))), .ref wd, .ref lf, .ref (da 0)]) := hO.at (nmc (fm_kn c_kc c_kr rfl) nm0) c_kc
                have k_wd : μ12 wd = some (lE cs 30 G0) := hO.at (nmc (fm_kn c_wd c_kr rfl) nm0) c_wd
                have k_lf : μ12 lf = some (lE cs 5 X0) := hO.at (nmc (fm_kn c_lf c_kr rfl) nm0) c_lf
                have k_kn : μ12 kn = some (qE (cs 3) 100 fn) := hO.at (nmc (fm_kn c_kn c_kr rfl) nm0) c_kn
                have k_a8 : μ12 a8 = some (oE 3 [.int (iN (s1)), .int (iN (d1)), .int (iN (r1)), .long (jN (0)), .long (jN (0)), .int (iN (0))]) := hO.at (nmc (Ne.symm ne_kr_a8) nm0) c_a8
                have k_kr : μ12 kr = some (qE (cs 4) 20 (uF fr ((sR σ : Int)).toNat (some a8))) := hq
                have hO0 := hO0.mono (l' := [kr, a8]) (fun _ h => List.mem_cons_of_mem _ (h))
                have hO0 := hO0.tr1 hO (by simp)
                clear c_x c_kc c_wd c_lf c_kn c_kr c_a8
                have c_x := k_x; clear k_x
                have c_kc := k_kc; clear k_kc
                have c_wd := k_wd; clear k_wd
                have c_lf := k_lf; clear k_lf
                have c_kn := k_kn; clear k_kn
                have c_a8 := k_a8; clear k_a8
                have c_kr := k_kr; clear k_kr
                clear hq hO
                refine lv_aload_n hx hb d_AF_receiver_63 rfl (lv_at hl 0 rfl) ?_
                refine lv_dup hx hb d_AF_receiver_64 rfl ?_
                refine fm_get S hK hw c_x i_AF rfl 4 (by decide) (hts _ k116) (fun _ h => h) rfl d_AF_receiver_65 ?_
                refine fm_iconst S d_AF_receiver_68 ?_
                refine fm_iadd S d_AF_receiver_69 ?_
                refine fm_put S hK hw c_x i_AF rfl t_AF t_AF_ok n_AF 4 (by decide) (hts _ k116) (fun _ h => h) rfl (ty := .int) (by decide +kernel) rfl rfl (Nat.le_of_ble_eq_true rfl) d_AF_receiver_70 (fun μ13 H locs hw hq hO => ?_)
                have k_kc : μ13 kc = some (oE 1 [.int (iN ((sP σ : Int))), .ref wd, .ref lf, .ref (da 0)]) := hO.at (nmc (fm_kn c_kc c_x rfl) nm0) c_kc
                have k_wd : μ13 wd = some (lE cs 30 G0) := hO.at (nmc (fm_kn c_wd c_x rfl) nm0) c_wd
                have k_lf : μ13 lf = some (lE cs 5 X0) := hO.at (nmc (fm_kn c_lf c_x rfl) nm0) c_lf
                have k_kn : μ13 kn = some (qE (cs 3) 100 fn) := hO.at (nmc (fm_kn c_kn c_x rfl) nm0) c_kn
                have k_a8 : μ13 a8 = some (oE 3 [.int (iN (s1)), .int (iN (d1)), .int (iN (r1)), .long (jN (0)), .long (jN (0)), .int (iN (0))]) := hO.at (nmc (Ne.symm ne_x_a8) nm0) c_a8
                have k_kr : μ13 kr = some (qE (cs 4) 20 (uF fr ((sR σ : Int)).toNat (some a8))) := hO.at (nmc (fm_kn c_kr c_x rfl) nm0) c_kr
                have k_x : μ13 x = some (oE 0 [.ref kc, .ref kn, .int (iN ((sC σ : Int))), .ref kr, .int (iN (((sR σ : Int) + 1))), .int (iN ((sL σ))), .ref (da 1), .ref (da 2), .ref (da 3)]) := hq
                have hO0 := hO0.mono (l' := [x, kr, a8]) (fun _ h => List.mem_cons_of_mem _ (h))
                have hO0 := hO0.tr1 hO (by simp)
                clear c_x c_kc c_wd c_lf c_kn c_a8 c_kr
                have c_kc := k_kc; clear k_kc
                have c_wd := k_wd; clear k_wd
                have c_lf := k_lf; clear k_lf
                have c_kn := k_kn; clear k_kn
                have c_a8 := k_a8; clear k_a8
                have c_kr := k_kr; clear k_kr
                have c_x := k_x; clear k_x
                clear hq hO
                refine lv_aload_n hx hb d_AF_receiver_73 rfl (lv_at hl 0 rfl) ?_
                refine fm_get S hK hw c_x i_AF rfl 4 (by decide) (hts _ k116) (fun _ h => h) rfl d_AF_receiver_74 ?_
                refine W.widen (k := 1) (n := 6) (Nat.le_of_ble_eq_true rfl) (Nat.le_of_ble_eq_true rfl) ?_
                refine fm_iret S hr hlocks hK hw d_AF_receiver_77 ?_
                have hq9 := hS.addR (d := d1) (s := s1) (ro := r1) (a1 := a8) (f1 := uF fr (sR σ : Int).toNat (some a8)) (fun f hf => by rw [j_kr] at hf; cases hf; rfl) (by omega) (by omega) hf_a8 (hO0.mono (by intro q hq; simp at hq ⊢; omega)) c_x c_kr c_a8
                unfold sp_receiver
                rw [if_neg (by omega), if_neg (by omega)]
                exact ⟨rfl, ⟨da, dl, _, hq9⟩, (kpR.of hO0 (okL.c j_x rfl (okL.c j_kr rfl (okL.f hf_a8 okL.n))))⟩
              · refine fm_iconst S d_AF_receiver_42 ?_
                refine W.widen (k := 1) (n := 6) (Nat.le_of_ble_eq_true rfl) (Nat.le_of_ble_eq_true rfl) ?_
                refine fm_iret S hr hlocks hK hw d_AF_receiver_43 ?_
                unfold sp_receiver
                rw [if_neg (by omega), if_pos (by omega)]
                exact ⟨rfl, ⟨da, dl, ra, hS⟩, kpR.rf⟩
            · refine fm_bipush S d_AF_receiver_30 (by decide) ?_
              refine W.widen (k := 1) (n := 6) (Nat.le_of_ble_eq_true rfl) (Nat.le_of_ble_eq_true rfl) ?_
              refine fm_iret S hr hlocks hK hw d_AF_receiver_32 ?_
              unfold sp_receiver
              rw [if_pos (by omega)]
              exact ⟨rfl, ⟨da, dl, ra, hS⟩, kpR.rf⟩

set_option maxHeartbeats 4000000 in
set_option maxRecDepth 100000 in
/-- keepNode(made) -/
theorem t_AF_keepNode (l : Launch) (D : va_G) (cs : Nat → ClassId) (Z : (Nat → Prop) → State → Heap → Prop) (hZo : fm_Zok Z) (tT : Nat) (hZc : ∀ A U H, Z A U H → Zc tT A U H) (μ : fm_Mu) (sz : Nat) (x : Nat) (kn : Nat) (kr : Nat) (b1 : Nat) (b2 : Nat) (b3 : Nat) (n1 : Int) (n2 : Int) (n3 : Int) (k : Nat) (fn : Nat → Option Nat) (h : Nat) (a : Nat) (co : Int) (sg : Int) (tq : Int) (ct : Int) (hn1 : 0 ≤ n1 ∧ n1 < 100) (c_x : μ x = some (oE 0 [.ref k, .ref kn, .int (iN (n1)), .ref kr, .int (iN (n2)), .int (iN (n3)), .ref b1, .ref b2, .ref b3])) (c_kn : μ kn = some (qE (cs 3) 100 fn)) (c_h : μ h = some (oE 2 [.int (iN (co)), .int (iN (sg)), .int (iN (tq)), .int (iN (ct)), .ref a])) : Met l y_AF_keepNode (Cond.code y_AF_keepNode c_AF_keepNode 2 (some .int) :: wA) ({ frames := 0, cells := 0, slots := 0, locals := 0 }) (fm_Pc D clsA (tysA cs) Z μ sz [.ref x, .ref h]) (fm_Qi D clsA (tysA cs) μ sz (fun z μ' => z = n1 + 1 ∧ μ' x = some (oE 0 [.ref k, .ref kn, .int (iN (n1 + 1)), .ref kr, .int (iN n2), .int (iN n3), .ref b1, .ref b2, .ref b3]) ∧ μ' kn = some (qE (cs 3) 100 (uF fn n1.toNat (some h))) ∧ fm_O μ μ' [x, kn])) 0 0 (fm_A μ sz) := by
  refine cl_of (by decide +kernel) (Nat.le_of_ble_eq_true rfl) (fun p e s m below meth c S hr hlocks hnm hsz hw hK hZ hA ls hl => ?_)
  subst hsz
  replace S : CallFix p m c c_AF_keepNode 2 s _ wA "ArithmeticForms" := S
  obtain ⟨hx, hb, hml, hown, hts⟩ := id S
  have hzc := hZc _ _ _ hZ
  have hO0 : fm_O μ μ [x, kn] := fm_O.rf
  have hl : lv_has ls 2 [(0, .ref x), (1, .ref h)] := hl
  refine lv_aload_n hx hb d_AF_keepNode_0 rfl (lv_at hl 0 rfl) ?_
  refine fm_get S hK hw c_x i_AF rfl 1 (by decide) (hts _ k113) (fun _ h => h) rfl d_AF_keepNode_1 ?_
  refine lv_aload_n hx hb d_AF_keepNode_4 rfl (lv_at hl 0 rfl) ?_
  refine fm_get S hK hw c_x i_AF rfl 2 (by decide) (hts _ k114) (fun _ h => h) rfl d_AF_keepNode_5 ?_
  refine lv_aload_n hx hb d_AF_keepNode_8 rfl (lv_at hl 1 rfl) ?_
  refine fm_aast S hK hw c_kn 3 rfl c_h rfl (by omega) d_AF_keepNode_9 (fun μ1 H locs hw hq hO => ?_)
  have k_x : μ1 x = some (oE 0 [.ref k, .ref kn, .int (iN (n1)), .ref kr, .int (iN (n2)), .int (iN (n3)), .ref b1, .ref b2, .ref b3]) := hO.at (nmc (fm_kn c_x c_kn rfl) nm0) c_x
  have k_h : μ1 h = some (oE 2 [.int (iN (co)), .int (iN (sg)), .int (iN (tq)), .int (iN (ct)), .ref a]) := hO.at (nmc (fm_kn c_h c_kn rfl) nm0) c_h
  have k_kn : μ1 kn = some (qE (cs 3) 100 (uF fn (n1).toNat (some h))) := hq
  have hO0 := hO0.tr1 hO (by simp)
  clear c_x c_kn c_h
  have c_x := k_x; clear k_x
  have c_h := k_h; clear k_h
  have c_kn := k_kn; clear k_kn
  clear hq hO
  refine lv_aload_n hx hb d_AF_keepNode_10 rfl (lv_at hl 0 rfl) ?_
  refine lv_dup hx hb d_AF_keepNode_11 rfl ?_
  refine fm_get S hK hw c_x i_AF rfl 2 (by decide) (hts _ k114) (fun _ h => h) rfl d_AF_keepNode_12 ?_
  refine fm_iconst S d_AF_keepNode_15 ?_
  refine fm_iadd S d_AF_keepNode_16 ?_
  refine fm_put S hK hw c_x i_AF rfl t_AF t_AF_ok n_AF 2 (by decide) (hts _ k114) (fun _ h => h) rfl (ty := .int) (by decide +kernel) rfl rfl (Nat.le_of_ble_eq_true rfl) d_AF_keepNode_17 (fun μ2 H locs hw hq hO => ?_)
  have k_h : μ2 h = some (oE 2 [.int (iN (co)), .int (iN (sg)), .int (iN (tq)), .int (iN (ct)), .ref a]) := hO.at (nmc (fm_kn c_h c_x rfl) nm0) c_h
  have k_kn : μ2 kn = some (qE (cs 3) 100 (uF fn (n1).toNat (some h))) := hO.at (nmc (fm_kn c_kn c_x rfl) nm0) c_kn
  have k_x : μ2 x = some (oE 0 [.ref k, .ref kn, .int (iN ((n1 + 1))), .ref kr, .int (iN (n2)), .int (iN (n3)), .ref b1, .ref b2, .ref b3]) := hq
  have hO0 := hO0.tr1 hO (by simp)
  clear c_x c_h c_kn
  have c_h := k_h; clear k_h
  have c_kn := k_kn; clear k_kn
  have c_x := k_x; clear k_x
  clear hq hO
  refine lv_aload_n hx hb d_AF_keepNode_20 rfl (lv_at hl 0 rfl) ?_
  refine fm_get S hK hw c_x i_AF rfl 2 (by decide) (hts _ k114) (fun _ h => h) rfl d_AF_keepNode_21 ?_
  refine fm_iret S hr hlocks hK hw d_AF_keepNode_24 ?_
  exact ⟨rfl, c_x, c_kn, hO0⟩

theorem val_ok {cs : Nat → ClassId} {μ : fm_Mu} {h a P : Nat} {v sc : Int} {F : Int → Int} (hP : 1 ≤ P ∧ P ≤ 31) (hj : inJ v) (hs : 0 ≤ sc ∧ sc ≤ 18) (ca : μ a = some (lE cs 4 F)) (hok : fOk F) (hL : L4 F = (cutM (P : Int) (mN (hV v sc)) : Int)) (hc : (cutM (P : Int) (mN (hV v sc)) = 0 ∧ μ h = some (dE 0 0 0 0 a)) ∨ (cutM (P : Int) (mN (hV v sc)) ≠ 0 ∧ μ h = some (dE 0 (sgn (hV v sc)) (tp (hV v sc)) ((32 - tz (cutM (P : Int) (mN (hV v sc))) : Nat) : Int) a))) : Dc cs μ h a (fin P v.natAbs (-sc) (sgn v)).1 (fin P v.natAbs (-sc) (sgn v)).2 := by
  by_cases h0 : v = 0
  · subst h0
    have e : hV 0 sc = 0 := by unfold hV; simp
    rw [e, mN_0] at hL hc
    have e2 : cutM (P : Int) 0 = 0 := by unfold cutM; simp
    rw [e2] at hL hc
    rw [show (0 : Int).natAbs = 0 from rfl, fin_0]
    rcases hc with ⟨_, hc⟩ | ⟨hc, _⟩
    · exact ⟨F, by rw [sgn_0, tp_0, nz_0]; exact hc, ca, ⟨hok, by rw [hL, mN_0]⟩, dB_0⟩
    · exact absurd rfl hc
  · have hn0 : v.natAbs ≠ 0 := fun z => h0 (Int.natAbs_eq_zero.mp z)
    have h19 := nd19 hj
    have hp := nd_pos hn0
    have hge := nd_ge hn0
    have hlt := nd_lt v.natAbs
    obtain ⟨g1, g2, g3, g4, g5, g6, g7, g8⟩ := ld_fin (v := v) (sc := sc) (len := (nd v.natAbs : Int)) (N := v.natAbs * 10 ^ (32 - (nd v.natAbs : Int)).toNat) h0 hj hs (by omega) (by rw [show ((nd v.natAbs : Int) - 1).toNat = nd v.natAbs - 1 by omega]; exact hge) (by rw [Int.toNat_natCast]; exact hlt) rfl
    have e32 : mN (hV v sc) = n32 v.natAbs := by
      rw [g5]; unfold n32
      rw [if_pos (by omega), show (32 - (nd v.natAbs : Int)).toNat = 32 - nd v.natAbs by omega]
    obtain ⟨k1, k2, k3, k4, k5, k6, k7⟩ := fin_mid (P := P) (T := v.natAbs) (x := -sc) (s := sgn v) (t := (nd v.natAbs : Int) + -sc - 1) hn0 hP rfl (by omega) (sgn_nz h0) rfl
    rw [e32] at hL hc
    rcases hc with ⟨hc, _⟩ | ⟨_, hc⟩
    · exact absurd hc k7
    · exact ⟨F, by rw [k1, k2, k3, k4, ← g2, show (nd v.natAbs : Int) + -sc - 1 = tp (hV v sc) by omega]; exact hc, ca, ⟨hok, by rw [hL, k5]⟩, k6⟩

set_option maxHeartbeats 4000000 in
set_option maxRecDepth 100000 in
/-- value(v, scale) -/
theorem t_AF_value (l : Launch) (D : va_G) (cs : Nat → ClassId) (Z : (Nat → Prop) → State → Heap → Prop) (hZo : fm_Zok Z) (tT : Nat) (hZc : ∀ A U H, Z A U H → Zc tT A U H) (μ : fm_Mu) (sz : Nat) (x : Nat) (kc : Nat) (kn : Nat) (kr : Nat) (wd : Nat) (lf : Nat) (da : Nat → Nat) (dl : Nat → Nat) (ra : Nat → Nat) (σ : Sg) (v : Int) (sc : Int) (hS : afS cs μ x kc kn kr wd lf da dl ra σ) (hjv : inJ v) (his : inI sc)  : Met l y_AF_value (Cond.code y_AF_value c_AF_value 5 (some .int) :: wA) ({ frames := 4, cells := 2, slots := 9, locals := 94 }) (fm_Pc D clsA (tysA cs) Z μ sz [.ref x, .long (jN (v)), .int (iN (sc))]) (fm_Qi D clsA (tysA cs) μ sz (fun z μ' => z = (sp_value σ v sc).1 ∧ (∃ da' dl' ra' : Nat → Nat, afS cs μ' x kc kn kr wd lf da' dl' ra' (sp_value σ v sc).2) ∧ kpR μ μ')) 2 9 (fm_A μ sz) := by
  refine cl_of (by decide +kernel) (Nat.le_of_ble_eq_true rfl) (fun p e s m below meth c S hr hlocks hnm hsz hw hK hZ hA ls hl => ?_)
  subst hsz
  replace S : CallFix p m c c_AF_value 5 s _ wA "ArithmeticForms" := S
  obtain ⟨hx, hb, hml, hown, hts⟩ := id S
  have hzc := hZc _ _ _ hZ
  have hO0 : fm_O μ μ [] := fm_O.rf
  have hl : lv_has ls 5 [(0, .ref x), (1, .long (jN (v))), (3, .int (iN (sc)))] := hl
  have c_x := hS.cx
  have c_kc := hS.ck
  obtain ⟨G0, c_wd⟩ := hS.cw
  obtain ⟨X0, c_lf⟩ := hS.cl
  obtain ⟨fn, c_kn, hfn⟩ := hS.cn
  obtain ⟨fr, c_kr, hfr⟩ := hS.cr
  have hok := hS.ok
  have hokC := hok.2.2.1
  have hokR := hok.2.2.2.1
  have hP : 1 ≤ sP σ ∧ sP σ ≤ 31 := ⟨hok.1, hok.2.1⟩
  have j_x := c_x
  have j_kc := c_kc
  have j_wd := c_wd
  have j_lf := c_lf
  have j_kn := c_kn
  have j_kr := c_kr
  refine lv_iload_n hx hb d_AF_value_0 rfl (lv_at hl 2 rfl) ?_
  refine fm_if_lt (tgt := 10) S (by omega) d_AF_value_1 (by decide) (fun c1 => ?_) (fun c1 => ?_)
  · refine fm_bipush S d_AF_value_10 (by decide) ?_
    refine W.widen (k := 2) (n := 9) (Nat.le_of_ble_eq_true rfl) (Nat.le_of_ble_eq_true rfl) ?_
    refine fm_iret S hr hlocks hK hw d_AF_value_12 ?_
    unfold sp_value
    rw [if_pos (by omega)]
    exact ⟨rfl, ⟨da, dl, ra, hS⟩, kpR.rf⟩
  · refine lv_iload_n hx hb d_AF_value_4 rfl (lv_at hl 2 rfl) ?_
    refine fm_bipush S d_AF_value_5 (by decide) ?_
    refine fm_icmp_le (tgt := 13) S (by omega) (by omega) d_AF_value_7 (by decide) (fun c2 => ?_) (fun c2 => ?_)
    · refine lv_aload_n hx hb d_AF_value_13 rfl (lv_at hl 0 rfl) ?_
      refine fm_get S hK hw c_x i_AF rfl 2 (by decide) (hts _ k114) (fun _ h => h) rfl d_AF_value_14 ?_
      refine fm_bipush S d_AF_value_17 (by decide) ?_
      refine fm_icmp_lt (tgt := 24) S (by omega) (by omega) d_AF_value_19 (by decide) (fun c3 => ?_) (fun c3 => ?_)
      · have hn100 : sC σ < 100 := by omega
        refine fm_new (ci := 2) (fs := [.int (iN (0)), .int (iN (0)), .int (iN (0)), .int (iN (0)), .null]) S hK hw hA i_De rfl t_De t_De_ok (hts _ k23) (hts _ k27) (hts _ k2) z_De (Nat.le_of_ble_eq_true rfl) (Nat.le_of_ble_eq_true rfl) d_AF_value_24 (fun a4 μ5 H hw hn hq hO => ?_)
        have ne_x_a4 := nn_ne c_x hn
        have ne_kc_a4 := nn_ne c_kc hn
        have ne_wd_a4 := nn_ne c_wd hn
        have ne_lf_a4 := nn_ne c_lf hn
        have ne_kn_a4 := nn_ne c_kn hn
        have ne_kr_a4 := nn_ne c_kr hn
        have hf_a4 := hO0.fr hn nm0
        have hO0 := hO0.mono (l' := [a4]) (fun _ h => List.mem_cons_of_mem _ h)
        have k_x : μ5 x = some (oE 0 [.ref kc, .ref kn, .int (iN ((sC σ : Int))), .ref kr, .int (iN ((sR σ : Int))), .int (iN ((sL σ))), .ref (da 1), .ref (da 2), .ref (da 3)]) := hO.at (nmc ne_x_a4 nm0) c_x
        have k_kc : μ5 kc = some (oE 1 [.int (iN ((sP σ : Int))), .ref wd, .ref lf, .ref (da 0)]) := hO.at (nmc ne_kc_a4 nm0) c_kc
        have k_wd : μ5 wd = some (lE cs 30 G0) := hO.at (nmc ne_wd_a4 nm0) c_wd
        have k_lf : μ5 lf = some (lE cs 5 X0) := hO.at (nmc ne_lf_a4 nm0) c_lf
        have k_kn : μ5 kn = some (qE (cs 3) 100 fn) := hO.at (nmc ne_kn_a4 nm0) c_kn
        have k_kr : μ5 kr = some (qE (cs 4) 20 fr) := hO.at (nmc ne_kr_a4 nm0) c_kr
        have k_a4 : μ5 a4 = some (oE 2 [.int (iN (0)), .int (iN (0)), .int (iN (0)), .int (iN (0)), .null]) := hq
        have hO0 := hO0.tr1 hO (by simp)
        clear c_x c_kc c_wd c_lf c_kn c_kr
        have c_x := k_x; clear k_x
        have c_kc := k_kc; clear k_kc
        have c_wd := k_wd; clear k_wd
        have c_lf := k_lf; clear k_lf
        have c_kn := k_kn; clear k_kn
        have c_kr := k_kr; clear k_kr
        have c_a4 := k_a4; clear k_a4
        clear hn hq hO
        refine lv_dup hx hb d_AF_value_27 rfl ?_
        refine fm_callv (va_runIN (As := []) (rest := [.ref a4]) S (t_De_init l D cs Z hZo tT hZc μ5 _ a4 c_a4) ⟨cwNA 0 hts k30 rfl rfl hzc.2.2.1.1 k2 (by decide +kernel) (by decide), rfl, hts _ k29⟩ (fm_pre hZo hK hw hZ hA _) rfl rfl hl.1 rfl (lv_room (Nat.le_of_ble_eq_true rfl)) d_AF_value_28 ⟨Nat.le_of_ble_eq_true rfl, Nat.le_of_ble_eq_true rfl⟩) hw hA (fun μ7 H locs q6 hw => ?_)
        obtain ⟨a8, hn, hq, hq2, hO⟩ := q6
        have ne_x_a8 := nn_ne c_x hn
        have ne_kc_a8 := nn_ne c_kc hn
        have ne_wd_a8 := nn_ne c_wd hn
        have ne_lf_a8 := nn_ne c_lf hn
        have ne_kn_a8 := nn_ne c_kn hn
        have ne_kr_a8 := nn_ne c_kr hn
        have ne_a4_a8 := nn_ne c_a4 hn
        have hf_a8 := hO0.fr hn (nmc (Ne.symm ne_a4_a8) nm0)
        have hO0 := hO0.mono (l' := [a8, a4]) (fun _ h => List.mem_cons_of_mem _ h)
        have k_x : μ7 x = some (oE 0 [.ref kc, .ref kn, .int (iN ((sC σ : Int))), .ref kr, .int (iN ((sR σ : Int))), .int (iN ((sL σ))), .ref (da 1), .ref (da 2), .ref (da 3)]) := hO.at (nmc ne_x_a4 (nmc ne_x_a8 nm0)) c_x
        have k_kc : μ7 kc = some (oE 1 [.int (iN ((sP σ : Int))), .ref wd, .ref lf, .ref (da 0)]) := hO.at (nmc ne_kc_a4 (nmc ne_kc_a8 nm0)) c_kc
        have k_wd : μ7 wd = some (lE cs 30 G0) := hO.at (nmc ne_wd_a4 (nmc ne_wd_a8 nm0)) c_wd
        have k_lf : μ7 lf = some (lE cs 5 X0) := hO.at (nmc ne_lf_a4 (nmc ne_lf_a8 nm0)) c_lf
        have k_kn : μ7 kn = some (qE (cs 3) 100 fn) := hO.at (nmc ne_kn_a4 (nmc ne_kn_a8 nm0)) c_kn
        have k_kr : μ7 kr = some (qE (cs 4) 20 fr) := hO.at (nmc ne_kr_a4 (nmc ne_kr_a8 nm0)) c_kr
        have k_a4 : μ7 a4 = some (oE 2 [.int (iN (0)), .int (iN (0)), .int (iN (0)), .int (iN (0)), .ref a8]) := hq
        have k_a8 : μ7 a8 = some (lE cs 4 (fun _ => 0)) := hq2
        have hO0 := hO0.tr1 hO (by simp)
        clear c_x c_kc c_wd c_lf c_kn c_kr c_a4
        have c_x := k_x; clear k_x
        have c_kc := k_kc; clear k_kc
        have c_wd := k_wd; clear k_wd
        have c_lf := k_lf; clear k_lf
        have c_kn := k_kn; clear k_kn
        have c_kr := k_kr; clear k_kr
        have c_a4 := k_a4; clear k_a4
        have c_a8 := k_a8; clear k_a8
        clear hn hq hq2 hO
        refine lv_astore (lv' := [(4, .ref a4), (0, .ref x), (1, .long (jN (v))), (3, .int (iN (sc)))]) hx hb d_AF_value_31 hl (by decide) rfl (fun ls hl => ?_)
        refine lv_aload hx hb d_AF_value_33 (lv_at hl 0 rfl) ?_
        refine lv_lload_n hx hb d_AF_value_35 rfl (lv_at hl 2 rfl) ?_
        refine lv_iload_n hx hb d_AF_value_36 rfl (lv_at hl 3 rfl) ?_
        refine fm_callv (va_runV (As := [.long (jN (v)), .int (iN (sc))]) (rest := []) S (t_De_load l D cs Z hZo tT hZc μ7 _ a4 a8 0 0 0 0 (fun _ => 0) v sc (hjv) (by omega) c_a4 c_a8) (cwV 2 hts (gV k144 k73 k74 k2 k75) rfl rfl rfl (by decide +kernel) (by decide)) (fm_preV hZo hK hw hZ hA c_a4 rfl _) rfl rfl hl.1 rfl (lv_room (Nat.le_of_ble_eq_true rfl)) d_AF_value_37 ⟨Nat.le_of_ble_eq_true rfl, Nat.le_of_ble_eq_true rfl⟩) hw hA (fun μ10 H locs q9 hw => ?_)
        obtain ⟨⟨F11, hq, hq2, hdF11, hvF11⟩, hO⟩ := q9
        have k_x : μ10 x = some (oE 0 [.ref kc, .ref kn, .int (iN ((sC σ : Int))), .ref kr, .int (iN ((sR σ : Int))), .int (iN ((sL σ))), .ref (da 1), .ref (da 2), .ref (da 3)]) := hO.at (nmc ne_x_a4 (nmc ne_x_a8 nm0)) c_x
        have k_kc : μ10 kc = some (oE 1 [.int (iN ((sP σ : Int))), .ref wd, .ref lf, .ref (da 0)]) := hO.at (nmc ne_kc_a4 (nmc ne_kc_a8 nm0)) c_kc
        have k_wd : μ10 wd = some (lE cs 30 G0) := hO.at (nmc ne_wd_a4 (nmc ne_wd_a8 nm0)) c_wd
        have k_lf : μ10 lf = some (lE cs 5 X0) := hO.at (nmc ne_lf_a4 (nmc ne_lf_a8 nm0)) c_lf
        have k_kn : μ10 kn = some (qE (cs 3) 100 fn) := hO.at (nmc ne_kn_a4 (nmc ne_kn_a8 nm0)) c_kn
        have k_kr : μ10 kr = some (qE (cs 4) 20 fr) := hO.at (nmc ne_kr_a4 (nmc ne_kr_a8 nm0)) c_kr
        have k_a4 : μ10 a4 = some (oE 2 [.int (iN (0)), .int (iN ((sgn (hV v sc)))), .int (iN ((tp (hV v sc)))), .int (iN ((nd (cN (hV v sc)) : Int))), .ref a8]) := hq
        have k_a8 : μ10 a8 = some (lE cs 4 F11) := hq2
        have hO0 := hO0.tr1 hO (by simp)
        clear c_x c_kc c_wd c_lf c_kn c_kr c_a4 c_a8
        have c_x := k_x; clear k_x
        have c_kc := k_kc; clear k_kc
        have c_wd := k_wd; clear k_wd
        have c_lf := k_lf; clear k_lf
        have c_kn := k_kn; clear k_kn
        have c_kr := k_kr; clear k_kr
        have c_a4 := k_a4; clear k_a4
        have c_a8 := k_a8; clear k_a8
        clear hq hq2 hO
        refine lv_aload hx hb d_AF_value_40 (lv_at hl 0 rfl) ?_
        refine lv_aload_n hx hb d_AF_value_42 rfl (lv_at hl 1 rfl) ?_
        refine fm_get S hK hw c_x i_AF rfl 0 (by decide) (hts _ k112) (fun _ h => h) rfl d_AF_value_43 ?_
        refine fm_get S hK hw c_kc i_Ca rfl 0 (by decide) (hts _ k99) (fun _ h => h) rfl d_AF_value_46 ?_
        refine fm_callv (va_runV (As := [.int (iN ((sP σ : Int)))]) (rest := []) S (t_De_cut l D cs Z hZo tT hZc μ10 _ a4 a8 0 (sgn (hV v sc)) (tp (hV v sc)) (nd (cN (hV v sc)) : Int) F11 (mN (hV v sc)) (sP σ : Int) hdF11.1 hdF11.2 (by omega) c_a4 c_a8) (cwV 1 hts (gV k145 k93 k94 k2 k95) rfl rfl rfl (by decide +kernel) (by decide)) (fm_preV hZo hK hw hZ hA c_a4 rfl _) rfl rfl hl.1 rfl (lv_room (Nat.le_of_ble_eq_true rfl)) d_AF_value_49 ⟨Nat.le_of_ble_eq_true rfl, Nat.le_of_ble_eq_true rfl⟩) hw hA (fun μ13 H locs q12 hw => ?_)
        obtain ⟨F14, hq2, hokF14, hLF14, hcase, hO⟩ := q12
        have k_x : μ13 x = some (oE 0 [.ref kc, .ref kn, .int (iN ((sC σ : Int))), .ref kr, .int (iN ((sR σ : Int))), .int (iN ((sL σ))), .ref (da 1), .ref (da 2), .ref (da 3)]) := hO.at (nmc ne_x_a4 (nmc ne_x_a8 nm0)) c_x
        have k_kc : μ13 kc = some (oE 1 [.int (iN ((sP σ : Int))), .ref wd, .ref lf, .ref (da 0)]) := hO.at (nmc ne_kc_a4 (nmc ne_kc_a8 nm0)) c_kc
        have k_wd : μ13 wd = some (lE cs 30 G0) := hO.at (nmc ne_wd_a4 (nmc ne_wd_a8 nm0)) c_wd
        have k_lf : μ13 lf = some (lE cs 5 X0) := hO.at (nmc ne_lf_a4 (nmc ne_lf_a8 nm0)) c_lf
        have k_kn : μ13 kn = some (qE (cs 3) 100 fn) := hO.at (nmc ne_kn_a4 (nmc ne_kn_a8 nm0)) c_kn
        have k_kr : μ13 kr = some (qE (cs 4) 20 fr) := hO.at (nmc ne_kr_a4 (nmc ne_kr_a8 nm0)) c_kr
        have k_a8 : μ13 a8 = some (lE cs 4 F14) := hq2
        have hO0 := hO0.tr1 hO (by simp)
        clear c_x c_kc c_wd c_lf c_kn c_kr c_a4 c_a8
        have c_x := k_x; clear k_x
        have c_kc := k_kc; clear k_kc
        have c_wd := k_wd; clear k_wd
        have c_lf := k_lf; clear k_lf
        have c_kn := k_kn; clear k_kn
        have c_kr := k_kr; clear k_kr
        have c_a8 := k_a8; clear k_a8
        clear hq2 hO
        have hDm := val_ok hP hjv (by omega) c_a8 hokF14 hLF14 hcase
        clear c_a8
        obtain ⟨F9, c_a4, c_a8, hdF9, hvF9⟩ := hDm
        refine lv_aload_n hx hb d_AF_value_52 rfl (lv_at hl 1 rfl) ?_
        refine lv_aload hx hb d_AF_value_53 (lv_at hl 0 rfl) ?_
        refine fm_calli (va_runV (As := [.ref a4]) (rest := []) S (t_AF_keepNode l D cs Z hZo tT hZc μ13 _ x kn kr (da 1) (da 2) (da 3) (sC σ : Int) (sR σ : Int) (sL σ) kc fn a4 a8 ((fin (sP σ) v.natAbs (-sc) (sgn v)).1) (sgn (fin (sP σ) v.natAbs (-sc) (sgn v)).2) (tp (fin (sP σ) v.natAbs (-sc) (sgn v)).2) (nd (cN (fin (sP σ) v.natAbs (-sc) (sgn v)).2) : Int) (by omega) c_x c_kn c_a4) (cwV 1 hts (gV k146 k148 ks0 k1 k149) rfl rfl rfl (by decide +kernel) (by decide)) (fm_preV hZo hK hw hZ hA c_x rfl _) rfl rfl hl.1 rfl (lv_room (Nat.le_of_ble_eq_true rfl)) d_AF_value_55 ⟨Nat.le_of_ble_eq_true rfl, Nat.le_of_ble_eq_true rfl⟩) hw hA (fun x16 μ17 H locs q15 hw => ?_)
        obtain ⟨hzx16, hq, hq2, hO⟩ := q15
        have k_kc : μ17 kc = some (oE 1 [.int (iN ((sP σ : Int))), .ref wd, .ref lf, .ref (da 0)]) := hO.at (nmc (fm_kn c_kc c_x rfl) (nmc (fm_kn c_kc c_kn rfl) nm0)) c_kc
        have k_wd : μ17 wd = some (lE cs 30 G0) := hO.at (nmc (fm_kn c_wd c_x rfl) (nmc (fm_kn c_wd c_kn rfl) nm0)) c_wd
        have k_lf : μ17 lf = some (lE cs 5 X0) := hO.at (nmc (fm_kn c_lf c_x rfl) (nmc (fm_kn c_lf c_kn rfl) nm0)) c_lf
        have k_kr : μ17 kr = some (qE (cs 4) 20 fr) := hO.at (nmc (fm_kn c_kr c_x rfl) (nmc (fm_kn c_kr c_kn rfl) nm0)) c_kr
        have k_a8 : μ17 a8 = some (lE cs 4 F9) := hO.at (nmc (Ne.symm ne_x_a8) (nmc (Ne.symm ne_kn_a8) nm0)) c_a8
        have k_a4 : μ17 a4 = some (oE 2 [.int (iN ((fin (sP σ) v.natAbs (-sc) (sgn v)).1)), .int (iN ((sgn (fin (sP σ) v.natAbs (-sc) (sgn v)).2))), .int (iN ((tp (fin (sP σ) v.natAbs (-sc) (sgn v)).2))), .int (iN ((nd (cN (fin (sP σ) v.natAbs (-sc) (sgn v)).2) : Int))), .ref a8]) := hO.at (nmc (Ne.symm ne_x_a4) (nmc (Ne.symm ne_kn_a4) nm0)) c_a4
        have k_x : μ17 x = some (oE 0 [.ref kc, .ref kn, .int (iN (((sC σ : Int) + 1))), .ref kr, .int (iN ((sR σ : Int))), .int (iN ((sL σ))), .ref (da 1), .ref (da 2), .ref (da 3)]) := hq
        have k_kn : μ17 kn = some (qE (cs 3) 100 (uF fn ((sC σ : Int)).toNat (some a4))) := hq2
        have hO0 := hO0.mono (l' := [x, kn, a8, a4]) (fun _ h => List.mem_cons_of_mem _ (List.mem_cons_of_mem _ (h)))
        have hO0 := hO0.tr1 hO (by simp)
        clear c_x c_kc c_wd c_lf c_kn c_kr c_a8 c_a4
        have c_kc := k_kc; clear k_kc
        have c_wd := k_wd; clear k_wd
        have c_lf := k_lf; clear k_lf
        have c_kr := k_kr; clear k_kr
        have c_a8 := k_a8; clear k_a8
        have c_a4 := k_a4; clear k_a4
        have c_x := k_x; clear k_x
        have c_kn := k_kn; clear k_kn
        clear hq hq2 hO
        refine W.widen (k := 2) (n := 9) (Nat.le_of_ble_eq_true rfl) (Nat.le_of_ble_eq_true rfl) ?_
        refine fm_iret S hr hlocks hK hw d_AF_value_58 ?_
        have hq9 := hS.addN (a1 := a4) (a2 := a8) (w := fin (sP σ) v.natAbs (-sc) (sgn v)) (f1 := (uF fn ((sC σ : Int)).toNat (some a4))) (fun f hf => by rw [j_kn] at hf; cases hf; rfl) hn100 (fin_nd hP (fun q => sgn_nz (fun z => q (by rw [z]; rfl)))) hf_a4 hf_a8 (hO0.mono (by intro q hq; simp at hq ⊢; omega)) c_x c_kn ⟨_, c_wd⟩ ⟨_, c_lf⟩ ⟨F9, c_a4, c_a8, hdF9, hvF9⟩
        unfold sp_value
        rw [if_neg (by omega), if_neg (by omega)]
        exact ⟨hzx16, ⟨_, _, ra, hq9⟩, (kpR.of hO0 (okL.c j_x rfl (okL.c j_kn rfl (okL.f hf_a8 (okL.f hf_a4 okL.n)))))⟩
      · refine fm_iconst S d_AF_value_22 ?_
        refine W.widen (k := 2) (n := 9) (Nat.le_of_ble_eq_true rfl) (Nat.le_of_ble_eq_true rfl) ?_
        refine fm_iret S hr hlocks hK hw d_AF_value_23 ?_
        unfold sp_value
        rw [if_neg (by omega), if_pos (by omega)]
        exact ⟨rfl, ⟨da, dl, ra, hS⟩, kpR.rf⟩
    · refine fm_bipush S d_AF_value_10 (by decide) ?_
      refine W.widen (k := 2) (n := 9) (Nat.le_of_ble_eq_true rfl) (Nat.le_of_ble_eq_true rfl) ?_
      refine fm_iret S hr hlocks hK hw d_AF_value_12 ?_
      unfold sp_value
      rw [if_pos (by omega)]
      exact ⟨rfl, ⟨da, dl, ra, hS⟩, kpR.rf⟩
