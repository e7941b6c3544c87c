theorem dg_ok {v i : Int} (hv : dB v) (hi : 0 ≤ i ∧ i < (nd (cN v) : Int)) : dgN (mN v) i = ((cN v / 10 ^ (nd (cN v) - 1 - i.toNat) % 10 : Nat) : Int) := by
  have h31 := hv.1
  unfold dgN mN
  rw [if_neg (by omega)]
  congr 2
  rw [show 31 - i.toNat = (nd (cN v) - 1 - i.toNat) + (32 - nd (cN v)) by omega, Nat.pow_add, Nat.mul_div_mul_right _ _ (p10N _)]
theorem ex_x {v : Int} : (if (nd (cN v) : Int) = 0 then 0 else tp v + 1 - (nd (cN v) : Int)) = cX v := by
  by_cases h : v = 0
  · subst h; rw [nz_0]; rfl
  · have : ¬ (nd (cN v) : Int) = 0 := fun z => h (ndc_0 (by omega))
    rw [if_neg this]; unfold tp; rw [if_neg h]; omega

set_option maxHeartbeats 4000000 in
set_option maxRecDepth 100000 in
/-- exact(n, side) that returns -/
theorem t_AF_exact (l : Launch) (D : va_G) (cs : Nat → ClassId) (Z : (Nat → Prop) → State → Heap → Prop) (hZo : fm_Zok Z) (tT : Nat) (hZc : ∀ A U H, Z A U H → Zc tT A U H) (μ : fm_Mu) (sz : Nat) (x : Nat) (kc : Nat) (kn : Nat) (kr : Nat) (wd : Nat) (lf : Nat) (da : Nat → Nat) (dl : Nat → Nat) (ra : Nat → Nat) (σ : Sg) (n : Int) (side : Int) (hS : afS cs μ x kc kn kr wd lf da dl ra σ) (hin : inI n) (his : inI side) (h0 : (sp_exact σ n side).1 = 0)  : Met l y_AF_exact (Cond.code y_AF_exact c_AF_exact 5 (some .long) :: wA) ({ frames := 2, cells := 0, slots := 0, locals := 41 }) (fm_Pc D clsA (tysA cs) Z μ sz [.ref x, .int (iN (n)), .int (iN (side))]) (fm_Sl (fun z => z = (sp_exact σ n side).2)) 0 0 (fun _ => False) := by
  refine cl_of (by decide +kernel) (Nat.le_of_ble_eq_true rfl) (fun p e s m below meth c S hr hlocks hnm hsz hw hK hZ hA ls hl => ?_)
  subst hsz
  replace S : CallFix p m c c_AF_exact 5 s _ wA "ArithmeticForms" := S
  obtain ⟨hx, hb, hml, hown, hts⟩ := id S
  have hzc := hZc _ _ _ hZ
  have hl : lv_has ls 5 [(0, .ref x), (1, .int (iN (n))), (2, .int (iN (side)))] := hl
  have c_x := hS.cx
  have c_kc := hS.ck
  obtain ⟨G0, c_wd⟩ := hS.cw
  obtain ⟨X0, c_lf⟩ := hS.cl
  obtain ⟨fn, c_kn, hfn⟩ := hS.cn
  obtain ⟨fr, c_kr, hfr⟩ := hS.cr
  have hok := hS.ok
  have hokC := hok.2.2.1
  have hokR := hok.2.2.2.1
  have hP : 1 ≤ sP σ ∧ sP σ ≤ 31 := ⟨hok.1, hok.2.1⟩
  have j_x := c_x
  have j_kc := c_kc
  have j_wd := c_wd
  have j_lf := c_lf
  have j_kn := c_kn
  have j_kr := c_kr
  refine lv_aload_n hx hb d_AF_exact_0 rfl (lv_at hl 0 rfl) ?_
  refine lv_iload_n hx hb d_AF_exact_1 rfl (lv_at hl 1 rfl) ?_
  refine fm_callSq (va_runV (As := [.int (iN (n))]) (rest := []) S (t_AF_nodeAt l D cs Z hZo tT hZc μ _ x kc kn kr wd lf da dl ra σ n hS (by omega)) (cwV 1 hts (gV k154 k156 ks1 k1 k157) rfl rfl rfl (by decide +kernel) (by decide)) (fm_preV hZo hK hw hZ hA c_x rfl _) rfl rfl hl.1 rfl (lv_room (Nat.le_of_ble_eq_true rfl)) d_AF_exact_2 ⟨Nat.le_of_ble_eq_true rfl, Nat.le_of_ble_eq_true rfl⟩) (fun x2 q1 => ?_)
  by_cases hki3 : 0 < n ∧ n ≤ (sC σ : Int)
  · rw [if_pos hki3] at q1
    obtain ⟨i3, hii3⟩ : ∃ i3 : Nat, n = (i3 : Int) + 1 := ⟨(n - 1).toNat, by omega⟩
    rw [show (n - 1).toNat = i3 by omega] at q1
    subst q1
    show W p l e _ s m _ below meth c _ _ _ _ _ (F0 m 5 ls [.ref (da (4 + i3))])
    obtain ⟨F4, c_da_4_i3, c_dl_4_i3, hdF4, hvF4⟩ := hS.dN i3 (by omega)
    have hoki3 := hok.2.2.2.2.2.2.1 (i3 + 1) (by omega) (by omega)
    refine lv_astore_n (lv' := [(3, .ref (da (4 + i3))), (0, .ref x), (1, .int (iN (n))), (2, .int (iN (side)))]) hx hb d_AF_exact_5 rfl hl (by decide) rfl (fun ls hl => ?_)
    refine lv_aload_n hx hb d_AF_exact_6 rfl (lv_at hl 0 rfl) ?_
    refine lv_ifnull hx hb d_AF_exact_7 ?_
    refine lv_iload_n hx hb d_AF_exact_10 rfl (lv_at hl 3 rfl) ?_
    refine fm_if_ge (tgt := 18) S (by omega) d_AF_exact_11 (by decide) (fun c5 => ?_) (fun c5 => ?_)
    · have hsp : sp_exact σ n side = if (sN σ (i3 + 1)).1 ≠ 0 then (1, 0) else if side = 0 then (0, sgn (sN σ (i3 + 1)).2) else if side = 1 then (0, (nd (cN (sN σ (i3 + 1)).2) : Int)) else if side = 2 then (0, cX (sN σ (i3 + 1)).2) else if side - 3 < nd (cN (sN σ (i3 + 1)).2) then (0, ((cN (sN σ (i3 + 1)).2 / 10 ^ (nd (cN (sN σ (i3 + 1)).2) - 1 - (side - 3).toNat) % 10 : Nat) : Int)) else (0, -1) := by
        unfold sp_exact
        rw [if_neg (fun q => q.elim (fun q => q hki3) (fun q => by omega)), show n.toNat = i3 + 1 by omega]
      have hc1 := hoki3.1
      have hc2 := hoki3.2.1
      have hsg := sgn_in (sN σ (i3 + 1)).2
      have hn31 := hvF4.1
      have htt := hvF4.t
      refine lv_aload_n hx hb d_AF_exact_18 rfl (lv_at hl 0 rfl) ?_
      refine fm_get S hK hw c_da_4_i3 i_De rfl 0 (by decide) (hts _ k34) (fun _ h => h) rfl d_AF_exact_19 ?_
      refine fm_if_eq (tgt := 35) S (by omega) d_AF_exact_22 (by decide) (fun c6 => ?_) (fun c6 => ?_)
      · rw [if_neg (by omega)] at hsp
        refine lv_iload_n hx hb d_AF_exact_35 rfl (lv_at hl 3 rfl) ?_
        rcases (show side = 0 ∨ side = 1 ∨ side = 2 ∨ (side < 0 ∨ 2 < side) by omega) with c7 | c7 | c7 | c7
        · refine lv_tableIn (tgt := 64) hx hb d_AF_exact_36 (by rw [iN_toInt (by omega)]; omega) (by rw [iN_toInt (by omega)]; omega) (by rw [iN_toInt (by omega), c7]; rfl) (by decide) ?_
          refine lv_aload_n hx hb d_AF_exact_64 rfl (lv_at hl 0 rfl) ?_
          refine fm_get S hK hw c_da_4_i3 i_De rfl 1 (by decide) (hts _ k38) (fun _ h => h) rfl d_AF_exact_65 ?_
          refine fm_i2l S (by omega) d_AF_exact_68 ?_
          refine fm_lretS S hr hlocks d_AF_exact_69 ?_
          rw [hsp, if_pos (by assumption)]
        · refine lv_tableIn (tgt := 70) hx hb d_AF_exact_36 (by rw [iN_toInt (by omega)]; omega) (by rw [iN_toInt (by omega)]; omega) (by rw [iN_toInt (by omega), c7]; rfl) (by decide) ?_
          refine lv_aload_n hx hb d_AF_exact_70 rfl (lv_at hl 0 rfl) ?_
          refine fm_get S hK hw c_da_4_i3 i_De rfl 3 (by decide) (hts _ k43) (fun _ h => h) rfl d_AF_exact_71 ?_
          refine fm_i2l S (by omega) d_AF_exact_74 ?_
          refine fm_lretS S hr hlocks d_AF_exact_75 ?_
          rw [hsp, if_neg (by omega), if_pos (by assumption)]
        · refine lv_tableIn (tgt := 76) hx hb d_AF_exact_36 (by rw [iN_toInt (by omega)]; omega) (by rw [iN_toInt (by omega)]; omega) (by rw [iN_toInt (by omega), c7]; rfl) (by decide) ?_
          refine lv_aload_n hx hb d_AF_exact_76 rfl (lv_at hl 0 rfl) ?_
          refine fm_callSi (va_runV (As := []) (rest := []) S (t_De_exponent l D cs Z hZo tT hZc μ _ (da (4 + i3)) (dl (4 + i3)) ((sN σ (i3 + 1)).1) (sgn (sN σ (i3 + 1)).2) (tp (sN σ (i3 + 1)).2) (nd (cN (sN σ (i3 + 1)).2) : Int) F4 (by omega) c_da_4_i3 c_dl_4_i3) (cwV 0 hts (gV k458 k177 k178 k2 k179) rfl rfl rfl (by decide +kernel) (by decide)) (fm_preV hZo hK hw hZ hA c_da_4_i3 rfl _) rfl rfl hl.1 rfl (lv_room (Nat.le_of_ble_eq_true rfl)) d_AF_exact_77 ⟨Nat.le_of_ble_eq_true rfl, Nat.le_of_ble_eq_true rfl⟩) (fun x9 q8 => ?_)
          refine fm_i2l S (by omega) d_AF_exact_80 ?_
          refine fm_lretS S hr hlocks d_AF_exact_81 ?_
          rw [hsp, if_neg (by omega), if_neg (by omega), if_pos (by assumption)]
          rw [q8]
          exact ex_x
        · refine lv_tableOut (tgt := 82) hx hb d_AF_exact_36 (by rw [iN_toInt (by omega)]; omega) (by decide) ?_
          refine lv_iload_n hx hb d_AF_exact_82 rfl (lv_at hl 3 rfl) ?_
          refine fm_iconst S d_AF_exact_83 ?_
          refine fm_isub S d_AF_exact_84 ?_
          refine fm_topi (fun x10 hx10 => ?_)
          refine lv_istore (lv' := [(4, .int (iN (x10))), (3, .ref (da (4 + i3))), (0, .ref x), (1, .int (iN (n))), (2, .int (iN (side)))]) hx hb d_AF_exact_85 hl (by decide) rfl (fun ls hl => ?_)
          refine lv_iload hx hb d_AF_exact_87 (lv_at hl 0 rfl) ?_
          refine lv_aload_n hx hb d_AF_exact_89 rfl (lv_at hl 1 rfl) ?_
          refine fm_get S hK hw c_da_4_i3 i_De rfl 3 (by decide) (hts _ k43) (fun _ h => h) rfl d_AF_exact_90 ?_
          refine fm_icmp_ge (tgt := 106) S (by omega) (by omega) d_AF_exact_93 (by decide) (fun c11 => ?_) (fun c11 => ?_)
          · refine lv_ldc2 (v := jN (-1)) hx hb hown (hts _ k391) d_AF_exact_106 ?_
            refine fm_lretS S hr hlocks d_AF_exact_109 ?_
            rw [hsp, if_neg (by omega), if_neg (by omega), if_neg (by omega), if_neg (by omega)]
          · refine lv_aload_n hx hb d_AF_exact_96 rfl (lv_at hl 1 rfl) ?_
            refine lv_iload hx hb d_AF_exact_97 (lv_at hl 0 rfl) ?_
            refine fm_callSi (va_runV (As := [.int (iN (x10))]) (rest := []) S (t_De_digit l D cs Z hZo tT hZc μ _ (da (4 + i3)) (dl (4 + i3)) ((sN σ (i3 + 1)).1) (sgn (sN σ (i3 + 1)).2) (tp (sN σ (i3 + 1)).2) (nd (cN (sN σ (i3 + 1)).2) : Int) F4 (mN (sN σ (i3 + 1)).2) x10 hdF4.1 hdF4.2 (by omega) c_da_4_i3 c_dl_4_i3) (cwV 1 hts (gV k459 k189 k190 k2 k191) rfl rfl rfl (by decide +kernel) (by decide)) (fm_preV hZo hK hw hZ hA c_da_4_i3 rfl _) rfl rfl hl.1 rfl (lv_room (Nat.le_of_ble_eq_true rfl)) d_AF_exact_99 ⟨Nat.le_of_ble_eq_true rfl, Nat.le_of_ble_eq_true rfl⟩) (fun x13 q12 => ?_)
            rw [dg_ok hvF4 (by omega), hx10] at q12
            refine fm_i2l S (by omega) d_AF_exact_102 ?_
            refine lv_goto (tgt := 109) hx hb d_AF_exact_103 (by decide) ?_
            refine fm_lretS S hr hlocks d_AF_exact_109 ?_
            rw [hsp, if_neg (by omega), if_neg (by omega), if_neg (by omega), if_pos (by omega)]
            exact q12
      · exfalso
        rw [hsp, if_pos (by assumption)] at h0
        cases h0
    · refine lv_ldc2 (v := jN (-1)) hx hb hown (hts _ k391) d_AF_exact_14 ?_
      refine fm_lretS S hr hlocks d_AF_exact_17 ?_
      unfold sp_exact
      rw [if_pos (Or.inr (by omega))]
  · rw [if_neg hki3] at q1
    subst q1
    show W p l e _ s m _ below meth c _ _ _ _ _ (F0 m 5 ls [.null])
    refine lv_astore_nN (lv' := [(3, .null), (0, .ref x), (1, .int (iN (n))), (2, .int (iN (side)))]) hx hb d_AF_exact_5 rfl hl (by decide) rfl (fun ls hl => ?_)
    refine lv_aload_nN hx hb d_AF_exact_6 rfl (lv_at hl 0 rfl) ?_
    refine lv_ifnullN (tgt := 14) hx hb d_AF_exact_7 (by decide) ?_
    refine lv_ldc2 (v := jN (-1)) hx hb hown (hts _ k391) d_AF_exact_14 ?_
    refine fm_lretS S hr hlocks d_AF_exact_17 ?_
    unfold sp_exact
    rw [if_pos (Or.inl hki3)]
