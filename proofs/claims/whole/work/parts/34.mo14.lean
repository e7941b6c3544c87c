set_option maxHeartbeats 4000000 in
set_option maxRecDepth 100000 in
/-- left(r, was) -/
theorem t_Mo_left (l : Launch) (D : va_G) (cs : Nat → ClassId) (Z : (Nat → Prop) → State → Heap → Prop) (hZo : fm_Zok Z) (ad : Nat → Nat) (μ : fm_Mu) (V : Nat → Int) (M : Nat → Int → Int) (sz : Nat) (r : Int) (was : Int) (most : Nat) (x : Int) (y : Int) (sc : Int) (hM : moS cs μ ad V M) (hr20 : 1 ≤ r ∧ r ≤ 20) (h22 : 0 ≤ M 2 2 ∧ M 2 2 ≤ 320) (hY : Rv M 4 y) (hvy : vB y) (hX : Rv M 3 x) (hvx : vB x) (hR : M 12 r = sc) (hsc : 0 ≤ sc ∧ sc ≤ 18) (hj : inJ was) (hpr : V 1 = (most : Int) ∧ 1 ≤ most ∧ most ≤ 31) : Met l y_Mo_left (Cond.code y_Mo_left c_Mo_left 5 (some .long) :: wA) ({ frames := 3, cells := 0, slots := 0, locals := 82 }) (fm_Pc D clsA (tysA cs) Z μ sz [.ref (ad 0), .int (iN (r)), .long (jN (was))]) (moQl D cs ad μ sz (fun z V' M' => z = restS most x y was sc ∧ (∀ k, k ≠ 21 → k ≠ 22 → V' k = V k) ∧ (V' 22 = 0 ∨ V' 22 = 1) ∧ Fr3 M M' ∧ (0 ≤ M' 2 2 ∧ M' 2 2 ≤ 320))) 0 0 (fm_A μ sz) := by
  refine mo_of hM (by decide +kernel) (Nat.le_of_ble_eq_true rfl) (fun p e s m below meth c S hr hlocks hsz hm hK hZ hA ls hl => ?_)
  subst hsz
  obtain ⟨hx, hb, hml, hown, hts⟩ := id S
  have hl : lv_has ls 5 [(0, .ref (ad 0)), (1, .int (iN (r))), (2, .long (jN (was)))] := hl
  refine lv_aload_n hx hb d_Mo_left_0 rfl (lv_at hl 0 rfl) ?_
  refine lv_aload_n hx hb d_Mo_left_1 rfl (lv_at hl 0 rfl) ?_
  refine mo_get 16 S hK hm (by decide) k482 rfl rfl d_Mo_left_2 ?_
  refine lv_iload_n hx hb d_Mo_left_5 rfl (lv_at hl 1 rfl) ?_
  refine mo_iald 12 S hK hm (by decide) (by simp only [moLen]; omega) d_Mo_left_6 ?_
  refine fm_iconst S d_Mo_left_7 ?_
  refine fm_bipush S d_Mo_left_8 (by decide) ?_
  refine mo_ci (n := 3) (As := [.int (iN ((M 12 r))), .int (iN (0)), .int (iN (18))]) (rest := []) S hK hZo hZ hA hm (fun μ sz hM => t_Mo_round l D cs Z hZo ad μ V M sz (M 12 r) 0 18 18 y hM (by omega) (by omega) hY hvy (by omega) (by omega)) (gV k663 k665 ks41 k6 k666) (by decide) (by decide +kernel) rfl hl.1 rfl (Nat.le_of_ble_eq_true rfl) ⟨Nat.le_of_ble_eq_true rfl, Nat.le_of_ble_eq_true rfl⟩ d_Mo_left_10 (fun x2 V3 M4 H locs q1 hm => ?_)
  obtain ⟨hzx2, -, hM1, hVkx2, hlx2, hrx2⟩ := q1.resolve_left (fun q => absurd q.2.1 (by decide))
  rw [hM1] at hm
  have hpr : V3 1 = (most : Int) ∧ 1 ≤ most ∧ most ≤ 31 := by rw [hVkx2 1 (by decide) (by decide)]; exact hpr
  refine fm_if_eq (tgt := 18) S (by omega) d_Mo_left_13 (by decide) (fun c5 => ?_) (fun c5 => ?_)
  · have hv1 := hvy.1
    have hv2 := hvy.2.1
    have hv3 := hvy.2.2
    have hx1 := hvx.1
    refine lv_aload_n hx hb d_Mo_left_18 rfl (lv_at hl 0 rfl) ?_
    refine fm_iconst S d_Mo_left_19 ?_
    refine fm_iconst S d_Mo_left_20 ?_
    refine mo_cvS (n := 2) (As := [.int (iN (4)), .int (iN (1))]) (rest := []) S hK hZo hZ hA hm (fun μ sz hM => t_Mo_copy l D cs Z hZo ad μ V3 M sz 4 1 (nd (cN y)) (cN y) (cX y) (sgn y) hM hY (by omega)) (gV k587 k589 ks28 k6 k590) (by decide) (by decide +kernel) rfl hl.1 rfl (Nat.le_of_ble_eq_true rfl) ⟨Nat.le_of_ble_eq_true rfl, Nat.le_of_ble_eq_true rfl⟩ d_Mo_left_21 (fun M7 H locs q6 hm => ?_)
    obtain ⟨frM7, rgM7⟩ := q6
    have hB1 : Rv M7 1 y := rgM7
    have e21 := hB1.1
    have e31 := hB1.2.1
    have hX1 : Rv M7 3 x := frM7.rv (by decide) hvx hX
    have hc12 : M7 12 r = sc := by rw [frM7.1 12 (by decide)]; exact hR
    have h22b : 0 ≤ M7 2 2 ∧ M7 2 2 ≤ 320 := by rw [(frM7.2.2 2 (by decide)).1]; exact h22
    have hx0 : nd (cN y) = 0 → uR y sc = 0 := fun h => by rw [ndc_0 h]; exact uR_0
    have hx2 : nd (cN y) ≠ 0 → (-sc ≤ cX y ↔ uR y sc = 0) := fun h => by
      rw [cX_dvd (fun e => h (by rw [e]; exact nz_0)) (by omega), show (-sc + 300).toNat = (300 - sc).toNat by omega]
      exact Iff.rfl
    have hF1 := frM7.o3 (by decide)
    refine fm_iconst S d_Mo_left_24 ?_
    refine lv_aload_n hx hb d_Mo_left_25 rfl (lv_at hl 0 rfl) ?_
    refine mo_get 16 S hK hm (by decide) k482 rfl rfl d_Mo_left_26 ?_
    refine lv_iload_n hx hb d_Mo_left_29 rfl (lv_at hl 1 rfl) ?_
    refine mo_iald 12 S hK hm (by decide) (by simp only [moLen]; omega) d_Mo_left_30 ?_
    refine fm_isub S d_Mo_left_31 ?_
    refine fm_topi (fun x8 hx8 => ?_)
    refine lv_istore (lv' := [(4, .int (iN (x8))), (0, .ref (ad 0)), (1, .int (iN (r))), (2, .long (jN (was)))]) hx hb d_Mo_left_32 hl (by decide) rfl (fun ls hl => ?_)
    refine lv_aload_n hx hb d_Mo_left_34 rfl (lv_at hl 1 rfl) ?_
    refine mo_get 3 S hK hm (by decide) k469 rfl rfl d_Mo_left_35 ?_
    refine fm_iconst S d_Mo_left_38 ?_
    refine mo_iald 2 S hK hm (by decide) (by simp only [moLen]; omega) d_Mo_left_39 ?_
    refine fm_if_le (tgt := 95) S (by omega) d_Mo_left_40 (by decide) (fun c9 => ?_) (fun c9 => ?_)
    · refine lv_aload_n hx hb d_Mo_left_95 rfl (lv_at hl 1 rfl) ?_
      refine mo_get 3 S hK hm (by decide) k469 rfl rfl d_Mo_left_96 ?_
      refine fm_iconst S d_Mo_left_99 ?_
      refine mo_iald 2 S hK hm (by decide) (by simp only [moLen]; omega) d_Mo_left_100 ?_
      refine fm_if_ne (tgt := 109) S (by omega) d_Mo_left_101 (by decide) (fun c10 => ?_) (fun c10 => ?_)
      · have hB2 : Rw M7 1 (trV y sc) := by rw [tr_same (by omega)]; exact hB1.w hvy
        refine lv_aload_n hx hb d_Mo_left_109 rfl (lv_at hl 1 rfl) ?_
        refine fm_iconst S d_Mo_left_110 ?_
        refine fm_iconst S d_Mo_left_111 ?_
        refine mo_cvS (n := 2) (As := [.int (iN (3)), .int (iN (0))]) (rest := []) S hK hZo hZ hA hm (fun μ sz hM => t_Mo_copy l D cs Z hZo ad μ V3 M7 sz 3 0 (nd (cN x)) (cN x) (cX x) (sgn x) hM hX1 (by omega)) (gV k587 k589 ks28 k6 k590) (by decide) (by decide +kernel) rfl hl.1 rfl (Nat.le_of_ble_eq_true rfl) ⟨Nat.le_of_ble_eq_true rfl, Nat.le_of_ble_eq_true rfl⟩ d_Mo_left_112 (fun M12 H locs q11 hm => ?_)
        obtain ⟨frM12, rgM12⟩ := q11
        have hX1 : Rv M12 3 x := frM12.rv (by decide) hvx hX1
        have hc12 : M12 12 r = sc := by rw [frM12.1 12 (by decide)]; exact hc12
        have hF1 := hF1.tr (frM12.o3 (by decide))
        have h22b : 0 ≤ M12 2 2 ∧ M12 2 2 ≤ 320 := by rw [(frM12.2.2 2 (by decide)).1]; exact h22b
        have hA2 : Rw M12 0 x := Rv.w rgM12 hvx
        have hB2 := frM12.rw (r' := 1) (by decide) hB2
        obtain ⟨na, NA, xa, sa, ga, va, na3, na4, na5, na6, na7, na8, na9⟩ := hA2
        obtain ⟨nb, NB, xb, sb, gb, vb, nb3, nb4, nb5, nb6, nb7, nb8, nb9⟩ := hB2
        refine lv_aload_n hx hb d_Mo_left_115 rfl (lv_at hl 1 rfl) ?_
        refine mo_ciS (n := 0) (As := []) (rest := []) S hK hZo hZ hA hm (fun μ sz hM => t_Mo_multiply l D cs Z hZo ad μ V3 M12 sz most na NA nb NB xa sa xb sb hM ga gb (by omega) (by omega) hpr) (gV k603 k605 ks32 k6 k606) (by decide) (by decide +kernel) rfl hl.1 rfl (Nat.le_of_ble_eq_true rfl) ⟨Nat.le_of_ble_eq_true rfl, Nat.le_of_ble_eq_true rfl⟩ d_Mo_left_116 (fun x15 M14 H locs q13 hm => ?_)
        have frM14 := q13.1
        have rsM14 := mul_resW hpr.2 va vb na9 nb9 (by omega) (by omega) q13.2
        have hX1 : Rv M14 3 x := frM14.rv (by decide) hvx hX1
        have hc12 : M14 12 r = sc := by rw [frM14.1 12 (by decide)]; exact hc12
        have hF1 := hF1.tr (frM14.o3 (by decide))
        have hmn := sMul_nd (a := x) (b := trV y sc) hpr.2
        have hm1 := hmn.1
        have hm2 := hmn.2.1
        rw [← rsM14.1] at hm1 hm2
        have h22b := rsM14.2.2
        refine fm_if_eq (tgt := 124) S (by omega) d_Mo_left_119 (by decide) (fun c16 => ?_) (fun c16 => ?_)
        · have hC2 := rsM14.2.1 c16
          have hm31 := hmn.2.2.1.1
          refine lv_aload_n hx hb d_Mo_left_124 rfl (lv_at hl 1 rfl) ?_
          refine fm_iconst S d_Mo_left_125 ?_
          refine fm_iconst S d_Mo_left_126 ?_
          refine mo_cvS (n := 2) (As := [.int (iN (2)), .int (iN (1))]) (rest := []) S hK hZo hZ hA hm (fun μ sz hM => t_Mo_copy l D cs Z hZo ad μ V3 M14 sz 2 1 (nd (cN (sMul most x (trV y sc)).2)) (cN (sMul most x (trV y sc)).2) (cX (sMul most x (trV y sc)).2) (sgn (sMul most x (trV y sc)).2) hM hC2 (by omega)) (gV k587 k589 ks28 k6 k590) (by decide) (by decide +kernel) rfl hl.1 rfl (Nat.le_of_ble_eq_true rfl) ⟨Nat.le_of_ble_eq_true rfl, Nat.le_of_ble_eq_true rfl⟩ d_Mo_left_127 (fun M18 H locs q17 hm => ?_)
          obtain ⟨frM18, rgM18⟩ := q17
          have hX1 : Rv M18 3 x := frM18.rv (by decide) hvx hX1
          have hc12 : M18 12 r = sc := by rw [frM18.1 12 (by decide)]; exact hc12
          have hF1 := hF1.tr (frM18.o3 (by decide))
          have h22b : 0 ≤ M18 2 2 ∧ M18 2 2 ≤ 320 := by rw [(frM18.2.2 2 (by decide)).1]; exact h22b
          have h41 := rgM18.2.2.1
          have h42 := sgn_in (sMul most x (trV y sc)).2
          refine lv_aload_n hx hb d_Mo_left_130 rfl (lv_at hl 1 rfl) ?_
          refine mo_get 5 S hK hm (by decide) k471 rfl rfl d_Mo_left_131 ?_
          refine fm_iconst S d_Mo_left_134 ?_
          refine fm_iconst S d_Mo_left_135 ?_
          refine lv_aload_n hx hb d_Mo_left_136 rfl (lv_at hl 1 rfl) ?_
          refine mo_get 5 S hK hm (by decide) k471 rfl rfl d_Mo_left_137 ?_
          refine fm_iconst S d_Mo_left_140 ?_
          refine mo_iald 4 S hK hm (by decide) (by simp only [moLen]; omega) d_Mo_left_141 ?_
          refine fm_isub S d_Mo_left_142 ?_
          refine mo_iast 4 S hK hm (by decide) (by simp only [moLen]; omega) d_Mo_left_143 (fun M19 H locs eM19 hm => ?_)
          have hB3 : Rv M19 1 (-(sMul most x (trV y sc)).2) := Rv.neg rgM18 eM19 (by rw [h41]; omega)
          have frM19 := Fr.s eM19 (by decide)
          have hX1 : Rv M19 3 x := frM19.rv (by decide) hvx hX1
          have hc12 : M19 12 r = sc := by rw [frM19.1 12 (by decide)]; exact hc12
          have hF1 := hF1.tr (frM19.o3 (by decide))
          have h22b : 0 ≤ M19 2 2 ∧ M19 2 2 ≤ 320 := by rw [(frM19.2.2 2 (by decide)).1]; exact h22b
          refine lv_aload_n hx hb d_Mo_left_144 rfl (lv_at hl 1 rfl) ?_
          refine lv_lload_n hx hb d_Mo_left_145 rfl (lv_at hl 3 rfl) ?_
          refine lv_iload hx hb d_Mo_left_146 (lv_at hl 0 rfl) ?_
          refine fm_iconst S d_Mo_left_148 ?_
          refine mo_cvS (n := 3) (As := [.long (jN (was)), .int (iN (x8)), .int (iN (0))]) (rest := []) S hK hZo hZ hA hm (fun μ sz hM => t_Mo_whole l D cs Z hZo ad μ V3 M19 sz was x8 0 hM (by omega) (by omega)) (gV k546 k548 ks19 k6 k549) (by decide) (by decide +kernel) rfl hl.1 rfl (Nat.le_of_ble_eq_true rfl) ⟨Nat.le_of_ble_eq_true rfl, Nat.le_of_ble_eq_true rfl⟩ d_Mo_left_149 (fun M21 H locs q20 hm => ?_)
          obtain ⟨frM21, rgM21⟩ := q20
          have hX1 : Rv M21 3 x := frM21.rv (by decide) hvx hX1
          have hc12 : M21 12 r = sc := by rw [frM21.1 12 (by decide)]; exact hc12
          have hF1 := hF1.tr (frM21.o3 (by decide))
          have h22b : 0 ≤ M21 2 2 ∧ M21 2 2 ≤ 320 := by rw [(frM21.2.2 2 (by decide)).1]; exact h22b
          rw [show x8 = 0 - sc by omega] at rgM21
          have hA3 := whole_rw rgM21 hsc hj
          have hB3 := frM21.rv (r' := 1) (by decide) (vB_neg hmn.2.2.1) hB3
          obtain ⟨na, NA, xa, sa, ga, va, na3, na4, na5, na6, na7, na8, na9⟩ := hA3
          obtain ⟨nb, NB, xb, sb, gb, vb, nb3, nb4, nb5, nb6, nb7, nb8, nb9⟩ := (hB3.w (vB_neg hmn.2.2.1))
          refine lv_aload_n hx hb d_Mo_left_152 rfl (lv_at hl 1 rfl) ?_
          refine mo_ciS (n := 0) (As := []) (rest := []) S hK hZo hZ hA hm (fun μ sz hM => t_Mo_add l D cs Z hZo ad μ V3 M21 sz most na NA nb NB xa sa xb sb hM ga gb (by omega) (fun h => na9 (na8 h)) (fun h => nb9 (nb8 h)) (by omega) hpr) (gV k583 k585 ks27 k6 k586) (by decide) (by decide +kernel) rfl hl.1 rfl (Nat.le_of_ble_eq_true rfl) ⟨Nat.le_of_ble_eq_true rfl, Nat.le_of_ble_eq_true rfl⟩ d_Mo_left_153 (fun x24 M23 H locs q22 hm => ?_)
          have frM23 := q22.1
          have rsM23 := add_resW (a := (hV was sc)) (b := (-(sMul most x (trV y sc)).2)) hpr.2 (by obtain ⟨N, x, sg, r1, r2, r3⟩ := q22.2; exact ⟨N, x, sg, r1, by rw [r2, va, vb], r3⟩)
          have hX1 : Rv M23 3 x := frM23.rv (by decide) hvx hX1
          have hc12 : M23 12 r = sc := by rw [frM23.1 12 (by decide)]; exact hc12
          have hF1 := hF1.tr (frM23.o3 (by decide))
          have hdn := sAdd_nd (a := hV was sc) (b := -(sMul most x (trV y sc)).2) hpr.2
          have hd1 := hdn.1
          have hd2 := hdn.2.1
          rw [← rsM23.1] at hd1 hd2
          have h22b := rsM23.2.2
          refine fm_if_eq (tgt := 161) S (by omega) d_Mo_left_156 (by decide) (fun c25 => ?_) (fun c25 => ?_)
          · have hC3 := rsM23.2.1 c25
            have hd31 := hdn.2.2.1.1
            refine lv_aload_n hx hb d_Mo_left_161 rfl (lv_at hl 1 rfl) ?_
            refine fm_iconst S d_Mo_left_162 ?_
            refine fm_iconst S d_Mo_left_163 ?_
            refine mo_cvS (n := 2) (As := [.int (iN (2)), .int (iN (4))]) (rest := []) S hK hZo hZ hA hm (fun μ sz hM => t_Mo_copy l D cs Z hZo ad μ V3 M23 sz 2 4 (nd (cN (sAdd most (hV was sc) (-(sMul most x (trV y sc)).2)).2)) (cN (sAdd most (hV was sc) (-(sMul most x (trV y sc)).2)).2) (cX (sAdd most (hV was sc) (-(sMul most x (trV y sc)).2)).2) (sgn (sAdd most (hV was sc) (-(sMul most x (trV y sc)).2)).2) hM hC3 (by omega)) (gV k587 k589 ks28 k6 k590) (by decide) (by decide +kernel) rfl hl.1 rfl (Nat.le_of_ble_eq_true rfl) ⟨Nat.le_of_ble_eq_true rfl, Nat.le_of_ble_eq_true rfl⟩ d_Mo_left_164 (fun M27 H locs q26 hm => ?_)
            obtain ⟨frM27, rgM27⟩ := q26
            have hX1 : Rv M27 3 x := frM27.rv (by decide) hvx hX1
            have hc12 : M27 12 r = sc := by rw [frM27.1 12 (by decide)]; exact hc12
            have hF1 := hF1.tr (frM27.o3 (by decide))
            have h22b : 0 ≤ M27 2 2 ∧ M27 2 2 ≤ 320 := by rw [(frM27.2.2 2 (by decide)).1]; exact h22b
            refine lv_aload_n hx hb d_Mo_left_167 rfl (lv_at hl 1 rfl) ?_
            refine lv_aload_n hx hb d_Mo_left_168 rfl (lv_at hl 1 rfl) ?_
            refine mo_get 16 S hK hm (by decide) k482 rfl rfl d_Mo_left_169 ?_
            refine lv_iload_n hx hb d_Mo_left_172 rfl (lv_at hl 2 rfl) ?_
            refine mo_iald 12 S hK hm (by decide) (by simp only [moLen]; omega) d_Mo_left_173 ?_
            refine fm_iconst S d_Mo_left_174 ?_
            refine fm_bipush S d_Mo_left_175 (by decide) ?_
            refine mo_ci (n := 3) (As := [.int (iN ((M27 12 r))), .int (iN (0)), .int (iN (18))]) (rest := []) S hK hZo hZ hA hm (fun μ sz hM => t_Mo_round l D cs Z hZo ad μ V3 M27 sz (M27 12 r) 0 18 18 (sAdd most (hV was sc) (-(sMul most x (trV y sc)).2)).2 hM (by omega) (by omega) rgM27 hdn.2.2.1 (by omega) (by omega)) (gV k663 k665 ks41 k6 k666) (by decide) (by decide +kernel) rfl hl.1 rfl (Nat.le_of_ble_eq_true rfl) ⟨Nat.le_of_ble_eq_true rfl, Nat.le_of_ble_eq_true rfl⟩ d_Mo_left_177 (fun x29 V30 M31 H locs q28 hm => ?_)
            obtain ⟨hzx29, -, hM1, hVkx29, hlx29, hrx29⟩ := q28.resolve_left (fun q => absurd q.2.1 (by decide))
            rw [hM1] at hm
            refine fm_if_eq (tgt := 187) S (by omega) d_Mo_left_180 (by decide) (fun c32 => ?_) (fun c32 => ?_)
            · refine lv_aload_n hx hb d_Mo_left_187 rfl (lv_at hl 1 rfl) ?_
              refine mo_get 21 S hK hm (by decide) k487 rfl rfl d_Mo_left_188 ?_
              refine mo_lret S hr hlocks hK hm d_Mo_left_191 ?_
              unfold restS
              rw [if_neg (by rw [← rsM14.1]; exact fun q => q c16), if_neg (by rw [← rsM23.1]; exact fun q => q c25)]
              refine ⟨?_, fun k a b => (hVkx29 k a b).trans (hVkx2 k a b), by rw [hlx29]; split <;> simp, hF1, h22b⟩
              rw [hrx29, rW_0, hc12]; rfl
            · exfalso; omega
          · refine fm_lconst0 S d_Mo_left_159 ?_
            refine mo_lret S hr hlocks hK hm d_Mo_left_160 ?_
            unfold restS
            rw [if_neg (by rw [← rsM14.1]; exact fun q => q c16), if_pos (by rw [← rsM23.1]; exact c25)]
            exact ⟨rfl, fun k a b => hVkx2 k a b, by rw [hlx2]; split <;> simp, hF1, h22b⟩
        · refine fm_lconst0 S d_Mo_left_122 ?_
          refine mo_lret S hr hlocks hK hm d_Mo_left_123 ?_
          unfold restS
          rw [if_pos (by rw [← rsM14.1]; exact c16)]
          exact ⟨rfl, fun k a b => hVkx2 k a b, by rw [hlx2]; split <;> simp, hF1, h22b⟩
      · refine lv_aload_n hx hb d_Mo_left_104 rfl (lv_at hl 1 rfl) ?_
        refine fm_iconst S d_Mo_left_105 ?_
        refine mo_cvS (n := 1) (As := [.int (iN (1))]) (rest := []) S hK hZo hZ hA hm (fun μ sz hM => t_Mo_zero l D cs Z hZo ad μ V3 M7 sz 1 hM (by omega)) (gV k550 k552 ks20 k6 k553) (by decide) (by decide +kernel) rfl hl.1 rfl (Nat.le_of_ble_eq_true rfl) ⟨Nat.le_of_ble_eq_true rfl, Nat.le_of_ble_eq_true rfl⟩ d_Mo_left_106 (fun M34 H locs q33 hm => ?_)
        obtain ⟨frM34, rgM34⟩ := q33
        have hX1 : Rv M34 3 x := frM34.rv (by decide) hvx hX1
        have hc12 : M34 12 r = sc := by rw [frM34.1 12 (by decide)]; exact hc12
        have h22b : 0 ≤ M34 2 2 ∧ M34 2 2 ≤ 320 := by rw [(frM34.2.2 2 (by decide)).1]; exact h22b
        have hF1 := hF1.tr (frM34.o3 (by decide))
        have hB2 : Rw M34 1 (trV y sc) := by
          rw [show trV y sc = 0 by first | exact tr_zero hsc (by omega) | (rw [tr_same (hx0 (by omega))]; exact ndc_0 (by omega))]
          exact (Rv.zero rgM34).w vB_0
        refine lv_aload_n hx hb d_Mo_left_109 rfl (lv_at hl 1 rfl) ?_
        refine fm_iconst S d_Mo_left_110 ?_
        refine fm_iconst S d_Mo_left_111 ?_
        refine mo_cvS (n := 2) (As := [.int (iN (3)), .int (iN (0))]) (rest := []) S hK hZo hZ hA hm (fun μ sz hM => t_Mo_copy l D cs Z hZo ad μ V3 M34 sz 3 0 (nd (cN x)) (cN x) (cX x) (sgn x) hM hX1 (by omega)) (gV k587 k589 ks28 k6 k590) (by decide) (by decide +kernel) rfl hl.1 rfl (Nat.le_of_ble_eq_true rfl) ⟨Nat.le_of_ble_eq_true rfl, Nat.le_of_ble_eq_true rfl⟩ d_Mo_left_112 (fun M36 H locs q35 hm => ?_)
        obtain ⟨frM36, rgM36⟩ := q35
        have hX1 : Rv M36 3 x := frM36.rv (by decide) hvx hX1
        have hc12 : M36 12 r = sc := by rw [frM36.1 12 (by decide)]; exact hc12
        have hF1 := hF1.tr (frM36.o3 (by decide))
        have h22b : 0 ≤ M36 2 2 ∧ M36 2 2 ≤ 320 := by rw [(frM36.2.2 2 (by decide)).1]; exact h22b
        have hA2 : Rw M36 0 x := Rv.w rgM36 hvx
        have hB2 := frM36.rw (r' := 1) (by decide) hB2
        obtain ⟨na, NA, xa, sa, ga, va, na3, na4, na5, na6, na7, na8, na9⟩ := hA2
        obtain ⟨nb, NB, xb, sb, gb, vb, nb3, nb4, nb5, nb6, nb7, nb8, nb9⟩ := hB2
        refine lv_aload_n hx hb d_Mo_left_115 rfl (lv_at hl 1 rfl) ?_
        refine mo_ciS (n := 0) (As := []) (rest := []) S hK hZo hZ hA hm (fun μ sz hM => t_Mo_multiply l D cs Z hZo ad μ V3 M36 sz most na NA nb NB xa sa xb sb hM ga gb (by omega) (by omega) hpr) (gV k603 k605 ks32 k6 k606) (by decide) (by decide +kernel) rfl hl.1 rfl (Nat.le_of_ble_eq_true rfl) ⟨Nat.le_of_ble_eq_true rfl, Nat.le_of_ble_eq_true rfl⟩ d_Mo_left_116 (fun x39 M38 H locs q37 hm => ?_)
        have frM38 := q37.1
        have rsM38 := mul_resW hpr.2 va vb na9 nb9 (by omega) (by omega) q37.2
        have hX1 : Rv M38 3 x := frM38.rv (by decide) hvx hX1
        have hc12 : M38 12 r = sc := by rw [frM38.1 12 (by decide)]; exact hc12
        have hF1 := hF1.tr (frM38.o3 (by decide))
        have hmn := sMul_nd (a := x) (b := trV y sc) hpr.2
        have hm1 := hmn.1
        have hm2 := hmn.2.1
        rw [← rsM38.1] at hm1 hm2
        have h22b := rsM38.2.2
        refine fm_if_eq (tgt := 124) S (by omega) d_Mo_left_119 (by decide) (fun c40 => ?_) (fun c40 => ?_)
        · have hC2 := rsM38.2.1 c40
          have hm31 := hmn.2.2.1.1
          refine lv_aload_n hx hb d_Mo_left_124 rfl (lv_at hl 1 rfl) ?_
          refine fm_iconst S d_Mo_left_125 ?_
          refine fm_iconst S d_Mo_left_126 ?_
          refine mo_cvS (n := 2) (As := [.int (iN (2)), .int (iN (1))]) (rest := []) S hK hZo hZ hA hm (fun μ sz hM => t_Mo_copy l D cs Z hZo ad μ V3 M38 sz 2 1 (nd (cN (sMul most x (trV y sc)).2)) (cN (sMul most x (trV y sc)).2) (cX (sMul most x (trV y sc)).2) (sgn (sMul most x (trV y sc)).2) hM hC2 (by omega)) (gV k587 k589 ks28 k6 k590) (by decide) (by decide +kernel) rfl hl.1 rfl (Nat.le_of_ble_eq_true rfl) ⟨Nat.le_of_ble_eq_true rfl, Nat.le_of_ble_eq_true rfl⟩ d_Mo_left_127 (fun M42 H locs q41 hm => ?_)
          obtain ⟨frM42, rgM42⟩ := q41
          have hX1 : Rv M42 3 x := frM42.rv (by decide) hvx hX1
          have hc12 : M42 12 r = sc := by rw [frM42.1 12 (by decide)]; exact hc12
          have hF1 := hF1.tr (frM42.o3 (by decide))
          have h22b : 0 ≤ M42 2 2 ∧ M42 2 2 ≤ 320 := by rw [(frM42.2.2 2 (by decide)).1]; exact h22b
          have h41 := rgM42.2.2.1
          have h42 := sgn_in (sMul most x (trV y sc)).2
          refine lv_aload_n hx hb d_Mo_left_130 rfl (lv_at hl 1 rfl) ?_
          refine mo_get 5 S hK hm (by decide) k471 rfl rfl d_Mo_left_131 ?_
          refine fm_iconst S d_Mo_left_134 ?_
          refine fm_iconst S d_Mo_left_135 ?_
          refine lv_aload_n hx hb d_Mo_left_136 rfl (lv_at hl 1 rfl) ?_
          refine mo_get 5 S hK hm (by decide) k471 rfl rfl d_Mo_left_137 ?_
          refine fm_iconst S d_Mo_left_140 ?_
          refine mo_iald 4 S hK hm (by decide) (by simp only [moLen]; omega) d_Mo_left_141 ?_
          refine fm_isub S d_Mo_left_142 ?_
          refine mo_iast 4 S hK hm (by decide) (by simp only [moLen]; omega) d_Mo_left_143 (fun M43 H locs eM43 hm => ?_)
          have hB3 : Rv M43 1 (-(sMul most x (trV y sc)).2) := Rv.neg rgM42 eM43 (by rw [h41]; omega)
          have frM43 := Fr.s eM43 (by decide)
          have hX1 : Rv M43 3 x := frM43.rv (by decide) hvx hX1
          have hc12 : M43 12 r = sc := by rw [frM43.1 12 (by decide)]; exact hc12
          have hF1 := hF1.tr (frM43.o3 (by decide))
          have h22b : 0 ≤ M43 2 2 ∧ M43 2 2 ≤ 320 := by rw [(frM43.2.2 2 (by decide)).1]; exact h22b
          refine lv_aload_n hx hb d_Mo_left_144 rfl (lv_at hl 1 rfl) ?_
          refine lv_lload_n hx hb d_Mo_left_145 rfl (lv_at hl 3 rfl) ?_
          refine lv_iload hx hb d_Mo_left_146 (lv_at hl 0 rfl) ?_
          refine fm_iconst S d_Mo_left_148 ?_
          refine mo_cvS (n := 3) (As := [.long (jN (was)), .int (iN (x8)), .int (iN (0))]) (rest := []) S hK hZo hZ hA hm (fun μ sz hM => t_Mo_whole l D cs Z hZo ad μ V3 M43 sz was x8 0 hM (by omega) (by omega)) (gV k546 k548 ks19 k6 k549) (by decide) (by decide +kernel) rfl hl.1 rfl (Nat.le_of_ble_eq_true rfl) ⟨Nat.le_of_ble_eq_true rfl, Nat.le_of_ble_eq_true rfl⟩ d_Mo_left_149 (fun M45 H locs q44 hm => ?_)
          obtain ⟨frM45, rgM45⟩ := q44
          have hX1 : Rv M45 3 x := frM45.rv (by decide) hvx hX1
          have hc12 : M45 12 r = sc := by rw [frM45.1 12 (by decide)]; exact hc12
          have hF1 := hF1.tr (frM45.o3 (by decide))
          have h22b : 0 ≤ M45 2 2 ∧ M45 2 2 ≤ 320 := by rw [(frM45.2.2 2 (by decide)).1]; exact h22b
          rw [show x8 = 0 - sc by omega] at rgM45
          have hA3 := whole_rw rgM45 hsc hj
          have hB3 := frM45.rv (r' := 1) (by decide) (vB_neg hmn.2.2.1) hB3
          obtain ⟨na, NA, xa, sa, ga, va, na3, na4, na5, na6, na7, na8, na9⟩ := hA3
          obtain ⟨nb, NB, xb, sb, gb, vb, nb3, nb4, nb5, nb6, nb7, nb8, nb9⟩ := (hB3.w (vB_neg hmn.2.2.1))
          refine lv_aload_n hx hb d_Mo_left_152 rfl (lv_at hl 1 rfl) ?_
          refine mo_ciS (n := 0) (As := []) (rest := []) S hK hZo hZ hA hm (fun μ sz hM => t_Mo_add l D cs Z hZo ad μ V3 M45 sz most na NA nb NB xa sa xb sb hM ga gb (by omega) (fun h => na9 (na8 h)) (fun h => nb9 (nb8 h)) (by omega) hpr) (gV k583 k585 ks27 k6 k586) (by decide) (by decide +kernel) rfl hl.1 rfl (Nat.le_of_ble_eq_true rfl) ⟨Nat.le_of_ble_eq_true rfl, Nat.le_of_ble_eq_true rfl⟩ d_Mo_left_153 (fun x48 M47 H locs q46 hm => ?_)
          have frM47 := q46.1
          have rsM47 := add_resW (a := (hV was sc)) (b := (-(sMul most x (trV y sc)).2)) hpr.2 (by obtain ⟨N, x, sg, r1, r2, r3⟩ := q46.2; exact ⟨N, x, sg, r1, by rw [r2, va, vb], r3⟩)
          have hX1 : Rv M47 3 x := frM47.rv (by decide) hvx hX1
          have hc12 : M47 12 r = sc := by rw [frM47.1 12 (by decide)]; exact hc12
          have hF1 := hF1.tr (frM47.o3 (by decide))
          have hdn := sAdd_nd (a := hV was sc) (b := -(sMul most x (trV y sc)).2) hpr.2
          have hd1 := hdn.1
          have hd2 := hdn.2.1
          rw [← rsM47.1] at hd1 hd2
          have h22b := rsM47.2.2
          refine fm_if_eq (tgt := 161) S (by omega) d_Mo_left_156 (by decide) (fun c49 => ?_) (fun c49 => ?_)
          · have hC3 := rsM47.2.1 c49
            have hd31 := hdn.2.2.1.1
            refine lv_aload_n hx hb d_Mo_left_161 rfl (lv_at hl 1 rfl) ?_
            refine fm_iconst S d_Mo_left_162 ?_
            refine fm_iconst S d_Mo_left_163 ?_
            refine mo_cvS (n := 2) (As := [.int (iN (2)), .int (iN (4))]) (rest := []) S hK hZo hZ hA hm (fun μ sz hM => t_Mo_copy l D cs Z hZo ad μ V3 M47 sz 2 4 (nd (cN (sAdd most (hV was sc) (-(sMul most x (trV y sc)).2)).2)) (cN (sAdd most (hV was sc) (-(sMul most x (trV y sc)).2)).2) (cX (sAdd most (hV was sc) (-(sMul most x (trV y sc)).2)).2) (sgn (sAdd most (hV was sc) (-(sMul most x (trV y sc)).2)).2) hM hC3 (by omega)) (gV k587 k589 ks28 k6 k590) (by decide) (by decide +kernel) rfl hl.1 rfl (Nat.le_of_ble_eq_true rfl) ⟨Nat.le_of_ble_eq_true rfl, Nat.le_of_ble_eq_true rfl⟩ d_Mo_left_164 (fun M51 H locs q50 hm => ?_)
            obtain ⟨frM51, rgM51⟩ := q50
            have hX1 : Rv M51 3 x := frM51.rv (by decide) hvx hX1
            have hc12 : M51 12 r = sc := by rw [frM51.1 12 (by decide)]; exact hc12
            have hF1 := hF1.tr (frM51.o3 (by decide))
            have h22b : 0 ≤ M51 2 2 ∧ M51 2 2 ≤ 320 := by rw [(frM51.2.2 2 (by decide)).1]; exact h22b
            refine lv_aload_n hx hb d_Mo_left_167 rfl (lv_at hl 1 rfl) ?_
            refine lv_aload_n hx hb d_Mo_left_168 rfl (lv_at hl 1 rfl) ?_
            refine mo_get 16 S hK hm (by decide) k482 rfl rfl d_Mo_left_169 ?_
            refine lv_iload_n hx hb d_Mo_left_172 rfl (lv_at hl 2 rfl) ?_
            refine mo_iald 12 S hK hm (by decide) (by simp only [moLen]; omega) d_Mo_left_173 ?_
            refine fm_iconst S d_Mo_left_174 ?_
            refine fm_bipush S d_Mo_left_175 (by decide) ?_
            refine mo_ci (n := 3) (As := [.int (iN ((M51 12 r))), .int (iN (0)), .int (iN (18))]) (rest := []) S hK hZo hZ hA hm (fun μ sz hM => t_Mo_round l D cs Z hZo ad μ V3 M51 sz (M51 12 r) 0 18 18 (sAdd most (hV was sc) (-(sMul most x (trV y sc)).2)).2 hM (by omega) (by omega) rgM51 hdn.2.2.1 (by omega) (by omega)) (gV k663 k665 ks41 k6 k666) (by decide) (by decide +kernel) rfl hl.1 rfl (Nat.le_of_ble_eq_true rfl) ⟨Nat.le_of_ble_eq_true rfl, Nat.le_of_ble_eq_true rfl⟩ d_Mo_left_177 (fun x53 V54 M55 H locs q52 hm => ?_)
            obtain ⟨hzx53, -, hM1, hVkx53, hlx53, hrx53⟩ := q52.resolve_left (fun q => absurd q.2.1 (by decide))
            rw [hM1] at hm
            refine fm_if_eq (tgt := 187) S (by omega) d_Mo_left_180 (by decide) (fun c56 => ?_) (fun c56 => ?_)
            · refine lv_aload_n hx hb d_Mo_left_187 rfl (lv_at hl 1 rfl) ?_
              refine mo_get 21 S hK hm (by decide) k487 rfl rfl d_Mo_left_188 ?_
              refine mo_lret S hr hlocks hK hm d_Mo_left_191 ?_
              unfold restS
              rw [if_neg (by rw [← rsM38.1]; exact fun q => q c40), if_neg (by rw [← rsM47.1]; exact fun q => q c49)]
              refine ⟨?_, fun k a b => (hVkx53 k a b).trans (hVkx2 k a b), by rw [hlx53]; split <;> simp, hF1, h22b⟩
              rw [hrx53, rW_0, hc12]; rfl
            · exfalso; omega
          · refine fm_lconst0 S d_Mo_left_159 ?_
            refine mo_lret S hr hlocks hK hm d_Mo_left_160 ?_
            unfold restS
            rw [if_neg (by rw [← rsM38.1]; exact fun q => q c40), if_pos (by rw [← rsM47.1]; exact c49)]
            exact ⟨rfl, fun k a b => hVkx2 k a b, by rw [hlx2]; split <;> simp, hF1, h22b⟩
        · refine fm_lconst0 S d_Mo_left_122 ?_
          refine mo_lret S hr hlocks hK hm d_Mo_left_123 ?_
          unfold restS
          rw [if_pos (by rw [← rsM38.1]; exact c40)]
          exact ⟨rfl, fun k a b => hVkx2 k a b, by rw [hlx2]; split <;> simp, hF1, h22b⟩
    · refine lv_aload_n hx hb d_Mo_left_43 rfl (lv_at hl 1 rfl) ?_
      refine mo_get 4 S hK hm (by decide) k470 rfl rfl d_Mo_left_44 ?_
      refine fm_iconst S d_Mo_left_47 ?_
      refine mo_iald 3 S hK hm (by decide) (by simp only [moLen]; omega) d_Mo_left_48 ?_
      refine lv_iload hx hb d_Mo_left_49 (lv_at hl 0 rfl) ?_
      refine fm_icmp_ge (tgt := 95) S (by omega) (by omega) d_Mo_left_51 (by decide) (fun c57 => ?_) (fun c57 => ?_)
      · refine lv_aload_n hx hb d_Mo_left_95 rfl (lv_at hl 1 rfl) ?_
        refine mo_get 3 S hK hm (by decide) k469 rfl rfl d_Mo_left_96 ?_
        refine fm_iconst S d_Mo_left_99 ?_
        refine mo_iald 2 S hK hm (by decide) (by simp only [moLen]; omega) d_Mo_left_100 ?_
        refine fm_if_ne (tgt := 109) S (by omega) d_Mo_left_101 (by decide) (fun c58 => ?_) (fun c58 => ?_)
        · have hB2 : Rw M7 1 (trV y sc) := by rw [tr_same (by omega)]; exact hB1.w hvy
          refine lv_aload_n hx hb d_Mo_left_109 rfl (lv_at hl 1 rfl) ?_
          refine fm_iconst S d_Mo_left_110 ?_
          refine fm_iconst S d_Mo_left_111 ?_
          refine mo_cvS (n := 2) (As := [.int (iN (3)), .int (iN (0))]) (rest := []) S hK hZo hZ hA hm (fun μ sz hM => t_Mo_copy l D cs Z hZo ad μ V3 M7 sz 3 0 (nd (cN x)) (cN x) (cX x) (sgn x) hM hX1 (by omega)) (gV k587 k589 ks28 k6 k590) (by decide) (by decide +kernel) rfl hl.1 rfl (Nat.le_of_ble_eq_true rfl) ⟨Nat.le_of_ble_eq_true rfl, Nat.le_of_ble_eq_true rfl⟩ d_Mo_left_112 (fun M60 H locs q59 hm => ?_)
          obtain ⟨frM60, rgM60⟩ := q59
          have hX1 : Rv M60 3 x := frM60.rv (by decide) hvx hX1
          have hc12 : M60 12 r = sc := by rw [frM60.1 12 (by decide)]; exact hc12
          have hF1 := hF1.tr (frM60.o3 (by decide))
          have h22b : 0 ≤ M60 2 2 ∧ M60 2 2 ≤ 320 := by rw [(frM60.2.2 2 (by decide)).1]; exact h22b
          have hA2 : Rw M60 0 x := Rv.w rgM60 hvx
          have hB2 := frM60.rw (r' := 1) (by decide) hB2
          obtain ⟨na, NA, xa, sa, ga, va, na3, na4, na5, na6, na7, na8, na9⟩ := hA2
          obtain ⟨nb, NB, xb, sb, gb, vb, nb3, nb4, nb5, nb6, nb7, nb8, nb9⟩ := hB2
          refine lv_aload_n hx hb d_Mo_left_115 rfl (lv_at hl 1 rfl) ?_
          refine mo_ciS (n := 0) (As := []) (rest := []) S hK hZo hZ hA hm (fun μ sz hM => t_Mo_multiply l D cs Z hZo ad μ V3 M60 sz most na NA nb NB xa sa xb sb hM ga gb (by omega) (by omega) hpr) (gV k603 k605 ks32 k6 k606) (by decide) (by decide +kernel) rfl hl.1 rfl (Nat.le_of_ble_eq_true rfl) ⟨Nat.le_of_ble_eq_true rfl, Nat.le_of_ble_eq_true rfl⟩ d_Mo_left_116 (fun x63 M62 H locs q61 hm => ?_)
          have frM62 := q61.1
          have rsM62 := mul_resW hpr.2 va vb na9 nb9 (by omega) (by omega) q61.2
          have hX1 : Rv M62 3 x := frM62.rv (by decide) hvx hX1
          have hc12 : M62 12 r = sc := by rw [frM62.1 12 (by decide)]; exact hc12
          have hF1 := hF1.tr (frM62.o3 (by decide))
          have hmn := sMul_nd (a := x) (b := trV y sc) hpr.2
          have hm1 := hmn.1
          have hm2 := hmn.2.1
          rw [← rsM62.1] at hm1 hm2
          have h22b := rsM62.2.2
          refine fm_if_eq (tgt := 124) S (by omega) d_Mo_left_119 (by decide) (fun c64 => ?_) (fun c64 => ?_)
          · have hC2 := rsM62.2.1 c64
            have hm31 := hmn.2.2.1.1
            refine lv_aload_n hx hb d_Mo_left_124 rfl (lv_at hl 1 rfl) ?_
            refine fm_iconst S d_Mo_left_125 ?_
            refine fm_iconst S d_Mo_left_126 ?_
            refine mo_cvS (n := 2) (As := [.int (iN (2)), .int (iN (1))]) (rest := []) S hK hZo hZ hA hm (fun μ sz hM => t_Mo_copy l D cs Z hZo ad μ V3 M62 sz 2 1 (nd (cN (sMul most x (trV y sc)).2)) (cN (sMul most x (trV y sc)).2) (cX (sMul most x (trV y sc)).2) (sgn (sMul most x (trV y sc)).2) hM hC2 (by omega)) (gV k587 k589 ks28 k6 k590) (by decide) (by decide +kernel) rfl hl.1 rfl (Nat.le_of_ble_eq_true rfl) ⟨Nat.le_of_ble_eq_true rfl, Nat.le_of_ble_eq_true rfl⟩ d_Mo_left_127 (fun M66 H locs q65 hm => ?_)
            obtain ⟨frM66, rgM66⟩ := q65
            have hX1 : Rv M66 3 x := frM66.rv (by decide) hvx hX1
            have hc12 : M66 12 r = sc := by rw [frM66.1 12 (by decide)]; exact hc12
            have hF1 := hF1.tr (frM66.o3 (by decide))
            have h22b : 0 ≤ M66 2 2 ∧ M66 2 2 ≤ 320 := by rw [(frM66.2.2 2 (by decide)).1]; exact h22b
            have h41 := rgM66.2.2.1
            have h42 := sgn_in (sMul most x (trV y sc)).2
            refine lv_aload_n hx hb d_Mo_left_130 rfl (lv_at hl 1 rfl) ?_
            refine mo_get 5 S hK hm (by decide) k471 rfl rfl d_Mo_left_131 ?_
            refine fm_iconst S d_Mo_left_134 ?_
            refine fm_iconst S d_Mo_left_135 ?_
            refine lv_aload_n hx hb d_Mo_left_136 rfl (lv_at hl 1 rfl) ?_
            refine mo_get 5 S hK hm (by decide) k471 rfl rfl d_Mo_left_137 ?_
            refine fm_iconst S d_Mo_left_140 ?_
            refine mo_iald 4 S hK hm (by decide) (by simp only [moLen]; omega) d_Mo_left_141 ?_
            refine fm_isub S d_Mo_left_142 ?_
            refine mo_iast 4 S hK hm (by decide) (by simp only [moLen]; omega) d_Mo_left_143 (fun M67 H locs eM67 hm => ?_)
            have hB3 : Rv M67 1 (-(sMul most x (trV y sc)).2) := Rv.neg rgM66 eM67 (by rw [h41]; omega)
            have frM67 := Fr.s eM67 (by decide)
            have hX1 : Rv M67 3 x := frM67.rv (by decide) hvx hX1
            have hc12 : M67 12 r = sc := by rw [frM67.1 12 (by decide)]; exact hc12
            have hF1 := hF1.tr (frM67.o3 (by decide))
            have h22b : 0 ≤ M67 2 2 ∧ M67 2 2 ≤ 320 := by rw [(frM67.2.2 2 (by decide)).1]; exact h22b
            refine lv_aload_n hx hb d_Mo_left_144 rfl (lv_at hl 1 rfl) ?_
            refine lv_lload_n hx hb d_Mo_left_145 rfl (lv_at hl 3 rfl) ?_
            refine lv_iload hx hb d_Mo_left_146 (lv_at hl 0 rfl) ?_
            refine fm_iconst S d_Mo_left_148 ?_
            refine mo_cvS (n := 3) (As := [.long (jN (was)), .int (iN (x8)), .int (iN (0))]) (rest := []) S hK hZo hZ hA hm (fun μ sz hM => t_Mo_whole l D cs Z hZo ad μ V3 M67 sz was x8 0 hM (by omega) (by omega)) (gV k546 k548 ks19 k6 k549) (by decide) (by decide +kernel) rfl hl.1 rfl (Nat.le_of_ble_eq_true rfl) ⟨Nat.le_of_ble_eq_true rfl, Nat.le_of_ble_eq_true rfl⟩ d_Mo_left_149 (fun M69 H locs q68 hm => ?_)
            obtain ⟨frM69, rgM69⟩ := q68
            have hX1 : Rv M69 3 x := frM69.rv (by decide) hvx hX1
            have hc12 : M69 12 r = sc := by rw [frM69.1 12 (by decide)]; exact hc12
            have hF1 := hF1.tr (frM69.o3 (by decide))
            have h22b : 0 ≤ M69 2 2 ∧ M69 2 2 ≤ 320 := by rw [(frM69.2.2 2 (by decide)).1]; exact h22b
            rw [show x8 = 0 - sc by omega] at rgM69
            have hA3 := whole_rw rgM69 hsc hj
            have hB3 := frM69.rv (r' := 1) (by decide) (vB_neg hmn.2.2.1) hB3
            obtain ⟨na, NA, xa, sa, ga, va, na3, na4, na5, na6, na7, na8, na9⟩ := hA3
            obtain ⟨nb, NB, xb, sb, gb, vb, nb3, nb4, nb5, nb6, nb7, nb8, nb9⟩ := (hB3.w (vB_neg hmn.2.2.1))
            refine lv_aload_n hx hb d_Mo_left_152 rfl (lv_at hl 1 rfl) ?_
            refine mo_ciS (n := 0) (As := []) (rest := []) S hK hZo hZ hA hm (fun μ sz hM => t_Mo_add l D cs Z hZo ad μ V3 M69 sz most na NA nb NB xa sa xb sb hM ga gb (by omega) (fun h => na9 (na8 h)) (fun h => nb9 (nb8 h)) (by omega) hpr) (gV k583 k585 ks27 k6 k586) (by decide) (by decide +kernel) rfl hl.1 rfl (Nat.le_of_ble_eq_true rfl) ⟨Nat.le_of_ble_eq_true rfl, Nat.le_of_ble_eq_true rfl⟩ d_Mo_left_153 (fun x72 M71 H locs q70 hm => ?_)
            have frM71 := q70.1
            have rsM71 := add_resW (a := (hV was sc)) (b := (-(sMul most x (trV y sc)).2)) hpr.2 (by obtain ⟨N, x, sg, r1, r2, r3⟩ := q70.2; exact ⟨N, x, sg, r1, by rw [r2, va, vb], r3⟩)
            have hX1 : Rv M71 3 x := frM71.rv (by decide) hvx hX1
            have hc12 : M71 12 r = sc := by rw [frM71.1 12 (by decide)]; exact hc12
            have hF1 := hF1.tr (frM71.o3 (by decide))
            have hdn := sAdd_nd (a := hV was sc) (b := -(sMul most x (trV y sc)).2) hpr.2
            have hd1 := hdn.1
            have hd2 := hdn.2.1
            rw [← rsM71.1] at hd1 hd2
            have h22b := rsM71.2.2
            refine fm_if_eq (tgt := 161) S (by omega) d_Mo_left_156 (by decide) (fun c73 => ?_) (fun c73 => ?_)
            · have hC3 := rsM71.2.1 c73
              have hd31 := hdn.2.2.1.1
              refine lv_aload_n hx hb d_Mo_left_161 rfl (lv_at hl 1 rfl) ?_
              refine fm_iconst S d_Mo_left_162 ?_
              refine fm_iconst S d_Mo_left_163 ?_
              refine mo_cvS (n := 2) (As := [.int (iN (2)), .int (iN (4))]) (rest := []) S hK hZo hZ hA hm (fun μ sz hM => t_Mo_copy l D cs Z hZo ad μ V3 M71 sz 2 4 (nd (cN (sAdd most (hV was sc) (-(sMul most x (trV y sc)).2)).2)) (cN (sAdd most (hV was sc) (-(sMul most x (trV y sc)).2)).2) (cX (sAdd most (hV was sc) (-(sMul most x (trV y sc)).2)).2) (sgn (sAdd most (hV was sc) (-(sMul most x (trV y sc)).2)).2) hM hC3 (by omega)) (gV k587 k589 ks28 k6 k590) (by decide) (by decide +kernel) rfl hl.1 rfl (Nat.le_of_ble_eq_true rfl) ⟨Nat.le_of_ble_eq_true rfl, Nat.le_of_ble_eq_true rfl⟩ d_Mo_left_164 (fun M75 H locs q74 hm => ?_)
              obtain ⟨frM75, rgM75⟩ := q74
              have hX1 : Rv M75 3 x := frM75.rv (by decide) hvx hX1
              have hc12 : M75 12 r = sc := by rw [frM75.1 12 (by decide)]; exact hc12
              have hF1 := hF1.tr (frM75.o3 (by decide))
              have h22b : 0 ≤ M75 2 2 ∧ M75 2 2 ≤ 320 := by rw [(frM75.2.2 2 (by decide)).1]; exact h22b
              refine lv_aload_n hx hb d_Mo_left_167 rfl (lv_at hl 1 rfl) ?_
              refine lv_aload_n hx hb d_Mo_left_168 rfl (lv_at hl 1 rfl) ?_
              refine mo_get 16 S hK hm (by decide) k482 rfl rfl d_Mo_left_169 ?_
              refine lv_iload_n hx hb d_Mo_left_172 rfl (lv_at hl 2 rfl) ?_
              refine mo_iald 12 S hK hm (by decide) (by simp only [moLen]; omega) d_Mo_left_173 ?_
              refine fm_iconst S d_Mo_left_174 ?_
              refine fm_bipush S d_Mo_left_175 (by decide) ?_
              refine mo_ci (n := 3) (As := [.int (iN ((M75 12 r))), .int (iN (0)), .int (iN (18))]) (rest := []) S hK hZo hZ hA hm (fun μ sz hM => t_Mo_round l D cs Z hZo ad μ V3 M75 sz (M75 12 r) 0 18 18 (sAdd most (hV was sc) (-(sMul most x (trV y sc)).2)).2 hM (by omega) (by omega) rgM75 hdn.2.2.1 (by omega) (by omega)) (gV k663 k665 ks41 k6 k666) (by decide) (by decide +kernel) rfl hl.1 rfl (Nat.le_of_ble_eq_true rfl) ⟨Nat.le_of_ble_eq_true rfl, Nat.le_of_ble_eq_true rfl⟩ d_Mo_left_177 (fun x77 V78 M79 H locs q76 hm => ?_)
              obtain ⟨hzx77, -, hM1, hVkx77, hlx77, hrx77⟩ := q76.resolve_left (fun q => absurd q.2.1 (by decide))
              rw [hM1] at hm
              refine fm_if_eq (tgt := 187) S (by omega) d_Mo_left_180 (by decide) (fun c80 => ?_) (fun c80 => ?_)
              · refine lv_aload_n hx hb d_Mo_left_187 rfl (lv_at hl 1 rfl) ?_
                refine mo_get 21 S hK hm (by decide) k487 rfl rfl d_Mo_left_188 ?_
                refine mo_lret S hr hlocks hK hm d_Mo_left_191 ?_
                unfold restS
                rw [if_neg (by rw [← rsM62.1]; exact fun q => q c64), if_neg (by rw [← rsM71.1]; exact fun q => q c73)]
                refine ⟨?_, fun k a b => (hVkx77 k a b).trans (hVkx2 k a b), by rw [hlx77]; split <;> simp, hF1, h22b⟩
                rw [hrx77, rW_0, hc12]; rfl
              · exfalso; omega
            · refine fm_lconst0 S d_Mo_left_159 ?_
              refine mo_lret S hr hlocks hK hm d_Mo_left_160 ?_
              unfold restS
              rw [if_neg (by rw [← rsM62.1]; exact fun q => q c64), if_pos (by rw [← rsM71.1]; exact c73)]
              exact ⟨rfl, fun k a b => hVkx2 k a b, by rw [hlx2]; split <;> simp, hF1, h22b⟩
          · refine fm_lconst0 S d_Mo_left_122 ?_
            refine mo_lret S hr hlocks hK hm d_Mo_left_123 ?_
            unfold restS
            rw [if_pos (by rw [← rsM62.1]; exact c64)]
            exact ⟨rfl, fun k a b => hVkx2 k a b, by rw [hlx2]; split <;> simp, hF1, h22b⟩
        · refine lv_aload_n hx hb d_Mo_left_104 rfl (lv_at hl 1 rfl) ?_
          refine fm_iconst S d_Mo_left_105 ?_
          refine mo_cvS (n := 1) (As := [.int (iN (1))]) (rest := []) S hK hZo hZ hA hm (fun μ sz hM => t_Mo_zero l D cs Z hZo ad μ V3 M7 sz 1 hM (by omega)) (gV k550 k552 ks20 k6 k553) (by decide) (by decide +kernel) rfl hl.1 rfl (Nat.le_of_ble_eq_true rfl) ⟨Nat.le_of_ble_eq_true rfl, Nat.le_of_ble_eq_true rfl⟩ d_Mo_left_106 (fun M82 H locs q81 hm => ?_)
          obtain ⟨frM82, rgM82⟩ := q81
          have hX1 : Rv M82 3 x := frM82.rv (by decide) hvx hX1
          have hc12 : M82 12 r = sc := by rw [frM82.1 12 (by decide)]; exact hc12
          have h22b : 0 ≤ M82 2 2 ∧ M82 2 2 ≤ 320 := by rw [(frM82.2.2 2 (by decide)).1]; exact h22b
          have hF1 := hF1.tr (frM82.o3 (by decide))
          have hB2 : Rw M82 1 (trV y sc) := by
            rw [show trV y sc = 0 by first | exact tr_zero hsc (by omega) | (rw [tr_same (hx0 (by omega))]; exact ndc_0 (by omega))]
            exact (Rv.zero rgM82).w vB_0
          refine lv_aload_n hx hb d_Mo_left_109 rfl (lv_at hl 1 rfl) ?_
          refine fm_iconst S d_Mo_left_110 ?_
          refine fm_iconst S d_Mo_left_111 ?_
          refine mo_cvS (n := 2) (As := [.int (iN (3)), .int (iN (0))]) (rest := []) S hK hZo hZ hA hm (fun μ sz hM => t_Mo_copy l D cs Z hZo ad μ V3 M82 sz 3 0 (nd (cN x)) (cN x) (cX x) (sgn x) hM hX1 (by omega)) (gV k587 k589 ks28 k6 k590) (by decide) (by decide +kernel) rfl hl.1 rfl (Nat.le_of_ble_eq_true rfl) ⟨Nat.le_of_ble_eq_true rfl, Nat.le_of_ble_eq_true rfl⟩ d_Mo_left_112 (fun M84 H locs q83 hm => ?_)
          obtain ⟨frM84, rgM84⟩ := q83
          have hX1 : Rv M84 3 x := frM84.rv (by decide) hvx hX1
          have hc12 : M84 12 r = sc := by rw [frM84.1 12 (by decide)]; exact hc12
          have hF1 := hF1.tr (frM84.o3 (by decide))
          have h22b : 0 ≤ M84 2 2 ∧ M84 2 2 ≤ 320 := by rw [(frM84.2.2 2 (by decide)).1]; exact h22b
          have hA2 : Rw M84 0 x := Rv.w rgM84 hvx
          have hB2 := frM84.rw (r' := 1) (by decide) hB2
          obtain ⟨na, NA, xa, sa, ga, va, na3, na4, na5, na6, na7, na8, na9⟩ := hA2
          obtain ⟨nb, NB, xb, sb, gb, vb, nb3, nb4, nb5, nb6, nb7, nb8, nb9⟩ := hB2
          refine lv_aload_n hx hb d_Mo_left_115 rfl (lv_at hl 1 rfl) ?_
          refine mo_ciS (n := 0) (As := []) (rest := []) S hK hZo hZ hA hm (fun μ sz hM => t_Mo_multiply l D cs Z hZo ad μ V3 M84 sz most na NA nb NB xa sa xb sb hM ga gb (by omega) (by omega) hpr) (gV k603 k605 ks32 k6 k606) (by decide) (by decide +kernel) rfl hl.1 rfl (Nat.le_of_ble_eq_true rfl) ⟨Nat.le_of_ble_eq_true rfl, Nat.le_of_ble_eq_true rfl⟩ d_Mo_left_116 (fun x87 M86 H locs q85 hm => ?_)
          have frM86 := q85.1
          have rsM86 := mul_resW hpr.2 va vb na9 nb9 (by omega) (by omega) q85.2
          have hX1 : Rv M86 3 x := frM86.rv (by decide) hvx hX1
          have hc12 : M86 12 r = sc := by rw [frM86.1 12 (by decide)]; exact hc12
          have hF1 := hF1.tr (frM86.o3 (by decide))
          have hmn := sMul_nd (a := x) (b := trV y sc) hpr.2
          have hm1 := hmn.1
          have hm2 := hmn.2.1
          rw [← rsM86.1] at hm1 hm2
          have h22b := rsM86.2.2
          refine fm_if_eq (tgt := 124) S (by omega) d_Mo_left_119 (by decide) (fun c88 => ?_) (fun c88 => ?_)
          · have hC2 := rsM86.2.1 c88
            have hm31 := hmn.2.2.1.1
            refine lv_aload_n hx hb d_Mo_left_124 rfl (lv_at hl 1 rfl) ?_
            refine fm_iconst S d_Mo_left_125 ?_
            refine fm_iconst S d_Mo_left_126 ?_
            refine mo_cvS (n := 2) (As := [.int (iN (2)), .int (iN (1))]) (rest := []) S hK hZo hZ hA hm (fun μ sz hM => t_Mo_copy l D cs Z hZo ad μ V3 M86 sz 2 1 (nd (cN (sMul most x (trV y sc)).2)) (cN (sMul most x (trV y sc)).2) (cX (sMul most x (trV y sc)).2) (sgn (sMul most x (trV y sc)).2) hM hC2 (by omega)) (gV k587 k589 ks28 k6 k590) (by decide) (by decide +kernel) rfl hl.1 rfl (Nat.le_of_ble_eq_true rfl) ⟨Nat.le_of_ble_eq_true rfl, Nat.le_of_ble_eq_true rfl⟩ d_Mo_left_127 (fun M90 H locs q89 hm => ?_)
            obtain ⟨frM90, rgM90⟩ := q89
            have hX1 : Rv M90 3 x := frM90.rv (by decide) hvx hX1
            have hc12 : M90 12 r = sc := by rw [frM90.1 12 (by decide)]; exact hc12
            have hF1 := hF1.tr (frM90.o3 (by decide))
            have h22b : 0 ≤ M90 2 2 ∧ M90 2 2 ≤ 320 := by rw [(frM90.2.2 2 (by decide)).1]; exact h22b
            have h41 := rgM90.2.2.1
            have h42 := sgn_in (sMul most x (trV y sc)).2
            refine lv_aload_n hx hb d_Mo_left_130 rfl (lv_at hl 1 rfl) ?_
            refine mo_get 5 S hK hm (by decide) k471 rfl rfl d_Mo_left_131 ?_
            refine fm_iconst S d_Mo_left_134 ?_
            refine fm_iconst S d_Mo_left_135 ?_
            refine lv_aload_n hx hb d_Mo_left_136 rfl (lv_at hl 1 rfl) ?_
            refine mo_get 5 S hK hm (by decide) k471 rfl rfl d_Mo_left_137 ?_
            refine fm_iconst S d_Mo_left_140 ?_
            refine mo_iald 4 S hK hm (by decide) (by simp only [moLen]; omega) d_Mo_left_141 ?_
            refine fm_isub S d_Mo_left_142 ?_
            refine mo_iast 4 S hK hm (by decide) (by simp only [moLen]; omega) d_Mo_left_143 (fun M91 H locs eM91 hm => ?_)
            have hB3 : Rv M91 1 (-(sMul most x (trV y sc)).2) := Rv.neg rgM90 eM91 (by rw [h41]; omega)
            have frM91 := Fr.s eM91 (by decide)
            have hX1 : Rv M91 3 x := frM91.rv (by decide) hvx hX1
            have hc12 : M91 12 r = sc := by rw [frM91.1 12 (by decide)]; exact hc12
            have hF1 := hF1.tr (frM91.o3 (by decide))
            have h22b : 0 ≤ M91 2 2 ∧ M91 2 2 ≤ 320 := by rw [(frM91.2.2 2 (by decide)).1]; exact h22b
            refine lv_aload_n hx hb d_Mo_left_144 rfl (lv_at hl 1 rfl) ?_
            refine lv_lload_n hx hb d_Mo_left_145 rfl (lv_at hl 3 rfl) ?_
            refine lv_iload hx hb d_Mo_left_146 (lv_at hl 0 rfl) ?_
            refine fm_iconst S d_Mo_left_148 ?_
            refine mo_cvS (n := 3) (As := [.long (jN (was)), .int (iN (x8)), .int (iN (0))]) (rest := []) S hK hZo hZ hA hm (fun μ sz hM => t_Mo_whole l D cs Z hZo ad μ V3 M91 sz was x8 0 hM (by omega) (by omega)) (gV k546 k548 ks19 k6 k549) (by decide) (by decide +kernel) rfl hl.1 rfl (Nat.le_of_ble_eq_true rfl) ⟨Nat.le_of_ble_eq_true rfl, Nat.le_of_ble_eq_true rfl⟩ d_Mo_left_149 (fun M93 H locs q92 hm => ?_)
            obtain ⟨frM93, rgM93⟩ := q92
            have hX1 : Rv M93 3 x := frM93.rv (by decide) hvx hX1
            have hc12 : M93 12 r = sc := by rw [frM93.1 12 (by decide)]; exact hc12
            have hF1 := hF1.tr (frM93.o3 (by decide))
            have h22b : 0 ≤ M93 2 2 ∧ M93 2 2 ≤ 320 := by rw [(frM93.2.2 2 (by decide)).1]; exact h22b
            rw [show x8 = 0 - sc by omega] at rgM93
            have hA3 := whole_rw rgM93 hsc hj
            have hB3 := frM93.rv (r' := 1) (by decide) (vB_neg hmn.2.2.1) hB3
            obtain ⟨na, NA, xa, sa, ga, va, na3, na4, na5, na6, na7, na8, na9⟩ := hA3
            obtain ⟨nb, NB, xb, sb, gb, vb, nb3, nb4, nb5, nb6, nb7, nb8, nb9⟩ := (hB3.w (vB_neg hmn.2.2.1))
            refine lv_aload_n hx hb d_Mo_left_152 rfl (lv_at hl 1 rfl) ?_
            refine mo_ciS (n := 0) (As := []) (rest := []) S hK hZo hZ hA hm (fun μ sz hM => t_Mo_add l D cs Z hZo ad μ V3 M93 sz most na NA nb NB xa sa xb sb hM ga gb (by omega) (fun h => na9 (na8 h)) (fun h => nb9 (nb8 h)) (by omega) hpr) (gV k583 k585 ks27 k6 k586) (by decide) (by decide +kernel) rfl hl.1 rfl (Nat.le_of_ble_eq_true rfl) ⟨Nat.le_of_ble_eq_true rfl, Nat.le_of_ble_eq_true rfl⟩ d_Mo_left_153 (fun x96 M95 H locs q94 hm => ?_)
            have frM95 := q94.1
            have rsM95 := add_resW (a := (hV was sc)) (b := (-(sMul most x (trV y sc)).2)) hpr.2 (by obtain ⟨N, x, sg, r1, r2, r3⟩ := q94.2; exact ⟨N, x, sg, r1, by rw [r2, va, vb], r3⟩)
            have hX1 : Rv M95 3 x := frM95.rv (by decide) hvx hX1
            have hc12 : M95 12 r = sc := by rw [frM95.1 12 (by decide)]; exact hc12
            have hF1 := hF1.tr (frM95.o3 (by decide))
            have hdn := sAdd_nd (a := hV was sc) (b := -(sMul most x (trV y sc)).2) hpr.2
            have hd1 := hdn.1
            have hd2 := hdn.2.1
            rw [← rsM95.1] at hd1 hd2
            have h22b := rsM95.2.2
            refine fm_if_eq (tgt := 161) S (by omega) d_Mo_left_156 (by decide) (fun c97 => ?_) (fun c97 => ?_)
            · have hC3 := rsM95.2.1 c97
              have hd31 := hdn.2.2.1.1
              refine lv_aload_n hx hb d_Mo_left_161 rfl (lv_at hl 1 rfl) ?_
              refine fm_iconst S d_Mo_left_162 ?_
              refine fm_iconst S d_Mo_left_163 ?_
              refine mo_cvS (n := 2) (As := [.int (iN (2)), .int (iN (4))]) (rest := []) S hK hZo hZ hA hm (fun μ sz hM => t_Mo_copy l D cs Z hZo ad μ V3 M95 sz 2 4 (nd (cN (sAdd most (hV was sc) (-(sMul most x (trV y sc)).2)).2)) (cN (sAdd most (hV was sc) (-(sMul most x (trV y sc)).2)).2) (cX (sAdd most (hV was sc) (-(sMul most x (trV y sc)).2)).2) (sgn (sAdd most (hV was sc) (-(sMul most x (trV y sc)).2)).2) hM hC3 (by omega)) (gV k587 k589 ks28 k6 k590) (by decide) (by decide +kernel) rfl hl.1 rfl (Nat.le_of_ble_eq_true rfl) ⟨Nat.le_of_ble_eq_true rfl, Nat.le_of_ble_eq_true rfl⟩ d_Mo_left_164 (fun M99 H locs q98 hm => ?_)
              obtain ⟨frM99, rgM99⟩ := q98
              have hX1 : Rv M99 3 x := frM99.rv (by decide) hvx hX1
              have hc12 : M99 12 r = sc := by rw [frM99.1 12 (by decide)]; exact hc12
              have hF1 := hF1.tr (frM99.o3 (by decide))
              have h22b : 0 ≤ M99 2 2 ∧ M99 2 2 ≤ 320 := by rw [(frM99.2.2 2 (by decide)).1]; exact h22b
              refine lv_aload_n hx hb d_Mo_left_167 rfl (lv_at hl 1 rfl) ?_
              refine lv_aload_n hx hb d_Mo_left_168 rfl (lv_at hl 1 rfl) ?_
              refine mo_get 16 S hK hm (by decide) k482 rfl rfl d_Mo_left_169 ?_
              refine lv_iload_n hx hb d_Mo_left_172 rfl (lv_at hl 2 rfl) ?_
              refine mo_iald 12 S hK hm (by decide) (by simp only [moLen]; omega) d_Mo_left_173 ?_
              refine fm_iconst S d_Mo_left_174 ?_
              refine fm_bipush S d_Mo_left_175 (by decide) ?_
              refine mo_ci (n := 3) (As := [.int (iN ((M99 12 r))), .int (iN (0)), .int (iN (18))]) (rest := []) S hK hZo hZ hA hm (fun μ sz hM => t_Mo_round l D cs Z hZo ad μ V3 M99 sz (M99 12 r) 0 18 18 (sAdd most (hV was sc) (-(sMul most x (trV y sc)).2)).2 hM (by omega) (by omega) rgM99 hdn.2.2.1 (by omega) (by omega)) (gV k663 k665 ks41 k6 k666) (by decide) (by decide +kernel) rfl hl.1 rfl (Nat.le_of_ble_eq_true rfl) ⟨Nat.le_of_ble_eq_true rfl, Nat.le_of_ble_eq_true rfl⟩ d_Mo_left_177 (fun x101 V102 M103 H locs q100 hm => ?_)
              obtain ⟨hzx101, -, hM1, hVkx101, hlx101, hrx101⟩ := q100.resolve_left (fun q => absurd q.2.1 (by decide))
              rw [hM1] at hm
              refine fm_if_eq (tgt := 187) S (by omega) d_Mo_left_180 (by decide) (fun c104 => ?_) (fun c104 => ?_)
              · refine lv_aload_n hx hb d_Mo_left_187 rfl (lv_at hl 1 rfl) ?_
                refine mo_get 21 S hK hm (by decide) k487 rfl rfl d_Mo_left_188 ?_
                refine mo_lret S hr hlocks hK hm d_Mo_left_191 ?_
                unfold restS
                rw [if_neg (by rw [← rsM86.1]; exact fun q => q c88), if_neg (by rw [← rsM95.1]; exact fun q => q c97)]
                refine ⟨?_, fun k a b => (hVkx101 k a b).trans (hVkx2 k a b), by rw [hlx101]; split <;> simp, hF1, h22b⟩
                rw [hrx101, rW_0, hc12]; rfl
              · exfalso; omega
            · refine fm_lconst0 S d_Mo_left_159 ?_
              refine mo_lret S hr hlocks hK hm d_Mo_left_160 ?_
              unfold restS
              rw [if_neg (by rw [← rsM86.1]; exact fun q => q c88), if_pos (by rw [← rsM95.1]; exact c97)]
              exact ⟨rfl, fun k a b => hVkx2 k a b, by rw [hlx2]; split <;> simp, hF1, h22b⟩
          · refine fm_lconst0 S d_Mo_left_122 ?_
            refine mo_lret S hr hlocks hK hm d_Mo_left_123 ?_
            unfold restS
            rw [if_pos (by rw [← rsM86.1]; exact c88)]
            exact ⟨rfl, fun k a b => hVkx2 k a b, by rw [hlx2]; split <;> simp, hF1, h22b⟩
      · obtain ⟨d, hd⟩ : ∃ d : Nat, (d : Int) = -sc - cX y := ⟨(-sc - cX y).toNat, by omega⟩
        refine lv_aload_n hx hb d_Mo_left_54 rfl (lv_at hl 1 rfl) ?_
        refine fm_iconst S d_Mo_left_55 ?_
        refine lv_iload hx hb d_Mo_left_56 (lv_at hl 0 rfl) ?_
        refine lv_aload_n hx hb d_Mo_left_58 rfl (lv_at hl 1 rfl) ?_
        refine mo_get 4 S hK hm (by decide) k470 rfl rfl d_Mo_left_59 ?_
        refine fm_iconst S d_Mo_left_62 ?_
        refine mo_iald 3 S hK hm (by decide) (by simp only [moLen]; omega) d_Mo_left_63 ?_
        refine fm_isub S d_Mo_left_64 ?_
        refine lv_aload_n hx hb d_Mo_left_65 rfl (lv_at hl 1 rfl) ?_
        refine mo_get 3 S hK hm (by decide) k469 rfl rfl d_Mo_left_66 ?_
        refine fm_iconst S d_Mo_left_69 ?_
        refine mo_iald 2 S hK hm (by decide) (by simp only [moLen]; omega) d_Mo_left_70 ?_
        refine fm_icmp_le (tgt := 83) S (by omega) (by omega) d_Mo_left_71 (by decide) (fun c105 => ?_) (fun c105 => ?_)
        · refine lv_iload hx hb d_Mo_left_83 (lv_at hl 0 rfl) ?_
          refine lv_aload_n hx hb d_Mo_left_85 rfl (lv_at hl 1 rfl) ?_
          refine mo_get 4 S hK hm (by decide) k470 rfl rfl d_Mo_left_86 ?_
          refine fm_iconst S d_Mo_left_89 ?_
          refine mo_iald 3 S hK hm (by decide) (by simp only [moLen]; omega) d_Mo_left_90 ?_
          refine fm_isub S d_Mo_left_91 ?_
          refine mo_cvS (n := 2) (As := [.int (iN (1)), .int (iN ((x8 - (M7 3 1))))]) (rest := []) S hK hZo hZ hA hm (fun μ sz hM => t_Mo_drop l D cs Z hZo ad μ V3 M7 sz 1 (x8 - (M7 3 1)) (d) (nd (cN y)) (cN y) (cX y) (sgn y) hM (by omega) hB1 (by omega)) (gV k559 k561 ks22 k6 k562) (by decide) (by decide +kernel) rfl hl.1 rfl (Nat.le_of_ble_eq_true rfl) ⟨Nat.le_of_ble_eq_true rfl, Nat.le_of_ble_eq_true rfl⟩ d_Mo_left_92 (fun M107 H locs q106 hm => ?_)
          obtain ⟨frM107, rgM107⟩ := q106
          have hX1 : Rv M107 3 x := frM107.rv (by decide) hvx hX1
          have hc12 : M107 12 r = sc := by rw [frM107.1 12 (by decide)]; exact hc12
          have h22b : 0 ≤ M107 2 2 ∧ M107 2 2 ≤ 320 := by rw [(frM107.2.2 2 (by decide)).1]; exact h22b
          have hF1 := hF1.tr (frM107.o3 (by decide))
          have e21 := rgM107.1
          refine lv_aload_n hx hb d_Mo_left_95 rfl (lv_at hl 1 rfl) ?_
          refine mo_get 3 S hK hm (by decide) k469 rfl rfl d_Mo_left_96 ?_
          refine fm_iconst S d_Mo_left_99 ?_
          refine mo_iald 2 S hK hm (by decide) (by simp only [moLen]; omega) d_Mo_left_100 ?_
          refine fm_if_ne (tgt := 109) S (by omega) d_Mo_left_101 (by decide) (fun c108 => ?_) (fun c108 => ?_)
          · have hB2 : Rw M107 1 (trV y sc) := tr_rw hsc hvy hd (by omega) rgM107
            refine lv_aload_n hx hb d_Mo_left_109 rfl (lv_at hl 1 rfl) ?_
            refine fm_iconst S d_Mo_left_110 ?_
            refine fm_iconst S d_Mo_left_111 ?_
            refine mo_cvS (n := 2) (As := [.int (iN (3)), .int (iN (0))]) (rest := []) S hK hZo hZ hA hm (fun μ sz hM => t_Mo_copy l D cs Z hZo ad μ V3 M107 sz 3 0 (nd (cN x)) (cN x) (cX x) (sgn x) hM hX1 (by omega)) (gV k587 k589 ks28 k6 k590) (by decide) (by decide +kernel) rfl hl.1 rfl (Nat.le_of_ble_eq_true rfl) ⟨Nat.le_of_ble_eq_true rfl, Nat.le_of_ble_eq_true rfl⟩ d_Mo_left_112 (fun M110 H locs q109 hm => ?_)
            obtain ⟨frM110, rgM110⟩ := q109
            have hX1 : Rv M110 3 x := frM110.rv (by decide) hvx hX1
            have hc12 : M110 12 r = sc := by rw [frM110.1 12 (by decide)]; exact hc12
            have hF1 := hF1.tr (frM110.o3 (by decide))
            have h22b : 0 ≤ M110 2 2 ∧ M110 2 2 ≤ 320 := by rw [(frM110.2.2 2 (by decide)).1]; exact h22b
            have hA2 : Rw M110 0 x := Rv.w rgM110 hvx
            have hB2 := frM110.rw (r' := 1) (by decide) hB2
            obtain ⟨na, NA, xa, sa, ga, va, na3, na4, na5, na6, na7, na8, na9⟩ := hA2
            obtain ⟨nb, NB, xb, sb, gb, vb, nb3, nb4, nb5, nb6, nb7, nb8, nb9⟩ := hB2
            refine lv_aload_n hx hb d_Mo_left_115 rfl (lv_at hl 1 rfl) ?_
            refine mo_ciS (n := 0) (As := []) (rest := []) S hK hZo hZ hA hm (fun μ sz hM => t_Mo_multiply l D cs Z hZo ad μ V3 M110 sz most na NA nb NB xa sa xb sb hM ga gb (by omega) (by omega) hpr) (gV k603 k605 ks32 k6 k606) (by decide) (by decide +kernel) rfl hl.1 rfl (Nat.le_of_ble_eq_true rfl) ⟨Nat.le_of_ble_eq_true rfl, Nat.le_of_ble_eq_true rfl⟩ d_Mo_left_116 (fun x113 M112 H locs q111 hm => ?_)
            have frM112 := q111.1
            have rsM112 := mul_resW hpr.2 va vb na9 nb9 (by omega) (by omega) q111.2
            have hX1 : Rv M112 3 x := frM112.rv (by decide) hvx hX1
            have hc12 : M112 12 r = sc := by rw [frM112.1 12 (by decide)]; exact hc12
            have hF1 := hF1.tr (frM112.o3 (by decide))
            have hmn := sMul_nd (a := x) (b := trV y sc) hpr.2
            have hm1 := hmn.1
            have hm2 := hmn.2.1
            rw [← rsM112.1] at hm1 hm2
            have h22b := rsM112.2.2
            refine fm_if_eq (tgt := 124) S (by omega) d_Mo_left_119 (by decide) (fun c114 => ?_) (fun c114 => ?_)
            · have hC2 := rsM112.2.1 c114
              have hm31 := hmn.2.2.1.1
              refine lv_aload_n hx hb d_Mo_left_124 rfl (lv_at hl 1 rfl) ?_
              refine fm_iconst S d_Mo_left_125 ?_
              refine fm_iconst S d_Mo_left_126 ?_
              refine mo_cvS (n := 2) (As := [.int (iN (2)), .int (iN (1))]) (rest := []) S hK hZo hZ hA hm (fun μ sz hM => t_Mo_copy l D cs Z hZo ad μ V3 M112 sz 2 1 (nd (cN (sMul most x (trV y sc)).2)) (cN (sMul most x (trV y sc)).2) (cX (sMul most x (trV y sc)).2) (sgn (sMul most x (trV y sc)).2) hM hC2 (by omega)) (gV k587 k589 ks28 k6 k590) (by decide) (by decide +kernel) rfl hl.1 rfl (Nat.le_of_ble_eq_true rfl) ⟨Nat.le_of_ble_eq_true rfl, Nat.le_of_ble_eq_true rfl⟩ d_Mo_left_127 (fun M116 H locs q115 hm => ?_)
              obtain ⟨frM116, rgM116⟩ := q115
              have hX1 : Rv M116 3 x := frM116.rv (by decide) hvx hX1
              have hc12 : M116 12 r = sc := by rw [frM116.1 12 (by decide)]; exact hc12
              have hF1 := hF1.tr (frM116.o3 (by decide))
              have h22b : 0 ≤ M116 2 2 ∧ M116 2 2 ≤ 320 := by rw [(frM116.2.2 2 (by decide)).1]; exact h22b
              have h41 := rgM116.2.2.1
              have h42 := sgn_in (sMul most x (trV y sc)).2
              refine lv_aload_n hx hb d_Mo_left_130 rfl (lv_at hl 1 rfl) ?_
              refine mo_get 5 S hK hm (by decide) k471 rfl rfl d_Mo_left_131 ?_
              refine fm_iconst S d_Mo_left_134 ?_
              refine fm_iconst S d_Mo_left_135 ?_
              refine lv_aload_n hx hb d_Mo_left_136 rfl (lv_at hl 1 rfl) ?_
              refine mo_get 5 S hK hm (by decide) k471 rfl rfl d_Mo_left_137 ?_
              refine fm_iconst S d_Mo_left_140 ?_
              refine mo_iald 4 S hK hm (by decide) (by simp only [moLen]; omega) d_Mo_left_141 ?_
              refine fm_isub S d_Mo_left_142 ?_
              refine mo_iast 4 S hK hm (by decide) (by simp only [moLen]; omega) d_Mo_left_143 (fun M117 H locs eM117 hm => ?_)
              have hB3 : Rv M117 1 (-(sMul most x (trV y sc)).2) := Rv.neg rgM116 eM117 (by rw [h41]; omega)
              have frM117 := Fr.s eM117 (by decide)
              have hX1 : Rv M117 3 x := frM117.rv (by decide) hvx hX1
              have hc12 : M117 12 r = sc := by rw [frM117.1 12 (by decide)]; exact hc12
              have hF1 := hF1.tr (frM117.o3 (by decide))
              have h22b : 0 ≤ M117 2 2 ∧ M117 2 2 ≤ 320 := by rw [(frM117.2.2 2 (by decide)).1]; exact h22b
              refine lv_aload_n hx hb d_Mo_left_144 rfl (lv_at hl 1 rfl) ?_
              refine lv_lload_n hx hb d_Mo_left_145 rfl (lv_at hl 3 rfl) ?_
              refine lv_iload hx hb d_Mo_left_146 (lv_at hl 0 rfl) ?_
              refine fm_iconst S d_Mo_left_148 ?_
              refine mo_cvS (n := 3) (As := [.long (jN (was)), .int (iN (x8)), .int (iN (0))]) (rest := []) S hK hZo hZ hA hm (fun μ sz hM => t_Mo_whole l D cs Z hZo ad μ V3 M117 sz was x8 0 hM (by omega) (by omega)) (gV k546 k548 ks19 k6 k549) (by decide) (by decide +kernel) rfl hl.1 rfl (Nat.le_of_ble_eq_true rfl) ⟨Nat.le_of_ble_eq_true rfl, Nat.le_of_ble_eq_true rfl⟩ d_Mo_left_149 (fun M119 H locs q118 hm => ?_)
              obtain ⟨frM119, rgM119⟩ := q118
              have hX1 : Rv M119 3 x := frM119.rv (by decide) hvx hX1
              have hc12 : M119 12 r = sc := by rw [frM119.1 12 (by decide)]; exact hc12
              have hF1 := hF1.tr (frM119.o3 (by decide))
              have h22b : 0 ≤ M119 2 2 ∧ M119 2 2 ≤ 320 := by rw [(frM119.2.2 2 (by decide)).1]; exact h22b
              rw [show x8 = 0 - sc by omega] at rgM119
              have hA3 := whole_rw rgM119 hsc hj
              have hB3 := frM119.rv (r' := 1) (by decide) (vB_neg hmn.2.2.1) hB3
              obtain ⟨na, NA, xa, sa, ga, va, na3, na4, na5, na6, na7, na8, na9⟩ := hA3
              obtain ⟨nb, NB, xb, sb, gb, vb, nb3, nb4, nb5, nb6, nb7, nb8, nb9⟩ := (hB3.w (vB_neg hmn.2.2.1))
              refine lv_aload_n hx hb d_Mo_left_152 rfl (lv_at hl 1 rfl) ?_
              refine mo_ciS (n := 0) (As := []) (rest := []) S hK hZo hZ hA hm (fun μ sz hM => t_Mo_add l D cs Z hZo ad μ V3 M119 sz most na NA nb NB xa sa xb sb hM ga gb (by omega) (fun h => na9 (na8 h)) (fun h => nb9 (nb8 h)) (by omega) hpr) (gV k583 k585 ks27 k6 k586) (by decide) (by decide +kernel) rfl hl.1 rfl (Nat.le_of_ble_eq_true rfl) ⟨Nat.le_of_ble_eq_true rfl, Nat.le_of_ble_eq_true rfl⟩ d_Mo_left_153 (fun x122 M121 H locs q120 hm => ?_)
              have frM121 := q120.1
              have rsM121 := add_resW (a := (hV was sc)) (b := (-(sMul most x (trV y sc)).2)) hpr.2 (by obtain ⟨N, x, sg, r1, r2, r3⟩ := q120.2; exact ⟨N, x, sg, r1, by rw [r2, va, vb], r3⟩)
              have hX1 : Rv M121 3 x := frM121.rv (by decide) hvx hX1
              have hc12 : M121 12 r = sc := by rw [frM121.1 12 (by decide)]; exact hc12
              have hF1 := hF1.tr (frM121.o3 (by decide))
              have hdn := sAdd_nd (a := hV was sc) (b := -(sMul most x (trV y sc)).2) hpr.2
              have hd1 := hdn.1
              have hd2 := hdn.2.1
              rw [← rsM121.1] at hd1 hd2
              have h22b := rsM121.2.2
              refine fm_if_eq (tgt := 161) S (by omega) d_Mo_left_156 (by decide) (fun c123 => ?_) (fun c123 => ?_)
              · have hC3 := rsM121.2.1 c123
                have hd31 := hdn.2.2.1.1
                refine lv_aload_n hx hb d_Mo_left_161 rfl (lv_at hl 1 rfl) ?_
                refine fm_iconst S d_Mo_left_162 ?_
                refine fm_iconst S d_Mo_left_163 ?_
                refine mo_cvS (n := 2) (As := [.int (iN (2)), .int (iN (4))]) (rest := []) S hK hZo hZ hA hm (fun μ sz hM => t_Mo_copy l D cs Z hZo ad μ V3 M121 sz 2 4 (nd (cN (sAdd most (hV was sc) (-(sMul most x (trV y sc)).2)).2)) (cN (sAdd most (hV was sc) (-(sMul most x (trV y sc)).2)).2) (cX (sAdd most (hV was sc) (-(sMul most x (trV y sc)).2)).2) (sgn (sAdd most (hV was sc) (-(sMul most x (trV y sc)).2)).2) hM hC3 (by omega)) (gV k587 k589 ks28 k6 k590) (by decide) (by decide +kernel) rfl hl.1 rfl (Nat.le_of_ble_eq_true rfl) ⟨Nat.le_of_ble_eq_true rfl, Nat.le_of_ble_eq_true rfl⟩ d_Mo_left_164 (fun M125 H locs q124 hm => ?_)
                obtain ⟨frM125, rgM125⟩ := q124
                have hX1 : Rv M125 3 x := frM125.rv (by decide) hvx hX1
                have hc12 : M125 12 r = sc := by rw [frM125.1 12 (by decide)]; exact hc12
                have hF1 := hF1.tr (frM125.o3 (by decide))
                have h22b : 0 ≤ M125 2 2 ∧ M125 2 2 ≤ 320 := by rw [(frM125.2.2 2 (by decide)).1]; exact h22b
                refine lv_aload_n hx hb d_Mo_left_167 rfl (lv_at hl 1 rfl) ?_
                refine lv_aload_n hx hb d_Mo_left_168 rfl (lv_at hl 1 rfl) ?_
                refine mo_get 16 S hK hm (by decide) k482 rfl rfl d_Mo_left_169 ?_
                refine lv_iload_n hx hb d_Mo_left_172 rfl (lv_at hl 2 rfl) ?_
                refine mo_iald 12 S hK hm (by decide) (by simp only [moLen]; omega) d_Mo_left_173 ?_
                refine fm_iconst S d_Mo_left_174 ?_
                refine fm_bipush S d_Mo_left_175 (by decide) ?_
                refine mo_ci (n := 3) (As := [.int (iN ((M125 12 r))), .int (iN (0)), .int (iN (18))]) (rest := []) S hK hZo hZ hA hm (fun μ sz hM => t_Mo_round l D cs Z hZo ad μ V3 M125 sz (M125 12 r) 0 18 18 (sAdd most (hV was sc) (-(sMul most x (trV y sc)).2)).2 hM (by omega) (by omega) rgM125 hdn.2.2.1 (by omega) (by omega)) (gV k663 k665 ks41 k6 k666) (by decide) (by decide +kernel) rfl hl.1 rfl (Nat.le_of_ble_eq_true rfl) ⟨Nat.le_of_ble_eq_true rfl, Nat.le_of_ble_eq_true rfl⟩ d_Mo_left_177 (fun x127 V128 M129 H locs q126 hm => ?_)
                obtain ⟨hzx127, -, hM1, hVkx127, hlx127, hrx127⟩ := q126.resolve_left (fun q => absurd q.2.1 (by decide))
                rw [hM1] at hm
                refine fm_if_eq (tgt := 187) S (by omega) d_Mo_left_180 (by decide) (fun c130 => ?_) (fun c130 => ?_)
                · refine lv_aload_n hx hb d_Mo_left_187 rfl (lv_at hl 1 rfl) ?_
                  refine mo_get 21 S hK hm (by decide) k487 rfl rfl d_Mo_left_188 ?_
                  refine mo_lret S hr hlocks hK hm d_Mo_left_191 ?_
                  unfold restS
                  rw [if_neg (by rw [← rsM112.1]; exact fun q => q c114), if_neg (by rw [← rsM121.1]; exact fun q => q c123)]
                  refine ⟨?_, fun k a b => (hVkx127 k a b).trans (hVkx2 k a b), by rw [hlx127]; split <;> simp, hF1, h22b⟩
                  rw [hrx127, rW_0, hc12]; rfl
                · exfalso; omega
              · refine fm_lconst0 S d_Mo_left_159 ?_
                refine mo_lret S hr hlocks hK hm d_Mo_left_160 ?_
                unfold restS
                rw [if_neg (by rw [← rsM112.1]; exact fun q => q c114), if_pos (by rw [← rsM121.1]; exact c123)]
                exact ⟨rfl, fun k a b => hVkx2 k a b, by rw [hlx2]; split <;> simp, hF1, h22b⟩
            · refine fm_lconst0 S d_Mo_left_122 ?_
              refine mo_lret S hr hlocks hK hm d_Mo_left_123 ?_
              unfold restS
              rw [if_pos (by rw [← rsM112.1]; exact c114)]
              exact ⟨rfl, fun k a b => hVkx2 k a b, by rw [hlx2]; split <;> simp, hF1, h22b⟩
          · refine lv_aload_n hx hb d_Mo_left_104 rfl (lv_at hl 1 rfl) ?_
            refine fm_iconst S d_Mo_left_105 ?_
            refine mo_cvS (n := 1) (As := [.int (iN (1))]) (rest := []) S hK hZo hZ hA hm (fun μ sz hM => t_Mo_zero l D cs Z hZo ad μ V3 M107 sz 1 hM (by omega)) (gV k550 k552 ks20 k6 k553) (by decide) (by decide +kernel) rfl hl.1 rfl (Nat.le_of_ble_eq_true rfl) ⟨Nat.le_of_ble_eq_true rfl, Nat.le_of_ble_eq_true rfl⟩ d_Mo_left_106 (fun M132 H locs q131 hm => ?_)
            obtain ⟨frM132, rgM132⟩ := q131
            have hX1 : Rv M132 3 x := frM132.rv (by decide) hvx hX1
            have hc12 : M132 12 r = sc := by rw [frM132.1 12 (by decide)]; exact hc12
            have h22b : 0 ≤ M132 2 2 ∧ M132 2 2 ≤ 320 := by rw [(frM132.2.2 2 (by decide)).1]; exact h22b
            have hF1 := hF1.tr (frM132.o3 (by decide))
            have hB2 : Rw M132 1 (trV y sc) := by
              rw [show trV y sc = 0 by first | exact tr_zero hsc (by omega) | (rw [tr_same (hx0 (by omega))]; exact ndc_0 (by omega))]
              exact (Rv.zero rgM132).w vB_0
            refine lv_aload_n hx hb d_Mo_left_109 rfl (lv_at hl 1 rfl) ?_
            refine fm_iconst S d_Mo_left_110 ?_
            refine fm_iconst S d_Mo_left_111 ?_
            refine mo_cvS (n := 2) (As := [.int (iN (3)), .int (iN (0))]) (rest := []) S hK hZo hZ hA hm (fun μ sz hM => t_Mo_copy l D cs Z hZo ad μ V3 M132 sz 3 0 (nd (cN x)) (cN x) (cX x) (sgn x) hM hX1 (by omega)) (gV k587 k589 ks28 k6 k590) (by decide) (by decide +kernel) rfl hl.1 rfl (Nat.le_of_ble_eq_true rfl) ⟨Nat.le_of_ble_eq_true rfl, Nat.le_of_ble_eq_true rfl⟩ d_Mo_left_112 (fun M134 H locs q133 hm => ?_)
            obtain ⟨frM134, rgM134⟩ := q133
            have hX1 : Rv M134 3 x := frM134.rv (by decide) hvx hX1
            have hc12 : M134 12 r = sc := by rw [frM134.1 12 (by decide)]; exact hc12
            have hF1 := hF1.tr (frM134.o3 (by decide))
            have h22b : 0 ≤ M134 2 2 ∧ M134 2 2 ≤ 320 := by rw [(frM134.2.2 2 (by decide)).1]; exact h22b
            have hA2 : Rw M134 0 x := Rv.w rgM134 hvx
            have hB2 := frM134.rw (r' := 1) (by decide) hB2
            obtain ⟨na, NA, xa, sa, ga, va, na3, na4, na5, na6, na7, na8, na9⟩ := hA2
            obtain ⟨nb, NB, xb, sb, gb, vb, nb3, nb4, nb5, nb6, nb7, nb8, nb9⟩ := hB2
            refine lv_aload_n hx hb d_Mo_left_115 rfl (lv_at hl 1 rfl) ?_
            refine mo_ciS (n := 0) (As := []) (rest := []) S hK hZo hZ hA hm (fun μ sz hM => t_Mo_multiply l D cs Z hZo ad μ V3 M134 sz most na NA nb NB xa sa xb sb hM ga gb (by omega) (by omega) hpr) (gV k603 k605 ks32 k6 k606) (by decide) (by decide +kernel) rfl hl.1 rfl (Nat.le_of_ble_eq_true rfl) ⟨Nat.le_of_ble_eq_true rfl, Nat.le_of_ble_eq_true rfl⟩ d_Mo_left_116 (fun x137 M136 H locs q135 hm => ?_)
            have frM136 := q135.1
            have rsM136 := mul_resW hpr.2 va vb na9 nb9 (by omega) (by omega) q135.2
            have hX1 : Rv M136 3 x := frM136.rv (by decide) hvx hX1
            have hc12 : M136 12 r = sc := by rw [frM136.1 12 (by decide)]; exact hc12
            have hF1 := hF1.tr (frM136.o3 (by decide))
            have hmn := sMul_nd (a := x) (b := trV y sc) hpr.2
            have hm1 := hmn.1
            have hm2 := hmn.2.1
            rw [← rsM136.1] at hm1 hm2
            have h22b := rsM136.2.2
            refine fm_if_eq (tgt := 124) S (by omega) d_Mo_left_119 (by decide) (fun c138 => ?_) (fun c138 => ?_)
            · have hC2 := rsM136.2.1 c138
              have hm31 := hmn.2.2.1.1
              refine lv_aload_n hx hb d_Mo_left_124 rfl (lv_at hl 1 rfl) ?_
              refine fm_iconst S d_Mo_left_125 ?_
              refine fm_iconst S d_Mo_left_126 ?_
              refine mo_cvS (n := 2) (As := [.int (iN (2)), .int (iN (1))]) (rest := []) S hK hZo hZ hA hm (fun μ sz hM => t_Mo_copy l D cs Z hZo ad μ V3 M136 sz 2 1 (nd (cN (sMul most x (trV y sc)).2)) (cN (sMul most x (trV y sc)).2) (cX (sMul most x (trV y sc)).2) (sgn (sMul most x (trV y sc)).2) hM hC2 (by omega)) (gV k587 k589 ks28 k6 k590) (by decide) (by decide +kernel) rfl hl.1 rfl (Nat.le_of_ble_eq_true rfl) ⟨Nat.le_of_ble_eq_true rfl, Nat.le_of_ble_eq_true rfl⟩ d_Mo_left_127 (fun M140 H locs q139 hm => ?_)
              obtain ⟨frM140, rgM140⟩ := q139
              have hX1 : Rv M140 3 x := frM140.rv (by decide) hvx hX1
              have hc12 : M140 12 r = sc := by rw [frM140.1 12 (by decide)]; exact hc12
              have hF1 := hF1.tr (frM140.o3 (by decide))
              have h22b : 0 ≤ M140 2 2 ∧ M140 2 2 ≤ 320 := by rw [(frM140.2.2 2 (by decide)).1]; exact h22b
              have h41 := rgM140.2.2.1
              have h42 := sgn_in (sMul most x (trV y sc)).2
              refine lv_aload_n hx hb d_Mo_left_130 rfl (lv_at hl 1 rfl) ?_
              refine mo_get 5 S hK hm (by decide) k471 rfl rfl d_Mo_left_131 ?_
              refine fm_iconst S d_Mo_left_134 ?_
              refine fm_iconst S d_Mo_left_135 ?_
              refine lv_aload_n hx hb d_Mo_left_136 rfl (lv_at hl 1 rfl) ?_
              refine mo_get 5 S hK hm (by decide) k471 rfl rfl d_Mo_left_137 ?_
              refine fm_iconst S d_Mo_left_140 ?_
              refine mo_iald 4 S hK hm (by decide) (by simp only [moLen]; omega) d_Mo_left_141 ?_
              refine fm_isub S d_Mo_left_142 ?_
              refine mo_iast 4 S hK hm (by decide) (by simp only [moLen]; omega) d_Mo_left_143 (fun M141 H locs eM141 hm => ?_)
              have hB3 : Rv M141 1 (-(sMul most x (trV y sc)).2) := Rv.neg rgM140 eM141 (by rw [h41]; omega)
              have frM141 := Fr.s eM141 (by decide)
              have hX1 : Rv M141 3 x := frM141.rv (by decide) hvx hX1
              have hc12 : M141 12 r = sc := by rw [frM141.1 12 (by decide)]; exact hc12
              have hF1 := hF1.tr (frM141.o3 (by decide))
              have h22b : 0 ≤ M141 2 2 ∧ M141 2 2 ≤ 320 := by rw [(frM141.2.2 2 (by decide)).1]; exact h22b
              refine lv_aload_n hx hb d_Mo_left_144 rfl (lv_at hl 1 rfl) ?_
              refine lv_lload_n hx hb d_Mo_left_145 rfl (lv_at hl 3 rfl) ?_
              refine lv_iload hx hb d_Mo_left_146 (lv_at hl 0 rfl) ?_
              refine fm_iconst S d_Mo_left_148 ?_
              refine mo_cvS (n := 3) (As := [.long (jN (was)), .int (iN (x8)), .int (iN (0))]) (rest := []) S hK hZo hZ hA hm (fun μ sz hM => t_Mo_whole l D cs Z hZo ad μ V3 M141 sz was x8 0 hM (by omega) (by omega)) (gV k546 k548 ks19 k6 k549) (by decide) (by decide +kernel) rfl hl.1 rfl (Nat.le_of_ble_eq_true rfl) ⟨Nat.le_of_ble_eq_true rfl, Nat.le_of_ble_eq_true rfl⟩ d_Mo_left_149 (fun M143 H locs q142 hm => ?_)
              obtain ⟨frM143, rgM143⟩ := q142
              have hX1 : Rv M143 3 x := frM143.rv (by decide) hvx hX1
              have hc12 : M143 12 r = sc := by rw [frM143.1 12 (by decide)]; exact hc12
              have hF1 := hF1.tr (frM143.o3 (by decide))
              have h22b : 0 ≤ M143 2 2 ∧ M143 2 2 ≤ 320 := by rw [(frM143.2.2 2 (by decide)).1]; exact h22b
              rw [show x8 = 0 - sc by omega] at rgM143
              have hA3 := whole_rw rgM143 hsc hj
              have hB3 := frM143.rv (r' := 1) (by decide) (vB_neg hmn.2.2.1) hB3
              obtain ⟨na, NA, xa, sa, ga, va, na3, na4, na5, na6, na7, na8, na9⟩ := hA3
              obtain ⟨nb, NB, xb, sb, gb, vb, nb3, nb4, nb5, nb6, nb7, nb8, nb9⟩ := (hB3.w (vB_neg hmn.2.2.1))
              refine lv_aload_n hx hb d_Mo_left_152 rfl (lv_at hl 1 rfl) ?_
              refine mo_ciS (n := 0) (As := []) (rest := []) S hK hZo hZ hA hm (fun μ sz hM => t_Mo_add l D cs Z hZo ad μ V3 M143 sz most na NA nb NB xa sa xb sb hM ga gb (by omega) (fun h => na9 (na8 h)) (fun h => nb9 (nb8 h)) (by omega) hpr) (gV k583 k585 ks27 k6 k586) (by decide) (by decide +kernel) rfl hl.1 rfl (Nat.le_of_ble_eq_true rfl) ⟨Nat.le_of_ble_eq_true rfl, Nat.le_of_ble_eq_true rfl⟩ d_Mo_left_153 (fun x146 M145 H locs q144 hm => ?_)
              have frM145 := q144.1
              have rsM145 := add_resW (a := (hV was sc)) (b := (-(sMul most x (trV y sc)).2)) hpr.2 (by obtain ⟨N, x, sg, r1, r2, r3⟩ := q144.2; exact ⟨N, x, sg, r1, by rw [r2, va, vb], r3⟩)
              have hX1 : Rv M145 3 x := frM145.rv (by decide) hvx hX1
              have hc12 : M145 12 r = sc := by rw [frM145.1 12 (by decide)]; exact hc12
              have hF1 := hF1.tr (frM145.o3 (by decide))
              have hdn := sAdd_nd (a := hV was sc) (b := -(sMul most x (trV y sc)).2) hpr.2
              have hd1 := hdn.1
              have hd2 := hdn.2.1
              rw [← rsM145.1] at hd1 hd2
              have h22b := rsM145.2.2
              refine fm_if_eq (tgt := 161) S (by omega) d_Mo_left_156 (by decide) (fun c147 => ?_) (fun c147 => ?_)
              · have hC3 := rsM145.2.1 c147
                have hd31 := hdn.2.2.1.1
                refine lv_aload_n hx hb d_Mo_left_161 rfl (lv_at hl 1 rfl) ?_
                refine fm_iconst S d_Mo_left_162 ?_
                refine fm_iconst S d_Mo_left_163 ?_
                refine mo_cvS (n := 2) (As := [.int (iN (2)), .int (iN (4))]) (rest := []) S hK hZo hZ hA hm (fun μ sz hM => t_Mo_copy l D cs Z hZo ad μ V3 M145 sz 2 4 (nd (cN (sAdd most (hV was sc) (-(sMul most x (trV y sc)).2)).2)) (cN (sAdd most (hV was sc) (-(sMul most x (trV y sc)).2)).2) (cX (sAdd most (hV was sc) (-(sMul most x (trV y sc)).2)).2) (sgn (sAdd most (hV was sc) (-(sMul most x (trV y sc)).2)).2) hM hC3 (by omega)) (gV k587 k589 ks28 k6 k590) (by decide) (by decide +kernel) rfl hl.1 rfl (Nat.le_of_ble_eq_true rfl) ⟨Nat.le_of_ble_eq_true rfl, Nat.le_of_ble_eq_true rfl⟩ d_Mo_left_164 (fun M149 H locs q148 hm => ?_)
                obtain ⟨frM149, rgM149⟩ := q148
                have hX1 : Rv M149 3 x := frM149.rv (by decide) hvx hX1
                have hc12 : M149 12 r = sc := by rw [frM149.1 12 (by decide)]; exact hc12
                have hF1 := hF1.tr (frM149.o3 (by decide))
                have h22b : 0 ≤ M149 2 2 ∧ M149 2 2 ≤ 320 := by rw [(frM149.2.2 2 (by decide)).1]; exact h22b
                refine lv_aload_n hx hb d_Mo_left_167 rfl (lv_at hl 1 rfl) ?_
                refine lv_aload_n hx hb d_Mo_left_168 rfl (lv_at hl 1 rfl) ?_
                refine mo_get 16 S hK hm (by decide) k482 rfl rfl d_Mo_left_169 ?_
                refine lv_iload_n hx hb d_Mo_left_172 rfl (lv_at hl 2 rfl) ?_
                refine mo_iald 12 S hK hm (by decide) (by simp only [moLen]; omega) d_Mo_left_173 ?_
                refine fm_iconst S d_Mo_left_174 ?_
                refine fm_bipush S d_Mo_left_175 (by decide) ?_
                refine mo_ci (n := 3) (As := [.int (iN ((M149 12 r))), .int (iN (0)), .int (iN (18))]) (rest := []) S hK hZo hZ hA hm (fun μ sz hM => t_Mo_round l D cs Z hZo ad μ V3 M149 sz (M149 12 r) 0 18 18 (sAdd most (hV was sc) (-(sMul most x (trV y sc)).2)).2 hM (by omega) (by omega) rgM149 hdn.2.2.1 (by omega) (by omega)) (gV k663 k665 ks41 k6 k666) (by decide) (by decide +kernel) rfl hl.1 rfl (Nat.le_of_ble_eq_true rfl) ⟨Nat.le_of_ble_eq_true rfl, Nat.le_of_ble_eq_true rfl⟩ d_Mo_left_177 (fun x151 V152 M153 H locs q150 hm => ?_)
                obtain ⟨hzx151, -, hM1, hVkx151, hlx151, hrx151⟩ := q150.resolve_left (fun q => absurd q.2.1 (by decide))
                rw [hM1] at hm
                refine fm_if_eq (tgt := 187) S (by omega) d_Mo_left_180 (by decide) (fun c154 => ?_) (fun c154 => ?_)
                · refine lv_aload_n hx hb d_Mo_left_187 rfl (lv_at hl 1 rfl) ?_
                  refine mo_get 21 S hK hm (by decide) k487 rfl rfl d_Mo_left_188 ?_
                  refine mo_lret S hr hlocks hK hm d_Mo_left_191 ?_
                  unfold restS
                  rw [if_neg (by rw [← rsM136.1]; exact fun q => q c138), if_neg (by rw [← rsM145.1]; exact fun q => q c147)]
                  refine ⟨?_, fun k a b => (hVkx151 k a b).trans (hVkx2 k a b), by rw [hlx151]; split <;> simp, hF1, h22b⟩
                  rw [hrx151, rW_0, hc12]; rfl
                · exfalso; omega
              · refine fm_lconst0 S d_Mo_left_159 ?_
                refine mo_lret S hr hlocks hK hm d_Mo_left_160 ?_
                unfold restS
                rw [if_neg (by rw [← rsM136.1]; exact fun q => q c138), if_pos (by rw [← rsM145.1]; exact c147)]
                exact ⟨rfl, fun k a b => hVkx2 k a b, by rw [hlx2]; split <;> simp, hF1, h22b⟩
            · refine fm_lconst0 S d_Mo_left_122 ?_
              refine mo_lret S hr hlocks hK hm d_Mo_left_123 ?_
              unfold restS
              rw [if_pos (by rw [← rsM136.1]; exact c138)]
              exact ⟨rfl, fun k a b => hVkx2 k a b, by rw [hlx2]; split <;> simp, hF1, h22b⟩
        · refine lv_aload_n hx hb d_Mo_left_74 rfl (lv_at hl 1 rfl) ?_
          refine mo_get 3 S hK hm (by decide) k469 rfl rfl d_Mo_left_75 ?_
          refine fm_iconst S d_Mo_left_78 ?_
          refine mo_iald 2 S hK hm (by decide) (by simp only [moLen]; omega) d_Mo_left_79 ?_
          refine lv_goto (tgt := 92) hx hb d_Mo_left_80 (by decide) ?_
          refine mo_cvS (n := 2) (As := [.int (iN (1)), .int (iN ((M7 2 1)))]) (rest := []) S hK hZo hZ hA hm (fun μ sz hM => t_Mo_drop l D cs Z hZo ad μ V3 M7 sz 1 (M7 2 1) (nd (cN y)) (nd (cN y)) (cN y) (cX y) (sgn y) hM (by omega) hB1 (by omega)) (gV k559 k561 ks22 k6 k562) (by decide) (by decide +kernel) rfl hl.1 rfl (Nat.le_of_ble_eq_true rfl) ⟨Nat.le_of_ble_eq_true rfl, Nat.le_of_ble_eq_true rfl⟩ d_Mo_left_92 (fun M156 H locs q155 hm => ?_)
          obtain ⟨frM156, rgM156⟩ := q155
          have hX1 : Rv M156 3 x := frM156.rv (by decide) hvx hX1
          have hc12 : M156 12 r = sc := by rw [frM156.1 12 (by decide)]; exact hc12
          have h22b : 0 ≤ M156 2 2 ∧ M156 2 2 ≤ 320 := by rw [(frM156.2.2 2 (by decide)).1]; exact h22b
          have hF1 := hF1.tr (frM156.o3 (by decide))
          have e21 := rgM156.1
          refine lv_aload_n hx hb d_Mo_left_95 rfl (lv_at hl 1 rfl) ?_
          refine mo_get 3 S hK hm (by decide) k469 rfl rfl d_Mo_left_96 ?_
          refine fm_iconst S d_Mo_left_99 ?_
          refine mo_iald 2 S hK hm (by decide) (by simp only [moLen]; omega) d_Mo_left_100 ?_
          refine fm_if_ne (tgt := 109) S (by omega) d_Mo_left_101 (by decide) (fun c157 => ?_) (fun c157 => ?_)
          · exfalso; omega
          · refine lv_aload_n hx hb d_Mo_left_104 rfl (lv_at hl 1 rfl) ?_
            refine fm_iconst S d_Mo_left_105 ?_
            refine mo_cvS (n := 1) (As := [.int (iN (1))]) (rest := []) S hK hZo hZ hA hm (fun μ sz hM => t_Mo_zero l D cs Z hZo ad μ V3 M156 sz 1 hM (by omega)) (gV k550 k552 ks20 k6 k553) (by decide) (by decide +kernel) rfl hl.1 rfl (Nat.le_of_ble_eq_true rfl) ⟨Nat.le_of_ble_eq_true rfl, Nat.le_of_ble_eq_true rfl⟩ d_Mo_left_106 (fun M159 H locs q158 hm => ?_)
            obtain ⟨frM159, rgM159⟩ := q158
            have hX1 : Rv M159 3 x := frM159.rv (by decide) hvx hX1
            have hc12 : M159 12 r = sc := by rw [frM159.1 12 (by decide)]; exact hc12
            have h22b : 0 ≤ M159 2 2 ∧ M159 2 2 ≤ 320 := by rw [(frM159.2.2 2 (by decide)).1]; exact h22b
            have hF1 := hF1.tr (frM159.o3 (by decide))
            have hB2 : Rw M159 1 (trV y sc) := by
              rw [show trV y sc = 0 by first | exact tr_zero hsc (by omega) | (rw [tr_same (hx0 (by omega))]; exact ndc_0 (by omega))]
              exact (Rv.zero rgM159).w vB_0
            refine lv_aload_n hx hb d_Mo_left_109 rfl (lv_at hl 1 rfl) ?_
            refine fm_iconst S d_Mo_left_110 ?_
            refine fm_iconst S d_Mo_left_111 ?_
            refine mo_cvS (n := 2) (As := [.int (iN (3)), .int (iN (0))]) (rest := []) S hK hZo hZ hA hm (fun μ sz hM => t_Mo_copy l D cs Z hZo ad μ V3 M159 sz 3 0 (nd (cN x)) (cN x) (cX x) (sgn x) hM hX1 (by omega)) (gV k587 k589 ks28 k6 k590) (by decide) (by decide +kernel) rfl hl.1 rfl (Nat.le_of_ble_eq_true rfl) ⟨Nat.le_of_ble_eq_true rfl, Nat.le_of_ble_eq_true rfl⟩ d_Mo_left_112 (fun M161 H locs q160 hm => ?_)
            obtain ⟨frM161, rgM161⟩ := q160
            have hX1 : Rv M161 3 x := frM161.rv (by decide) hvx hX1
            have hc12 : M161 12 r = sc := by rw [frM161.1 12 (by decide)]; exact hc12
            have hF1 := hF1.tr (frM161.o3 (by decide))
            have h22b : 0 ≤ M161 2 2 ∧ M161 2 2 ≤ 320 := by rw [(frM161.2.2 2 (by decide)).1]; exact h22b
            have hA2 : Rw M161 0 x := Rv.w rgM161 hvx
            have hB2 := frM161.rw (r' := 1) (by decide) hB2
            obtain ⟨na, NA, xa, sa, ga, va, na3, na4, na5, na6, na7, na8, na9⟩ := hA2
            obtain ⟨nb, NB, xb, sb, gb, vb, nb3, nb4, nb5, nb6, nb7, nb8, nb9⟩ := hB2
            refine lv_aload_n hx hb d_Mo_left_115 rfl (lv_at hl 1 rfl) ?_
            refine mo_ciS (n := 0) (As := []) (rest := []) S hK hZo hZ hA hm (fun μ sz hM => t_Mo_multiply l D cs Z hZo ad μ V3 M161 sz most na NA nb NB xa sa xb sb hM ga gb (by omega) (by omega) hpr) (gV k603 k605 ks32 k6 k606) (by decide) (by decide +kernel) rfl hl.1 rfl (Nat.le_of_ble_eq_true rfl) ⟨Nat.le_of_ble_eq_true rfl, Nat.le_of_ble_eq_true rfl⟩ d_Mo_left_116 (fun x164 M163 H locs q162 hm => ?_)
            have frM163 := q162.1
            have rsM163 := mul_resW hpr.2 va vb na9 nb9 (by omega) (by omega) q162.2
            have hX1 : Rv M163 3 x := frM163.rv (by decide) hvx hX1
            have hc12 : M163 12 r = sc := by rw [frM163.1 12 (by decide)]; exact hc12
            have hF1 := hF1.tr (frM163.o3 (by decide))
            have hmn := sMul_nd (a := x) (b := trV y sc) hpr.2
            have hm1 := hmn.1
            have hm2 := hmn.2.1
            rw [← rsM163.1] at hm1 hm2
            have h22b := rsM163.2.2
            refine fm_if_eq (tgt := 124) S (by omega) d_Mo_left_119 (by decide) (fun c165 => ?_) (fun c165 => ?_)
            · have hC2 := rsM163.2.1 c165
              have hm31 := hmn.2.2.1.1
              refine lv_aload_n hx hb d_Mo_left_124 rfl (lv_at hl 1 rfl) ?_
              refine fm_iconst S d_Mo_left_125 ?_
              refine fm_iconst S d_Mo_left_126 ?_
              refine mo_cvS (n := 2) (As := [.int (iN (2)), .int (iN (1))]) (rest := []) S hK hZo hZ hA hm (fun μ sz hM => t_Mo_copy l D cs Z hZo ad μ V3 M163 sz 2 1 (nd (cN (sMul most x (trV y sc)).2)) (cN (sMul most x (trV y sc)).2) (cX (sMul most x (trV y sc)).2) (sgn (sMul most x (trV y sc)).2) hM hC2 (by omega)) (gV k587 k589 ks28 k6 k590) (by decide) (by decide +kernel) rfl hl.1 rfl (Nat.le_of_ble_eq_true rfl) ⟨Nat.le_of_ble_eq_true rfl, Nat.le_of_ble_eq_true rfl⟩ d_Mo_left_127 (fun M167 H locs q166 hm => ?_)
              obtain ⟨frM167, rgM167⟩ := q166
              have hX1 : Rv M167 3 x := frM167.rv (by decide) hvx hX1
              have hc12 : M167 12 r = sc := by rw [frM167.1 12 (by decide)]; exact hc12
              have hF1 := hF1.tr (frM167.o3 (by decide))
              have h22b : 0 ≤ M167 2 2 ∧ M167 2 2 ≤ 320 := by rw [(frM167.2.2 2 (by decide)).1]; exact h22b
              have h41 := rgM167.2.2.1
              have h42 := sgn_in (sMul most x (trV y sc)).2
              refine lv_aload_n hx hb d_Mo_left_130 rfl (lv_at hl 1 rfl) ?_
              refine mo_get 5 S hK hm (by decide) k471 rfl rfl d_Mo_left_131 ?_
              refine fm_iconst S d_Mo_left_134 ?_
              refine fm_iconst S d_Mo_left_135 ?_
              refine lv_aload_n hx hb d_Mo_left_136 rfl (lv_at hl 1 rfl) ?_
              refine mo_get 5 S hK hm (by decide) k471 rfl rfl d_Mo_left_137 ?_
              refine fm_iconst S d_Mo_left_140 ?_
              refine mo_iald 4 S hK hm (by decide) (by simp only [moLen]; omega) d_Mo_left_141 ?_
              refine fm_isub S d_Mo_left_142 ?_
              refine mo_iast 4 S hK hm (by decide) (by simp only [moLen]; omega) d_Mo_left_143 (fun M168 H locs eM168 hm => ?_)
              have hB3 : Rv M168 1 (-(sMul most x (trV y sc)).2) := Rv.neg rgM167 eM168 (by rw [h41]; omega)
              have frM168 := Fr.s eM168 (by decide)
              have hX1 : Rv M168 3 x := frM168.rv (by decide) hvx hX1
              have hc12 : M168 12 r = sc := by rw [frM168.1 12 (by decide)]; exact hc12
              have hF1 := hF1.tr (frM168.o3 (by decide))
              have h22b : 0 ≤ M168 2 2 ∧ M168 2 2 ≤ 320 := by rw [(frM168.2.2 2 (by decide)).1]; exact h22b
              refine lv_aload_n hx hb d_Mo_left_144 rfl (lv_at hl 1 rfl) ?_
              refine lv_lload_n hx hb d_Mo_left_145 rfl (lv_at hl 3 rfl) ?_
              refine lv_iload hx hb d_Mo_left_146 (lv_at hl 0 rfl) ?_
              refine fm_iconst S d_Mo_left_148 ?_
              refine mo_cvS (n := 3) (As := [.long (jN (was)), .int (iN (x8)), .int (iN (0))]) (rest := []) S hK hZo hZ hA hm (fun μ sz hM => t_Mo_whole l D cs Z hZo ad μ V3 M168 sz was x8 0 hM (by omega) (by omega)) (gV k546 k548 ks19 k6 k549) (by decide) (by decide +kernel) rfl hl.1 rfl (Nat.le_of_ble_eq_true rfl) ⟨Nat.le_of_ble_eq_true rfl, Nat.le_of_ble_eq_true rfl⟩ d_Mo_left_149 (fun M170 H locs q169 hm => ?_)
              obtain ⟨frM170, rgM170⟩ := q169
              have hX1 : Rv M170 3 x := frM170.rv (by decide) hvx hX1
              have hc12 : M170 12 r = sc := by rw [frM170.1 12 (by decide)]; exact hc12
              have hF1 := hF1.tr (frM170.o3 (by decide))
              have h22b : 0 ≤ M170 2 2 ∧ M170 2 2 ≤ 320 := by rw [(frM170.2.2 2 (by decide)).1]; exact h22b
              rw [show x8 = 0 - sc by omega] at rgM170
              have hA3 := whole_rw rgM170 hsc hj
              have hB3 := frM170.rv (r' := 1) (by decide) (vB_neg hmn.2.2.1) hB3
              obtain ⟨na, NA, xa, sa, ga, va, na3, na4, na5, na6, na7, na8, na9⟩ := hA3
              obtain ⟨nb, NB, xb, sb, gb, vb, nb3, nb4, nb5, nb6, nb7, nb8, nb9⟩ := (hB3.w (vB_neg hmn.2.2.1))
              refine lv_aload_n hx hb d_Mo_left_152 rfl (lv_at hl 1 rfl) ?_
              refine mo_ciS (n := 0) (As := []) (rest := []) S hK hZo hZ hA hm (fun μ sz hM => t_Mo_add l D cs Z hZo ad μ V3 M170 sz most na NA nb NB xa sa xb sb hM ga gb (by omega) (fun h => na9 (na8 h)) (fun h => nb9 (nb8 h)) (by omega) hpr) (gV k583 k585 ks27 k6 k586) (by decide) (by decide +kernel) rfl hl.1 rfl (Nat.le_of_ble_eq_true rfl) ⟨Nat.le_of_ble_eq_true rfl, Nat.le_of_ble_eq_true rfl⟩ d_Mo_left_153 (fun x173 M172 H locs q171 hm => ?_)
              have frM172 := q171.1
              have rsM172 := add_resW (a := (hV was sc)) (b := (-(sMul most x (trV y sc)).2)) hpr.2 (by obtain ⟨N, x, sg, r1, r2, r3⟩ := q171.2; exact ⟨N, x, sg, r1, by rw [r2, va, vb], r3⟩)
              have hX1 : Rv M172 3 x := frM172.rv (by decide) hvx hX1
              have hc12 : M172 12 r = sc := by rw [frM172.1 12 (by decide)]; exact hc12
              have hF1 := hF1.tr (frM172.o3 (by decide))
              have hdn := sAdd_nd (a := hV was sc) (b := -(sMul most x (trV y sc)).2) hpr.2
              have hd1 := hdn.1
              have hd2 := hdn.2.1
              rw [← rsM172.1] at hd1 hd2
              have h22b := rsM172.2.2
              refine fm_if_eq (tgt := 161) S (by omega) d_Mo_left_156 (by decide) (fun c174 => ?_) (fun c174 => ?_)
              · have hC3 := rsM172.2.1 c174
                have hd31 := hdn.2.2.1.1
                refine lv_aload_n hx hb d_Mo_left_161 rfl (lv_at hl 1 rfl) ?_
                refine fm_iconst S d_Mo_left_162 ?_
                refine fm_iconst S d_Mo_left_163 ?_
                refine mo_cvS (n := 2) (As := [.int (iN (2)), .int (iN (4))]) (rest := []) S hK hZo hZ hA hm (fun μ sz hM => t_Mo_copy l D cs Z hZo ad μ V3 M172 sz 2 4 (nd (cN (sAdd most (hV was sc) (-(sMul most x (trV y sc)).2)).2)) (cN (sAdd most (hV was sc) (-(sMul most x (trV y sc)).2)).2) (cX (sAdd most (hV was sc) (-(sMul most x (trV y sc)).2)).2) (sgn (sAdd most (hV was sc) (-(sMul most x (trV y sc)).2)).2) hM hC3 (by omega)) (gV k587 k589 ks28 k6 k590) (by decide) (by decide +kernel) rfl hl.1 rfl (Nat.le_of_ble_eq_true rfl) ⟨Nat.le_of_ble_eq_true rfl, Nat.le_of_ble_eq_true rfl⟩ d_Mo_left_164 (fun M176 H locs q175 hm => ?_)
                obtain ⟨frM176, rgM176⟩ := q175
                have hX1 : Rv M176 3 x := frM176.rv (by decide) hvx hX1
                have hc12 : M176 12 r = sc := by rw [frM176.1 12 (by decide)]; exact hc12
                have hF1 := hF1.tr (frM176.o3 (by decide))
                have h22b : 0 ≤ M176 2 2 ∧ M176 2 2 ≤ 320 := by rw [(frM176.2.2 2 (by decide)).1]; exact h22b
                refine lv_aload_n hx hb d_Mo_left_167 rfl (lv_at hl 1 rfl) ?_
                refine lv_aload_n hx hb d_Mo_left_168 rfl (lv_at hl 1 rfl) ?_
                refine mo_get 16 S hK hm (by decide) k482 rfl rfl d_Mo_left_169 ?_
                refine lv_iload_n hx hb d_Mo_left_172 rfl (lv_at hl 2 rfl) ?_
                refine mo_iald 12 S hK hm (by decide) (by simp only [moLen]; omega) d_Mo_left_173 ?_
                refine fm_iconst S d_Mo_left_174 ?_
                refine fm_bipush S d_Mo_left_175 (by decide) ?_
                refine mo_ci (n := 3) (As := [.int (iN ((M176 12 r))), .int (iN (0)), .int (iN (18))]) (rest := []) S hK hZo hZ hA hm (fun μ sz hM => t_Mo_round l D cs Z hZo ad μ V3 M176 sz (M176 12 r) 0 18 18 (sAdd most (hV was sc) (-(sMul most x (trV y sc)).2)).2 hM (by omega) (by omega) rgM176 hdn.2.2.1 (by omega) (by omega)) (gV k663 k665 ks41 k6 k666) (by decide) (by decide +kernel) rfl hl.1 rfl (Nat.le_of_ble_eq_true rfl) ⟨Nat.le_of_ble_eq_true rfl, Nat.le_of_ble_eq_true rfl⟩ d_Mo_left_177 (fun x178 V179 M180 H locs q177 hm => ?_)
                obtain ⟨hzx178, -, hM1, hVkx178, hlx178, hrx178⟩ := q177.resolve_left (fun q => absurd q.2.1 (by decide))
                rw [hM1] at hm
                refine fm_if_eq (tgt := 187) S (by omega) d_Mo_left_180 (by decide) (fun c181 => ?_) (fun c181 => ?_)
                · refine lv_aload_n hx hb d_Mo_left_187 rfl (lv_at hl 1 rfl) ?_
                  refine mo_get 21 S hK hm (by decide) k487 rfl rfl d_Mo_left_188 ?_
                  refine mo_lret S hr hlocks hK hm d_Mo_left_191 ?_
                  unfold restS
                  rw [if_neg (by rw [← rsM163.1]; exact fun q => q c165), if_neg (by rw [← rsM172.1]; exact fun q => q c174)]
                  refine ⟨?_, fun k a b => (hVkx178 k a b).trans (hVkx2 k a b), by rw [hlx178]; split <;> simp, hF1, h22b⟩
                  rw [hrx178, rW_0, hc12]; rfl
                · exfalso; omega
              · refine fm_lconst0 S d_Mo_left_159 ?_
                refine mo_lret S hr hlocks hK hm d_Mo_left_160 ?_
                unfold restS
                rw [if_neg (by rw [← rsM163.1]; exact fun q => q c165), if_pos (by rw [← rsM172.1]; exact c174)]
                exact ⟨rfl, fun k a b => hVkx2 k a b, by rw [hlx2]; split <;> simp, hF1, h22b⟩
            · refine fm_lconst0 S d_Mo_left_122 ?_
              refine mo_lret S hr hlocks hK hm d_Mo_left_123 ?_
              unfold restS
              rw [if_pos (by rw [← rsM163.1]; exact c165)]
              exact ⟨rfl, fun k a b => hVkx2 k a b, by rw [hlx2]; split <;> simp, hF1, h22b⟩
  · exfalso; omega
