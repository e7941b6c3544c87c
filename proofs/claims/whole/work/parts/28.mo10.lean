set_option maxHeartbeats 4000000 in
set_option maxRecDepth 100000 in
/-- operated(op), kinds 0 to 3 -/
theorem t_Mo_operatedW (l : Launch) (D : va_G) (cs : Nat → ClassId) (Z : (Nat → Prop) → State → Heap → Prop) (hZo : fm_Zok Z) (ad : Nat → Nat) (μ : fm_Mu) (V : Nat → Int) (M : Nat → Int → Int) (sz : Nat) (op : Int) (most : Nat) (a : Int) (b : Int) (hM : moS cs μ ad V M) (hop : 0 ≤ op ∧ op ≤ 3) (h22 : 0 ≤ M 2 2 ∧ M 2 2 ≤ 320) (hra : Rw M 0 a) (hrb : Rw M 1 b) (hpr : V 1 = (most : Int) ∧ 1 ≤ most ∧ most ≤ 31) : Met l y_Mo_operated (Cond.code y_Mo_operated c_Mo_operated 2 (some .int) :: wA) ({ frames := 4, cells := 0, slots := 0, locals := 95 }) (fm_Pc D clsA (tysA cs) Z μ sz [.ref (ad 0), .int (iN (op))]) (moQi D cs ad μ sz (fun z V' M' => V' = V ∧ FrO M M' ∧ resOk M' z (sOp most op a b))) 0 0 (fm_A μ sz) := by
  refine mo_of hM (by decide +kernel) (Nat.le_of_ble_eq_true rfl) (fun p e s m below meth c S hr hlocks hsz hm hK hZ hA ls hl => ?_)
  subst hsz
  obtain ⟨hx, hb, hml, hown, hts⟩ := id S
  have hl : lv_has ls 2 [(0, .ref (ad 0)), (1, .int (iN (op)))] := hl
  refine lv_iload_n hx hb d_Mo_operated_0 rfl (lv_at hl 1 rfl) ?_
  rcases (show op = 0 ∨ op = 1 ∨ op = 2 ∨ op = 3 ∨ op = 4 ∨ (op < 0 ∨ 4 < op) by omega) with c1 | c1 | c1 | c1 | c1 | c1
  · refine lv_tableIn (tgt := 36) hx hb d_Mo_operated_1 (by rw [iN_toInt (by omega)]; omega) (by rw [iN_toInt (by omega)]; omega) (by rw [iN_toInt (by omega), c1]; rfl) (by decide) ?_
    obtain ⟨na, NA, xa, sa, ga, va, na3, na4, na5, na6, na7, na8, na9⟩ := hra
    obtain ⟨nb, NB, xb, sb, gb, vb, nb3, nb4, nb5, nb6, nb7, nb8, nb9⟩ := hrb
    refine lv_aload_n hx hb d_Mo_operated_36 rfl (lv_at hl 0 rfl) ?_
    refine mo_ciS (n := 0) (As := []) (rest := []) S hK hZo hZ hA hm (fun μ sz hM => t_Mo_add l D cs Z hZo ad μ V M sz most na NA nb NB xa sa xb sb hM ga gb (by omega) (fun h => na9 (na8 h)) (fun h => nb9 (nb8 h)) (by omega) hpr) (gV k583 k585 ks27 k6 k586) (by decide) (by decide +kernel) rfl hl.1 rfl (Nat.le_of_ble_eq_true rfl) ⟨Nat.le_of_ble_eq_true rfl, Nat.le_of_ble_eq_true rfl⟩ d_Mo_operated_37 (fun x4 M3 H locs q2 hm => ?_)
    have frM3 := q2.1
    have rsM3 := add_resW (a := a) (b := b) hpr.2 (by obtain ⟨N, x, sg, r1, r2, r3⟩ := q2.2; exact ⟨N, x, sg, r1, by rw [r2, va, vb], r3⟩)
    refine mo_iret S hr hlocks hK hm d_Mo_operated_40 ?_
    unfold sOp
    rw [if_pos c1]
    exact ⟨rfl, frM3.o (by decide), rsM3⟩
  · refine lv_tableIn (tgt := 41) hx hb d_Mo_operated_1 (by rw [iN_toInt (by omega)]; omega) (by rw [iN_toInt (by omega)]; omega) (by rw [iN_toInt (by omega), c1]; rfl) (by decide) ?_
    have h41 : -1 ≤ M 4 1 ∧ M 4 1 ≤ 1 := by
      obtain ⟨n9, N9, x9, s9, g9, v9, r9⟩ := hrb
      rw [g9.2.2.1]; omega
    refine lv_aload_n hx hb d_Mo_operated_41 rfl (lv_at hl 0 rfl) ?_
    refine mo_get 5 S hK hm (by decide) k471 rfl rfl d_Mo_operated_42 ?_
    refine fm_iconst S d_Mo_operated_45 ?_
    refine fm_iconst S d_Mo_operated_46 ?_
    refine lv_aload_n hx hb d_Mo_operated_47 rfl (lv_at hl 0 rfl) ?_
    refine mo_get 5 S hK hm (by decide) k471 rfl rfl d_Mo_operated_48 ?_
    refine fm_iconst S d_Mo_operated_51 ?_
    refine mo_iald 4 S hK hm (by decide) (by simp only [moLen]; omega) d_Mo_operated_52 ?_
    refine fm_isub S d_Mo_operated_53 ?_
    refine mo_iast 4 S hK hm (by decide) (by simp only [moLen]; omega) d_Mo_operated_54 (fun M5 H locs eM5 hm => ?_)
    have hrb1 := hrb.neg eM5 rfl
    have hra1 := (Fr.s eM5 (by decide)).rw (r' := 0) (by decide) hra
    obtain ⟨na, NA, xa, sa, ga, va, na3, na4, na5, na6, na7, na8, na9⟩ := hra1
    obtain ⟨nb, NB, xb, sb, gb, vb, nb3, nb4, nb5, nb6, nb7, nb8, nb9⟩ := hrb1
    refine lv_aload_n hx hb d_Mo_operated_55 rfl (lv_at hl 0 rfl) ?_
    refine mo_ciS (n := 0) (As := []) (rest := []) S hK hZo hZ hA hm (fun μ sz hM => t_Mo_add l D cs Z hZo ad μ V M5 sz most na NA nb NB xa sa xb sb hM ga gb (by omega) (fun h => na9 (na8 h)) (fun h => nb9 (nb8 h)) (by omega) hpr) (gV k583 k585 ks27 k6 k586) (by decide) (by decide +kernel) rfl hl.1 rfl (Nat.le_of_ble_eq_true rfl) ⟨Nat.le_of_ble_eq_true rfl, Nat.le_of_ble_eq_true rfl⟩ d_Mo_operated_56 (fun x8 M7 H locs q6 hm => ?_)
    have frM7 := q6.1
    have rsM7 := add_resW (a := a) (b := (-b)) hpr.2 (by obtain ⟨N, x, sg, r1, r2, r3⟩ := q6.2; exact ⟨N, x, sg, r1, by rw [r2, va, vb], r3⟩)
    refine mo_iret S hr hlocks hK hm d_Mo_operated_59 ?_
    unfold sOp
    rw [if_neg (by omega), if_pos c1]
    exact ⟨rfl, ((Fr.s eM5 (by decide)).o (by decide)).tr (frM7.o (by decide)), rsM7⟩
  · refine lv_tableIn (tgt := 60) hx hb d_Mo_operated_1 (by rw [iN_toInt (by omega)]; omega) (by rw [iN_toInt (by omega)]; omega) (by rw [iN_toInt (by omega), c1]; rfl) (by decide) ?_
    obtain ⟨na, NA, xa, sa, ga, va, na3, na4, na5, na6, na7, na8, na9⟩ := hra
    obtain ⟨nb, NB, xb, sb, gb, vb, nb3, nb4, nb5, nb6, nb7, nb8, nb9⟩ := hrb
    refine lv_aload_n hx hb d_Mo_operated_60 rfl (lv_at hl 0 rfl) ?_
    refine mo_ciS (n := 0) (As := []) (rest := []) S hK hZo hZ hA hm (fun μ sz hM => t_Mo_multiply l D cs Z hZo ad μ V M sz most na NA nb NB xa sa xb sb hM ga gb (by omega) (by omega) hpr) (gV k603 k605 ks32 k6 k606) (by decide) (by decide +kernel) rfl hl.1 rfl (Nat.le_of_ble_eq_true rfl) ⟨Nat.le_of_ble_eq_true rfl, Nat.le_of_ble_eq_true rfl⟩ d_Mo_operated_61 (fun x11 M10 H locs q9 hm => ?_)
    have frM10 := q9.1
    have rsM10 := mul_resW hpr.2 va vb na9 nb9 (by omega) (by omega) q9.2
    refine mo_iret S hr hlocks hK hm d_Mo_operated_64 ?_
    unfold sOp
    rw [if_neg (by omega), if_neg (by omega), if_pos c1]
    exact ⟨rfl, frM10.o (by decide), rsM10⟩
  · refine lv_tableIn (tgt := 65) hx hb d_Mo_operated_1 (by rw [iN_toInt (by omega)]; omega) (by rw [iN_toInt (by omega)]; omega) (by rw [iN_toInt (by omega), c1]; rfl) (by decide) ?_
    obtain ⟨na, NA, xa, sa, ga, va, na3, na4, na5, na6, na7, na8, na9⟩ := hra
    obtain ⟨nb, NB, xb, sb, gb, vb, nb3, nb4, nb5, nb6, nb7, nb8, nb9⟩ := hrb
    refine lv_aload_n hx hb d_Mo_operated_65 rfl (lv_at hl 0 rfl) ?_
    refine mo_ciS (n := 0) (As := []) (rest := []) S hK hZo hZ hA hm (fun μ sz hM => t_Mo_divide l D cs Z hZo ad μ V M sz most na NA nb NB xa sa xb sb hM ga gb (by omega) nb8 h22 (by omega) hpr) (gV k607 k609 ks33 k6 k610) (by decide) (by decide +kernel) rfl hl.1 rfl (Nat.le_of_ble_eq_true rfl) ⟨Nat.le_of_ble_eq_true rfl, Nat.le_of_ble_eq_true rfl⟩ d_Mo_operated_66 (fun x14 M13 H locs q12 hm => ?_)
    have frM13 := q12.1
    have rsM13 := div_resW (nb := nb) hpr.2 va vb na9 nb9 (by omega) (by omega) (by omega) gb.lt q12.2
    refine mo_iret S hr hlocks hK hm d_Mo_operated_69 ?_
    unfold sOp
    rw [if_neg (by omega), if_neg (by omega), if_neg (by omega), if_pos c1]
    exact ⟨rfl, frM13.o (by decide), rsM13⟩
  · refine lv_tableIn (tgt := 70) hx hb d_Mo_operated_1 (by rw [iN_toInt (by omega)]; omega) (by rw [iN_toInt (by omega)]; omega) (by rw [iN_toInt (by omega), c1]; rfl) (by decide) ?_
    exfalso; omega
  · refine lv_tableOut (tgt := 75) hx hb d_Mo_operated_1 (by rw [iN_toInt (by omega)]; omega) (by decide) ?_
    exfalso; omega

set_option maxHeartbeats 4000000 in
set_option maxRecDepth 100000 in
/-- error(r) -/
theorem t_Mo_error (l : Launch) (D : va_G) (cs : Nat → ClassId) (Z : (Nat → Prop) → State → Heap → Prop) (hZo : fm_Zok Z) (ad : Nat → Nat) (μ : fm_Mu) (V : Nat → Int) (M : Nat → Int → Int) (sz : Nat) (r : Int) (σ : Sg) (hM : moS cs μ ad V M) (hir : inI r) (hI : moInv V M σ) : Met l y_Mo_error (Cond.code y_Mo_error c_Mo_error 2 (some .boolean) :: wA) ({ frames := 1, cells := 0, slots := 0, locals := 21 }) (fm_Pc D clsA (tysA cs) Z μ sz [.ref (ad 0), .int (iN (r))]) (moQi D cs ad μ sz (fun z V' M' => z = sp_error σ r ∧ moInv V' M' σ ∧ V' 0 = 0)) 0 0 (fm_A μ sz) := by
  refine mo_of hM (by decide +kernel) (Nat.le_of_ble_eq_true rfl) (fun p e s m below meth c S hr hlocks hsz hm hK hZ hA ls hl => ?_)
  subst hsz
  obtain ⟨hx, hb, hml, hown, hts⟩ := id S
  have hl : lv_has ls 2 [(0, .ref (ad 0)), (1, .int (iN (r)))] := hl
  refine lv_aload_n hx hb d_Mo_error_0 rfl (lv_at hl 0 rfl) ?_
  refine fm_iconst S d_Mo_error_1 ?_
  refine mo_puti 0 S hK hm (by decide) k466 d_Mo_error_2 (fun V1 H locs eV1 hm => ?_)
  have hI := hI.v0 eV1
  have hI1 := hI.p
  have hI2 := hI.c
  have hI3 := hI.r
  refine lv_aload_n hx hb d_Mo_error_5 rfl (lv_at hl 0 rfl) ?_
  refine lv_iload_n hx hb d_Mo_error_6 rfl (lv_at hl 1 rfl) ?_
  refine mo_pi (n := 1) (As := [.int (iN (r))]) (rest := []) S hK hZo hZ hA hm (fun μ sz hM => t_Mo_isReceiver l D cs Z hZo ad μ V1 M sz r hM (by omega) (by omega)) (gV k644 k646 ks38 k6 k647) (by decide) (by decide +kernel) rfl hl.1 rfl (Nat.le_of_ble_eq_true rfl) ⟨Nat.le_of_ble_eq_true rfl, Nat.le_of_ble_eq_true rfl⟩ d_Mo_error_7 (fun x3 q2 => ?_)
  refine fm_if_eq (tgt := 26) S (by omega) d_Mo_error_10 (by decide) (fun c4 => ?_) (fun c4 => ?_)
  · refine fm_iconst S d_Mo_error_26 ?_
    refine mo_zret S hr hlocks hK hm (by omega) d_Mo_error_27 ?_
    unfold sp_error
    first | (rw [if_pos (by omega)]; exact ⟨by omega, hI, by rw [eV1]; rfl⟩) | (rw [if_neg (by omega)]; exact ⟨rfl, hI, by rw [eV1]; rfl⟩)
  · have hwx := hI.rv (r := r) (by omega) (by omega)
    have hwr := hwx.1.2.2.2.2.2
    have hw9 := hwx.2.2.2.2.2.2.2.2.2
    refine lv_aload_n hx hb d_Mo_error_13 rfl (lv_at hl 0 rfl) ?_
    refine mo_get 20 S hK hm (by decide) k486 rfl rfl d_Mo_error_14 ?_
    refine lv_iload_n hx hb d_Mo_error_17 rfl (lv_at hl 1 rfl) ?_
    refine mo_zald S hK hm (by omega) d_Mo_error_18 ?_
    refine fm_if_eq (tgt := 26) S (by omega) d_Mo_error_19 (by decide) (fun c5 => ?_) (fun c5 => ?_)
    · refine fm_iconst S d_Mo_error_26 ?_
      refine mo_zret S hr hlocks hK hm (by omega) d_Mo_error_27 ?_
      unfold sp_error
      first | (rw [if_pos (by omega)]; exact ⟨by omega, hI, by rw [eV1]; rfl⟩) | (rw [if_neg (by omega)]; exact ⟨rfl, hI, by rw [eV1]; rfl⟩)
    · refine fm_iconst S d_Mo_error_22 ?_
      refine lv_goto (tgt := 27) hx hb d_Mo_error_23 (by decide) ?_
      refine mo_zret S hr hlocks hK hm (by omega) d_Mo_error_27 ?_
      unfold sp_error
      first | (rw [if_pos (by omega)]; exact ⟨by omega, hI, by rw [eV1]; rfl⟩) | (rw [if_neg (by omega)]; exact ⟨rfl, hI, by rw [eV1]; rfl⟩)

set_option maxHeartbeats 4000000 in
set_option maxRecDepth 100000 in
/-- exact(n, side) -/
theorem t_Mo_exact (l : Launch) (D : va_G) (cs : Nat → ClassId) (Z : (Nat → Prop) → State → Heap → Prop) (hZo : fm_Zok Z) (ad : Nat → Nat) (μ : fm_Mu) (V : Nat → Int) (M : Nat → Int → Int) (sz : Nat) (n : Int) (side : Int) (σ : Sg) (hM : moS cs μ ad V M) (hin : inI n) (his : inI side) (hI : moInv V M σ) : Met l y_Mo_exact (Cond.code y_Mo_exact c_Mo_exact 4 (some .long) :: wA) ({ frames := 1, cells := 0, slots := 0, locals := 21 }) (fm_Pc D clsA (tysA cs) Z μ sz [.ref (ad 0), .int (iN (n)), .int (iN (side))]) (moQl D cs ad μ sz (fun z V' M' => z = (sp_exact σ n side).2 ∧ moInv V' M' σ ∧ V' 0 = (sp_exact σ n side).1)) 0 0 (fm_A μ sz) := by
  refine mo_of hM (by decide +kernel) (Nat.le_of_ble_eq_true rfl) (fun p e s m below meth c S hr hlocks hsz hm hK hZ hA ls hl => ?_)
  subst hsz
  obtain ⟨hx, hb, hml, hown, hts⟩ := id S
  have hl : lv_has ls 4 [(0, .ref (ad 0)), (1, .int (iN (n))), (2, .int (iN (side)))] := hl
  refine lv_aload_n hx hb d_Mo_exact_0 rfl (lv_at hl 0 rfl) ?_
  refine fm_iconst S d_Mo_exact_1 ?_
  refine mo_puti 0 S hK hm (by decide) k466 d_Mo_exact_2 (fun V1 H locs eV1 hm => ?_)
  have hI := hI.v0 eV1
  have hI1 := hI.p
  have hI2 := hI.c
  have hI3 := hI.r
  refine lv_aload_n hx hb d_Mo_exact_5 rfl (lv_at hl 0 rfl) ?_
  refine lv_iload_n hx hb d_Mo_exact_6 rfl (lv_at hl 1 rfl) ?_
  refine mo_pi (n := 1) (As := [.int (iN (n))]) (rest := []) S hK hZo hZ hA hm (fun μ sz hM => t_Mo_isNode l D cs Z hZo ad μ V1 M sz n hM (by omega) (by omega)) (gV k571 k573 ks24 k6 k574) (by decide) (by decide +kernel) rfl hl.1 rfl (Nat.le_of_ble_eq_true rfl) ⟨Nat.le_of_ble_eq_true rfl, Nat.le_of_ble_eq_true rfl⟩ d_Mo_exact_7 (fun x3 q2 => ?_)
  refine fm_if_eq (tgt := 17) S (by omega) d_Mo_exact_10 (by decide) (fun c4 => ?_) (fun c4 => ?_)
  · refine lv_ldc2 (v := jN (-1)) hx hb hown (hts _ k635) d_Mo_exact_17 ?_
    refine mo_lret S hr hlocks hK hm d_Mo_exact_20 ?_
    unfold sp_exact
    rw [if_pos (by omega)]
    exact ⟨rfl, hI, by rw [eV1]; rfl⟩
  · refine lv_iload_n hx hb d_Mo_exact_13 rfl (lv_at hl 2 rfl) ?_
    refine fm_if_ge (tgt := 21) S (by omega) d_Mo_exact_14 (by decide) (fun c5 => ?_) (fun c5 => ?_)
    · have hwa := hI.nv (n := n) (by omega) (by omega)
      have e10 := hwa.1.1
      have e7 := hwa.1.2.1
      have e8 := hwa.1.2.2.1
      have e9 := hwa.1.2.2.2.1
      have b31 := hwa.2.2.2.1.1
      have b32 := hwa.2.2.2.1.2.1
      have b33 := hwa.2.2.2.1.2.2
      have b34 := sgn_in (sN σ n.toNat).2
      have ba1 := hwa.2.1
      have ba2 := hwa.2.2.1
      refine lv_aload_n hx hb d_Mo_exact_21 rfl (lv_at hl 0 rfl) ?_
      refine mo_get 11 S hK hm (by decide) k477 rfl rfl d_Mo_exact_22 ?_
      refine lv_iload_n hx hb d_Mo_exact_25 rfl (lv_at hl 1 rfl) ?_
      refine mo_iald 10 S hK hm (by decide) (by simp only [moLen]; omega) d_Mo_exact_26 ?_
      refine fm_if_eq (tgt := 37) S (by omega) d_Mo_exact_27 (by decide) (fun c6 => ?_) (fun c6 => ?_)
      · refine lv_iload_n hx hb d_Mo_exact_37 rfl (lv_at hl 2 rfl) ?_
        refine fm_if_ne (tgt := 49) S (by omega) d_Mo_exact_38 (by decide) (fun c7 => ?_) (fun c7 => ?_)
        · refine lv_iload_n hx hb d_Mo_exact_49 rfl (lv_at hl 2 rfl) ?_
          refine fm_iconst S d_Mo_exact_50 ?_
          refine fm_icmp_ne (tgt := 62) S (by omega) (by omega) d_Mo_exact_51 (by decide) (fun c8 => ?_) (fun c8 => ?_)
          · refine lv_iload_n hx hb d_Mo_exact_62 rfl (lv_at hl 2 rfl) ?_
            refine fm_iconst S d_Mo_exact_63 ?_
            refine fm_icmp_ne (tgt := 75) S (by omega) (by omega) d_Mo_exact_64 (by decide) (fun c9 => ?_) (fun c9 => ?_)
            · refine lv_iload_n hx hb d_Mo_exact_75 rfl (lv_at hl 2 rfl) ?_
              refine fm_iconst S d_Mo_exact_76 ?_
              refine fm_isub S d_Mo_exact_77 ?_
              refine fm_topi (fun x10 hx10 => ?_)
              refine lv_istore_n (lv' := [(3, .int (iN (x10))), (0, .ref (ad 0)), (1, .int (iN (n))), (2, .int (iN (side)))]) hx hb d_Mo_exact_78 rfl hl (by decide) rfl (fun ls hl => ?_)
              refine lv_iload_n hx hb d_Mo_exact_79 rfl (lv_at hl 0 rfl) ?_
              refine lv_aload_n hx hb d_Mo_exact_80 rfl (lv_at hl 1 rfl) ?_
              refine mo_get 8 S hK hm (by decide) k474 rfl rfl d_Mo_exact_81 ?_
              refine lv_iload_n hx hb d_Mo_exact_84 rfl (lv_at hl 2 rfl) ?_
              refine mo_iald 7 S hK hm (by decide) (by simp only [moLen]; omega) d_Mo_exact_85 ?_
              refine fm_icmp_ge (tgt := 113) S (by omega) (by omega) d_Mo_exact_86 (by decide) (fun c11 => ?_) (fun c11 => ?_)
              · refine lv_ldc2 (v := jN (-1)) hx hb hown (hts _ k635) d_Mo_exact_113 ?_
                refine mo_lret S hr hlocks hK hm d_Mo_exact_116 ?_
                unfold sp_exact
                rw [if_neg (by omega), if_neg (by omega), if_neg (by omega), if_neg (by omega), if_neg (by omega)]
                first | (rw [if_pos (by omega)]; exact ⟨by rw [← hdg]; simp, hI, by rw [eV1]; rfl⟩) | (rw [if_neg (by omega)]; exact ⟨rfl, hI, by rw [eV1]; rfl⟩)
              · refine lv_aload_n hx hb d_Mo_exact_89 rfl (lv_at hl 1 rfl) ?_
                refine mo_get 7 S hK hm (by decide) k473 rfl rfl d_Mo_exact_90 ?_
                refine fm_bipush S d_Mo_exact_93 (by decide) ?_
                refine lv_iload_n hx hb d_Mo_exact_95 rfl (lv_at hl 2 rfl) ?_
                refine fm_imul S d_Mo_exact_96 ?_
                refine lv_aload_n hx hb d_Mo_exact_97 rfl (lv_at hl 1 rfl) ?_
                refine mo_get 8 S hK hm (by decide) k474 rfl rfl d_Mo_exact_98 ?_
                refine lv_iload_n hx hb d_Mo_exact_101 rfl (lv_at hl 2 rfl) ?_
                refine mo_iald 7 S hK hm (by decide) (by simp only [moLen]; omega) d_Mo_exact_102 ?_
                refine fm_iadd S d_Mo_exact_103 ?_
                refine fm_iconst S d_Mo_exact_104 ?_
                refine fm_isub S d_Mo_exact_105 ?_
                refine lv_iload_n hx hb d_Mo_exact_106 rfl (lv_at hl 0 rfl) ?_
                refine fm_isub S d_Mo_exact_107 ?_
                have hdg := dv_dig hwa.1.2.2.2.2.1 (k := nd (cN (sN σ n.toNat).2) - 1 - (side - 3).toNat) (by omega)
                rw [hwa.1.2.2.2.2.2] at hdg
                have hd9 := hwa.1.2.2.2.2.1 ((nd (cN (sN σ n.toNat).2) - 1 - (side - 3).toNat : Nat) : Int) (by omega) (by omega)
                rw [show 31 * n + ((nd (cN (sN σ n.toNat).2) - 1 - (side - 3).toNat : Nat) : Int) = 31 * n + M 7 n - 1 - x10 by omega] at hdg hd9
                refine mo_iald 6 S hK hm (by decide) (by simp only [moLen]; omega) d_Mo_exact_108 ?_
                refine fm_i2l S (by omega) d_Mo_exact_109 ?_
                refine lv_goto (tgt := 116) hx hb d_Mo_exact_110 (by decide) ?_
                refine mo_lret S hr hlocks hK hm d_Mo_exact_116 ?_
                unfold sp_exact
                rw [if_neg (by omega), if_neg (by omega), if_neg (by omega), if_neg (by omega), if_neg (by omega)]
                first | (rw [if_pos (by omega)]; exact ⟨by rw [← hdg]; simp, hI, by rw [eV1]; rfl⟩) | (rw [if_neg (by omega)]; exact ⟨rfl, hI, by rw [eV1]; rfl⟩)
            · refine lv_aload_n hx hb d_Mo_exact_67 rfl (lv_at hl 0 rfl) ?_
              refine mo_get 9 S hK hm (by decide) k475 rfl rfl d_Mo_exact_68 ?_
              refine lv_iload_n hx hb d_Mo_exact_71 rfl (lv_at hl 1 rfl) ?_
              refine mo_iald 8 S hK hm (by decide) (by simp only [moLen]; omega) d_Mo_exact_72 ?_
              refine fm_i2l S (by omega) d_Mo_exact_73 ?_
              refine mo_lret S hr hlocks hK hm d_Mo_exact_74 ?_
              unfold sp_exact
              rw [if_neg (by omega), if_neg (by omega), if_neg (by omega), if_neg (by omega), if_pos (by omega)]
              exact ⟨e8, hI, by rw [eV1]; rfl⟩
          · refine lv_aload_n hx hb d_Mo_exact_54 rfl (lv_at hl 0 rfl) ?_
            refine mo_get 8 S hK hm (by decide) k474 rfl rfl d_Mo_exact_55 ?_
            refine lv_iload_n hx hb d_Mo_exact_58 rfl (lv_at hl 1 rfl) ?_
            refine mo_iald 7 S hK hm (by decide) (by simp only [moLen]; omega) d_Mo_exact_59 ?_
            refine fm_i2l S (by omega) d_Mo_exact_60 ?_
            refine mo_lret S hr hlocks hK hm d_Mo_exact_61 ?_
            unfold sp_exact
            rw [if_neg (by omega), if_neg (by omega), if_neg (by omega), if_pos (by omega)]
            exact ⟨e7, hI, by rw [eV1]; rfl⟩
        · refine lv_aload_n hx hb d_Mo_exact_41 rfl (lv_at hl 0 rfl) ?_
          refine mo_get 10 S hK hm (by decide) k476 rfl rfl d_Mo_exact_42 ?_
          refine lv_iload_n hx hb d_Mo_exact_45 rfl (lv_at hl 1 rfl) ?_
          refine mo_iald 9 S hK hm (by decide) (by simp only [moLen]; omega) d_Mo_exact_46 ?_
          refine fm_i2l S (by omega) d_Mo_exact_47 ?_
          refine mo_lret S hr hlocks hK hm d_Mo_exact_48 ?_
          unfold sp_exact
          rw [if_neg (by omega), if_neg (by omega), if_pos (by omega)]
          exact ⟨e9, hI, by rw [eV1]; rfl⟩
      · refine lv_aload_n hx hb d_Mo_exact_30 rfl (lv_at hl 0 rfl) ?_
        refine fm_iconst S d_Mo_exact_31 ?_
        refine mo_puti 0 S hK hm (by decide) k466 d_Mo_exact_32 (fun V12 H locs eV12 hm => ?_)
        refine fm_lconst0 S d_Mo_exact_35 ?_
        refine mo_lret S hr hlocks hK hm d_Mo_exact_36 ?_
        unfold sp_exact
        rw [if_neg (by omega), if_pos (by omega)]
        exact ⟨rfl, hI.v0 eV12, by rw [eV12]; rfl⟩
    · refine lv_ldc2 (v := jN (-1)) hx hb hown (hts _ k635) d_Mo_exact_17 ?_
      refine mo_lret S hr hlocks hK hm d_Mo_exact_20 ?_
      unfold sp_exact
      rw [if_pos (by omega)]
      exact ⟨rfl, hI, by rw [eV1]; rfl⟩
