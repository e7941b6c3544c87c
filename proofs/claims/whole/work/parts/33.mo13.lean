set_option maxHeartbeats 4000000 in
set_option maxRecDepth 100000 in
/-- copy(f, t), whatever is there -/
theorem t_Mo_copyN (l : Launch) (D : va_G) (cs : Nat → ClassId) (Z : (Nat → Prop) → State → Heap → Prop) (hZo : fm_Zok Z) (ad : Nat → Nat) (μ : fm_Mu) (V : Nat → Int) (M : Nat → Int → Int) (sz : Nat) (f : Int) (t : Int) (hM : moS cs μ ad V M) (hft : 0 ≤ f ∧ f < 7 ∧ 0 ≤ t ∧ t < 7 ∧ f ≠ t) (h2f : 0 ≤ M 2 f ∧ M 2 f ≤ 320) : Met l y_Mo_copy (Cond.code y_Mo_copy c_Mo_copy 4 none :: wA) ({ frames := 0, cells := 0, slots := 0, locals := 0 }) (fm_Pc D clsA (tysA cs) Z μ sz [.ref (ad 0), .int (iN (f)), .int (iN (t))]) (moQv D cs ad μ sz (fun V' M' => V' = V ∧ Fr M M' t)) 0 0 (fm_A μ sz) := by
  refine mo_of hM (by decide +kernel) (Nat.le_of_ble_eq_true rfl) (fun p e s m below meth c S hr hlocks hsz hm hK hZ hA ls hl => ?_)
  subst hsz
  obtain ⟨hx, hb, hml, hown, hts⟩ := id S
  have hl : lv_has ls 4 [(0, .ref (ad 0)), (1, .int (iN (f))), (2, .int (iN (t)))] := hl
  obtain ⟨n, hn⟩ : ∃ n : Nat, M 2 f = n := ⟨(M 2 f).toNat, by omega⟩
  refine fm_iconst S d_Mo_copy_0 ?_
  refine lv_istore_n (lv' := [(3, .int (iN (0))), (0, .ref (ad 0)), (1, .int (iN (f))), (2, .int (iN (t)))]) hx hb d_Mo_copy_1 rfl hl (by decide) rfl (fun ls hl => ?_)
  refine L_copy (Z := Z) S hK hZo hZ hA V M f t n (by omega) hn (fun M1 k H locs ls hk hc hl hm => ?_) (n + 1) M 0 _ _ _ (by omega) (by omega) (CpI.start M f t) (lv_sub hl [0, 1, 2, 3] rfl) hm
  refine lv_aload_n hx hb d_Mo_copy_42 rfl (lv_at hl 1 rfl) ?_
  refine mo_get 3 S hK hm (by decide) k469 rfl rfl d_Mo_copy_43 ?_
  refine lv_iload_n hx hb d_Mo_copy_46 rfl (lv_at hl 3 rfl) ?_
  refine lv_aload_n hx hb d_Mo_copy_47 rfl (lv_at hl 1 rfl) ?_
  refine mo_get 3 S hK hm (by decide) k469 rfl rfl d_Mo_copy_48 ?_
  refine lv_iload_n hx hb d_Mo_copy_51 rfl (lv_at hl 2 rfl) ?_
  refine mo_iald 2 S hK hm (by decide) (by simp only [moLen]; omega) d_Mo_copy_52 ?_
  refine mo_iast 2 S hK hm (by decide) (by simp only [moLen]; omega) d_Mo_copy_53 (fun M2 H locs eM2 hm => ?_)
  refine lv_aload_n hx hb d_Mo_copy_54 rfl (lv_at hl 1 rfl) ?_
  refine mo_get 4 S hK hm (by decide) k470 rfl rfl d_Mo_copy_55 ?_
  refine lv_iload_n hx hb d_Mo_copy_58 rfl (lv_at hl 3 rfl) ?_
  refine lv_aload_n hx hb d_Mo_copy_59 rfl (lv_at hl 1 rfl) ?_
  refine mo_get 4 S hK hm (by decide) k470 rfl rfl d_Mo_copy_60 ?_
  refine lv_iload_n hx hb d_Mo_copy_63 rfl (lv_at hl 2 rfl) ?_
  refine mo_iald 3 S hK hm (by decide) (by simp only [moLen]; omega) d_Mo_copy_64 ?_
  refine mo_iast 3 S hK hm (by decide) (by simp only [moLen]; omega) d_Mo_copy_65 (fun M3 H locs eM3 hm => ?_)
  refine lv_aload_n hx hb d_Mo_copy_66 rfl (lv_at hl 1 rfl) ?_
  refine mo_get 5 S hK hm (by decide) k471 rfl rfl d_Mo_copy_67 ?_
  refine lv_iload_n hx hb d_Mo_copy_70 rfl (lv_at hl 3 rfl) ?_
  refine lv_aload_n hx hb d_Mo_copy_71 rfl (lv_at hl 1 rfl) ?_
  refine mo_get 5 S hK hm (by decide) k471 rfl rfl d_Mo_copy_72 ?_
  refine lv_iload_n hx hb d_Mo_copy_75 rfl (lv_at hl 2 rfl) ?_
  refine mo_iald 4 S hK hm (by decide) (by simp only [moLen]; omega) d_Mo_copy_76 ?_
  refine mo_iast 4 S hK hm (by decide) (by simp only [moLen]; omega) d_Mo_copy_77 (fun M4 H locs eM4 hm => ?_)
  refine mo_vret S hr hlocks hK hm d_Mo_copy_78 ?_
  exact ⟨rfl, hc.1.tr ((Fr.s eM2 (by decide)).tr ((Fr.s eM3 (by decide)).tr (Fr.s eM4 (by decide))))⟩

set_option maxHeartbeats 4000000 in
set_option maxRecDepth 100000 in
/-- given(kind, r) -/
theorem t_Mo_given (l : Launch) (D : va_G) (cs : Nat → ClassId) (Z : (Nat → Prop) → State → Heap → Prop) (hZo : fm_Zok Z) (ad : Nat → Nat) (μ : fm_Mu) (V : Nat → Int) (M : Nat → Int → Int) (sz : Nat) (kind : Int) (r : Int) (most : Nat) (x : Int) (h : Int) (sc : Int) (hM : moS cs μ ad V M) (hkd : 0 ≤ kind ∧ kind ≤ 4) (hr20 : 1 ≤ r ∧ r ≤ 20) (h22 : 0 ≤ M 2 2 ∧ M 2 2 ≤ 320) (hX : Rv M 3 x) (hvx : vB x) (hR : M 14 r = h ∧ M 12 r = sc) (hsc : 0 ≤ sc ∧ sc ≤ 18) (hj : inJ h) (hpr : V 1 = (most : Int) ∧ 1 ≤ most ∧ most ≤ 31) : Met l y_Mo_given (Cond.code y_Mo_given c_Mo_given 4 (some .int) :: wA) ({ frames := 5, cells := 0, slots := 0, locals := 116 }) (fm_Pc D clsA (tysA cs) Z μ sz [.ref (ad 0), .int (iN (kind)), .int (iN (r))]) (moQi D cs ad μ sz (fun z V' M' => V' = V ∧ Fr3 M M' ∧ z = (giveS most kind x h sc).1 ∧ (z = 0 → Rv M' 4 (giveS most kind x h sc).2) ∧ (0 ≤ M' 2 2 ∧ M' 2 2 ≤ 320))) 0 0 (fm_A μ sz) := by
  refine mo_of hM (by decide +kernel) (Nat.le_of_ble_eq_true rfl) (fun p e s m below meth c S hr hlocks hsz hm hK hZ hA ls hl => ?_)
  subst hsz
  obtain ⟨hx, hb, hml, hown, hts⟩ := id S
  have hl : lv_has ls 4 [(0, .ref (ad 0)), (1, .int (iN (kind))), (2, .int (iN (r)))] := hl
  have hv1 := hvx.1
  refine lv_aload_n hx hb d_Mo_given_0 rfl (lv_at hl 0 rfl) ?_
  refine fm_iconst S d_Mo_given_1 ?_
  refine fm_iconst S d_Mo_given_2 ?_
  refine mo_cvS (n := 2) (As := [.int (iN (3)), .int (iN (1))]) (rest := []) S hK hZo hZ hA hm (fun μ sz hM => t_Mo_copy l D cs Z hZo ad μ V M sz 3 1 (nd (cN x)) (cN x) (cX x) (sgn x) hM hX (by omega)) (gV k587 k589 ks28 k6 k590) (by decide) (by decide +kernel) rfl hl.1 rfl (Nat.le_of_ble_eq_true rfl) ⟨Nat.le_of_ble_eq_true rfl, Nat.le_of_ble_eq_true rfl⟩ d_Mo_given_3 (fun M2 H locs q1 hm => ?_)
  obtain ⟨frM2, rgM2⟩ := q1
  have hc14 : M2 14 r = h := by rw [frM2.1 14 (by decide)]; exact hR.1
  have hc12 : M2 12 r = sc := by rw [frM2.1 12 (by decide)]; exact hR.2
  refine lv_aload_n hx hb d_Mo_given_6 rfl (lv_at hl 0 rfl) ?_
  refine lv_aload_n hx hb d_Mo_given_7 rfl (lv_at hl 0 rfl) ?_
  refine mo_get 18 S hK hm (by decide) k484 rfl rfl d_Mo_given_8 ?_
  refine lv_iload_n hx hb d_Mo_given_11 rfl (lv_at hl 2 rfl) ?_
  refine mo_lald 14 S hK hm (by decide) (by simp only [moLen]; omega) d_Mo_given_12 ?_
  refine fm_iconst S d_Mo_given_13 ?_
  refine lv_aload_n hx hb d_Mo_given_14 rfl (lv_at hl 0 rfl) ?_
  refine mo_get 16 S hK hm (by decide) k482 rfl rfl d_Mo_given_15 ?_
  refine lv_iload_n hx hb d_Mo_given_18 rfl (lv_at hl 2 rfl) ?_
  refine mo_iald 12 S hK hm (by decide) (by simp only [moLen]; omega) d_Mo_given_19 ?_
  refine fm_isub S d_Mo_given_20 ?_
  refine fm_iconst S d_Mo_given_21 ?_
  refine mo_cvS (n := 3) (As := [.long (jN ((M2 14 r))), .int (iN ((0 - (M2 12 r)))), .int (iN (0))]) (rest := []) S hK hZo hZ hA hm (fun μ sz hM => t_Mo_whole l D cs Z hZo ad μ V M2 sz (M2 14 r) (0 - (M2 12 r)) 0 hM (by omega) (by omega)) (gV k546 k548 ks19 k6 k549) (by decide) (by decide +kernel) rfl hl.1 rfl (Nat.le_of_ble_eq_true rfl) ⟨Nat.le_of_ble_eq_true rfl, Nat.le_of_ble_eq_true rfl⟩ d_Mo_given_22 (fun M4 H locs q3 hm => ?_)
  obtain ⟨frM4, rgM4⟩ := q3
  rw [hc14, hc12] at rgM4
  have hAw := whole_rw rgM4 hsc hj
  have hBw : Rv M4 1 x := frM4.rv (by decide) hvx rgM2
  have hX1 : Rv M4 3 x := frM4.rv (by decide) hvx (frM2.rv (by decide) hvx hX)
  have h22b : 0 ≤ M4 2 2 ∧ M4 2 2 ≤ 320 := by rw [(frM4.2.2 2 (by decide)).1, (frM2.2.2 2 (by decide)).1]; exact h22
  have hF1 := (frM2.o3 (by decide)).tr (frM4.o3 (by decide))
  have hv31 := hvx.1
  refine fm_iconst S d_Mo_given_25 ?_
  refine lv_istore_n (lv' := [(3, .int (iN (0))), (0, .ref (ad 0)), (1, .int (iN (kind))), (2, .int (iN (r)))]) hx hb d_Mo_given_26 rfl hl (by decide) rfl (fun ls hl => ?_)
  rcases (show kind = 0 ∨ kind = 1 ∨ kind = 2 ∨ kind = 3 ∨ kind = 4 by omega) with hk | hk | hk | hk | hk
  · refine lv_iload_n hx hb d_Mo_given_27 rfl (lv_at hl 2 rfl) ?_
    refine fm_if_ne (tgt := 37) S (by omega) d_Mo_given_28 (by decide) (fun c5 => ?_) (fun c5 => ?_)
    · exfalso; omega
    · refine lv_aload_n hx hb d_Mo_given_31 rfl (lv_at hl 1 rfl) ?_
      refine fm_iconst S d_Mo_given_32 ?_
      refine fm_iconst S d_Mo_given_33 ?_
      refine mo_cvS (n := 2) (As := [.int (iN (3)), .int (iN (2))]) (rest := []) S hK hZo hZ hA hm (fun μ sz hM => t_Mo_copy l D cs Z hZo ad μ V M4 sz 3 2 (nd (cN x)) (cN x) (cX x) (sgn x) hM hX1 (by omega)) (gV k587 k589 ks28 k6 k590) (by decide) (by decide +kernel) rfl hl.1 rfl (Nat.le_of_ble_eq_true rfl) ⟨Nat.le_of_ble_eq_true rfl, Nat.le_of_ble_eq_true rfl⟩ d_Mo_given_34 (fun M7 H locs q6 hm => ?_)
      obtain ⟨frM7, rgM7⟩ := q6
      refine lv_iload_n hx hb d_Mo_given_37 rfl (lv_at hl 2 rfl) ?_
      refine fm_iconst S d_Mo_given_38 ?_
      refine fm_icmp_ne (tgt := 48) S (by omega) (by omega) d_Mo_given_39 (by decide) (fun c8 => ?_) (fun c8 => ?_)
      · refine lv_iload_n hx hb d_Mo_given_48 rfl (lv_at hl 2 rfl) ?_
        refine fm_iconst S d_Mo_given_49 ?_
        refine fm_icmp_ne (tgt := 59) S (by omega) (by omega) d_Mo_given_50 (by decide) (fun c9 => ?_) (fun c9 => ?_)
        · refine lv_iload_n hx hb d_Mo_given_59 rfl (lv_at hl 2 rfl) ?_
          refine fm_iconst S d_Mo_given_60 ?_
          refine fm_icmp_ne (tgt := 70) S (by omega) (by omega) d_Mo_given_61 (by decide) (fun c10 => ?_) (fun c10 => ?_)
          · refine lv_iload_n hx hb d_Mo_given_70 rfl (lv_at hl 2 rfl) ?_
            refine fm_iconst S d_Mo_given_71 ?_
            refine fm_icmp_ne (tgt := 81) S (by omega) (by omega) d_Mo_given_72 (by decide) (fun c11 => ?_) (fun c11 => ?_)
            · refine lv_aload_n hx hb d_Mo_given_81 rfl (lv_at hl 1 rfl) ?_
              refine fm_iconst S d_Mo_given_82 ?_
              refine fm_iconst S d_Mo_given_83 ?_
              refine mo_cvS (n := 2) (As := [.int (iN (2)), .int (iN (4))]) (rest := []) S hK hZo hZ hA hm (fun μ sz hM => t_Mo_copy l D cs Z hZo ad μ V M7 sz 2 4 (nd (cN x)) (cN x) (cX x) (sgn x) hM rgM7 (by omega)) (gV k587 k589 ks28 k6 k590) (by decide) (by decide +kernel) rfl hl.1 rfl (Nat.le_of_ble_eq_true rfl) ⟨Nat.le_of_ble_eq_true rfl, Nat.le_of_ble_eq_true rfl⟩ d_Mo_given_84 (fun M13 H locs q12 hm => ?_)
              obtain ⟨frM13, rgM13⟩ := q12
              refine lv_iload_n hx hb d_Mo_given_87 rfl (lv_at hl 0 rfl) ?_
              refine mo_iret S hr hlocks hK hm d_Mo_given_88 ?_
              have hg : giveS most kind x h sc = (0, x) := by unfold giveS; rw [if_pos hk]
              rw [hg]
              exact ⟨rfl, (hF1.tr (frM7.o3 (by decide))).tr (frM13.o3 (by decide)), rfl, fun _ => rgM13, (by rw [(frM13.2.2 2 (by decide)).1]; rw [rgM7.1]; omega)⟩
            · exfalso; omega
          · exfalso; omega
        · exfalso; omega
      · exfalso; omega
  · refine lv_iload_n hx hb d_Mo_given_27 rfl (lv_at hl 2 rfl) ?_
    refine fm_if_ne (tgt := 37) S (by omega) d_Mo_given_28 (by decide) (fun c14 => ?_) (fun c14 => ?_)
    · refine lv_iload_n hx hb d_Mo_given_37 rfl (lv_at hl 2 rfl) ?_
      refine fm_iconst S d_Mo_given_38 ?_
      refine fm_icmp_ne (tgt := 48) S (by omega) (by omega) d_Mo_given_39 (by decide) (fun c15 => ?_) (fun c15 => ?_)
      · exfalso; omega
      · refine lv_aload_n hx hb d_Mo_given_42 rfl (lv_at hl 1 rfl) ?_
        refine fm_iconst S d_Mo_given_43 ?_
        refine mo_ciS (n := 1) (As := [.int (iN (0))]) (rest := []) S hK hZo hZ hA hm (fun μ sz hM => t_Mo_operatedW l D cs Z hZo ad μ V M4 sz 0 most (hV h sc) x hM (by omega) h22b hAw (hBw.w hvx) hpr) (gV k579 k581 ks26 k6 k582) (by decide) (by decide +kernel) rfl hl.1 rfl (Nat.le_of_ble_eq_true rfl) ⟨Nat.le_of_ble_eq_true rfl, Nat.le_of_ble_eq_true rfl⟩ d_Mo_given_44 (fun x18 M17 H locs q16 hm => ?_)
        refine lv_istore_n (lv' := [(3, .int (iN (x18))), (0, .ref (ad 0)), (1, .int (iN (kind))), (2, .int (iN (r)))]) hx hb d_Mo_given_47 rfl hl (by decide) rfl (fun ls hl => ?_)
        refine lv_iload_n hx hb d_Mo_given_48 rfl (lv_at hl 2 rfl) ?_
        refine fm_iconst S d_Mo_given_49 ?_
        refine fm_icmp_ne (tgt := 59) S (by omega) (by omega) d_Mo_given_50 (by decide) (fun c19 => ?_) (fun c19 => ?_)
        · refine lv_iload_n hx hb d_Mo_given_59 rfl (lv_at hl 2 rfl) ?_
          refine fm_iconst S d_Mo_given_60 ?_
          refine fm_icmp_ne (tgt := 70) S (by omega) (by omega) d_Mo_given_61 (by decide) (fun c20 => ?_) (fun c20 => ?_)
          · refine lv_iload_n hx hb d_Mo_given_70 rfl (lv_at hl 2 rfl) ?_
            refine fm_iconst S d_Mo_given_71 ?_
            refine fm_icmp_ne (tgt := 81) S (by omega) (by omega) d_Mo_given_72 (by decide) (fun c21 => ?_) (fun c21 => ?_)
            · obtain ⟨qo, hres⟩ := q16
              have hg : giveS most kind x h sc = sOp most 0 (hV h sc) x := by unfold giveS; rw [if_neg (by omega), hk]; rfl
              have hnd := giveS_nd (h := h) (s := sc) hpr.2 hkd hvx
              rw [hg] at hnd
              have hb31 := hnd.2.2.1.1
              rcases (show x18 = 0 ∨ x18 ≠ 0 by omega) with hz | hz
              · refine lv_aload_n hx hb d_Mo_given_81 rfl (lv_at hl 1 rfl) ?_
                refine fm_iconst S d_Mo_given_82 ?_
                refine fm_iconst S d_Mo_given_83 ?_
                refine mo_cvS (n := 2) (As := [.int (iN (2)), .int (iN (4))]) (rest := []) S hK hZo hZ hA hm (fun μ sz hM => t_Mo_copy l D cs Z hZo ad μ V M17 sz 2 4 (nd (cN (sOp most 0 (hV h sc) x).2)) (cN (sOp most 0 (hV h sc) x).2) (cX (sOp most 0 (hV h sc) x).2) (sgn (sOp most 0 (hV h sc) x).2) hM (hres.2.1 hz) (by omega)) (gV k587 k589 ks28 k6 k590) (by decide) (by decide +kernel) rfl hl.1 rfl (Nat.le_of_ble_eq_true rfl) ⟨Nat.le_of_ble_eq_true rfl, Nat.le_of_ble_eq_true rfl⟩ d_Mo_given_84 (fun M23 H locs q22 hm => ?_)
                obtain ⟨frM23, rgM23⟩ := q22
                refine lv_iload_n hx hb d_Mo_given_87 rfl (lv_at hl 0 rfl) ?_
                refine mo_iret S hr hlocks hK hm d_Mo_given_88 ?_
                rw [hg]
                exact ⟨rfl, (hF1.tr (qo.o3)).tr (frM23.o3 (by decide)), hres.1, fun _ => rgM23, (by rw [(frM23.2.2 2 (by decide)).1]; exact hres.2.2)⟩
              · refine lv_aload_n hx hb d_Mo_given_81 rfl (lv_at hl 1 rfl) ?_
                refine fm_iconst S d_Mo_given_82 ?_
                refine fm_iconst S d_Mo_given_83 ?_
                refine mo_cvS (n := 2) (As := [.int (iN (2)), .int (iN (4))]) (rest := []) S hK hZo hZ hA hm (fun μ sz hM => t_Mo_copyN l D cs Z hZo ad μ V M17 sz 2 4 hM (by omega) hres.2.2) (gV k587 k589 ks28 k6 k590) (by decide) (by decide +kernel) rfl hl.1 rfl (Nat.le_of_ble_eq_true rfl) ⟨Nat.le_of_ble_eq_true rfl, Nat.le_of_ble_eq_true rfl⟩ d_Mo_given_84 (fun M25 H locs q24 hm => ?_)
                have frM25 := q24
                refine lv_iload_n hx hb d_Mo_given_87 rfl (lv_at hl 0 rfl) ?_
                refine mo_iret S hr hlocks hK hm d_Mo_given_88 ?_
                rw [hg]
                exact ⟨rfl, (hF1.tr (qo.o3)).tr (frM25.o3 (by decide)), hres.1, fun e => absurd e hz, (by rw [(frM25.2.2 2 (by decide)).1]; exact hres.2.2)⟩
            · exfalso; omega
          · exfalso; omega
        · exfalso; omega
    · exfalso; omega
  · refine lv_iload_n hx hb d_Mo_given_27 rfl (lv_at hl 2 rfl) ?_
    refine fm_if_ne (tgt := 37) S (by omega) d_Mo_given_28 (by decide) (fun c26 => ?_) (fun c26 => ?_)
    · refine lv_iload_n hx hb d_Mo_given_37 rfl (lv_at hl 2 rfl) ?_
      refine fm_iconst S d_Mo_given_38 ?_
      refine fm_icmp_ne (tgt := 48) S (by omega) (by omega) d_Mo_given_39 (by decide) (fun c27 => ?_) (fun c27 => ?_)
      · refine lv_iload_n hx hb d_Mo_given_48 rfl (lv_at hl 2 rfl) ?_
        refine fm_iconst S d_Mo_given_49 ?_
        refine fm_icmp_ne (tgt := 59) S (by omega) (by omega) d_Mo_given_50 (by decide) (fun c28 => ?_) (fun c28 => ?_)
        · exfalso; omega
        · refine lv_aload_n hx hb d_Mo_given_53 rfl (lv_at hl 1 rfl) ?_
          refine fm_iconst S d_Mo_given_54 ?_
          refine mo_ciS (n := 1) (As := [.int (iN (1))]) (rest := []) S hK hZo hZ hA hm (fun μ sz hM => t_Mo_operatedW l D cs Z hZo ad μ V M4 sz 1 most (hV h sc) x hM (by omega) h22b hAw (hBw.w hvx) hpr) (gV k579 k581 ks26 k6 k582) (by decide) (by decide +kernel) rfl hl.1 rfl (Nat.le_of_ble_eq_true rfl) ⟨Nat.le_of_ble_eq_true rfl, Nat.le_of_ble_eq_true rfl⟩ d_Mo_given_55 (fun x31 M30 H locs q29 hm => ?_)
          refine lv_istore_n (lv' := [(3, .int (iN (x31))), (0, .ref (ad 0)), (1, .int (iN (kind))), (2, .int (iN (r)))]) hx hb d_Mo_given_58 rfl hl (by decide) rfl (fun ls hl => ?_)
          refine lv_iload_n hx hb d_Mo_given_59 rfl (lv_at hl 2 rfl) ?_
          refine fm_iconst S d_Mo_given_60 ?_
          refine fm_icmp_ne (tgt := 70) S (by omega) (by omega) d_Mo_given_61 (by decide) (fun c32 => ?_) (fun c32 => ?_)
          · refine lv_iload_n hx hb d_Mo_given_70 rfl (lv_at hl 2 rfl) ?_
            refine fm_iconst S d_Mo_given_71 ?_
            refine fm_icmp_ne (tgt := 81) S (by omega) (by omega) d_Mo_given_72 (by decide) (fun c33 => ?_) (fun c33 => ?_)
            · obtain ⟨qo, hres⟩ := q29
              have hg : giveS most kind x h sc = sOp most 1 (hV h sc) x := by unfold giveS; rw [if_neg (by omega), hk]; rfl
              have hnd := giveS_nd (h := h) (s := sc) hpr.2 hkd hvx
              rw [hg] at hnd
              have hb31 := hnd.2.2.1.1
              rcases (show x31 = 0 ∨ x31 ≠ 0 by omega) with hz | hz
              · refine lv_aload_n hx hb d_Mo_given_81 rfl (lv_at hl 1 rfl) ?_
                refine fm_iconst S d_Mo_given_82 ?_
                refine fm_iconst S d_Mo_given_83 ?_
                refine mo_cvS (n := 2) (As := [.int (iN (2)), .int (iN (4))]) (rest := []) S hK hZo hZ hA hm (fun μ sz hM => t_Mo_copy l D cs Z hZo ad μ V M30 sz 2 4 (nd (cN (sOp most 1 (hV h sc) x).2)) (cN (sOp most 1 (hV h sc) x).2) (cX (sOp most 1 (hV h sc) x).2) (sgn (sOp most 1 (hV h sc) x).2) hM (hres.2.1 hz) (by omega)) (gV k587 k589 ks28 k6 k590) (by decide) (by decide +kernel) rfl hl.1 rfl (Nat.le_of_ble_eq_true rfl) ⟨Nat.le_of_ble_eq_true rfl, Nat.le_of_ble_eq_true rfl⟩ d_Mo_given_84 (fun M35 H locs q34 hm => ?_)
                obtain ⟨frM35, rgM35⟩ := q34
                refine lv_iload_n hx hb d_Mo_given_87 rfl (lv_at hl 0 rfl) ?_
                refine mo_iret S hr hlocks hK hm d_Mo_given_88 ?_
                rw [hg]
                exact ⟨rfl, (hF1.tr (qo.o3)).tr (frM35.o3 (by decide)), hres.1, fun _ => rgM35, (by rw [(frM35.2.2 2 (by decide)).1]; exact hres.2.2)⟩
              · refine lv_aload_n hx hb d_Mo_given_81 rfl (lv_at hl 1 rfl) ?_
                refine fm_iconst S d_Mo_given_82 ?_
                refine fm_iconst S d_Mo_given_83 ?_
                refine mo_cvS (n := 2) (As := [.int (iN (2)), .int (iN (4))]) (rest := []) S hK hZo hZ hA hm (fun μ sz hM => t_Mo_copyN l D cs Z hZo ad μ V M30 sz 2 4 hM (by omega) hres.2.2) (gV k587 k589 ks28 k6 k590) (by decide) (by decide +kernel) rfl hl.1 rfl (Nat.le_of_ble_eq_true rfl) ⟨Nat.le_of_ble_eq_true rfl, Nat.le_of_ble_eq_true rfl⟩ d_Mo_given_84 (fun M37 H locs q36 hm => ?_)
                have frM37 := q36
                refine lv_iload_n hx hb d_Mo_given_87 rfl (lv_at hl 0 rfl) ?_
                refine mo_iret S hr hlocks hK hm d_Mo_given_88 ?_
                rw [hg]
                exact ⟨rfl, (hF1.tr (qo.o3)).tr (frM37.o3 (by decide)), hres.1, fun e => absurd e hz, (by rw [(frM37.2.2 2 (by decide)).1]; exact hres.2.2)⟩
            · exfalso; omega
          · exfalso; omega
      · exfalso; omega
    · exfalso; omega
  · refine lv_iload_n hx hb d_Mo_given_27 rfl (lv_at hl 2 rfl) ?_
    refine fm_if_ne (tgt := 37) S (by omega) d_Mo_given_28 (by decide) (fun c38 => ?_) (fun c38 => ?_)
    · refine lv_iload_n hx hb d_Mo_given_37 rfl (lv_at hl 2 rfl) ?_
      refine fm_iconst S d_Mo_given_38 ?_
      refine fm_icmp_ne (tgt := 48) S (by omega) (by omega) d_Mo_given_39 (by decide) (fun c39 => ?_) (fun c39 => ?_)
      · refine lv_iload_n hx hb d_Mo_given_48 rfl (lv_at hl 2 rfl) ?_
        refine fm_iconst S d_Mo_given_49 ?_
        refine fm_icmp_ne (tgt := 59) S (by omega) (by omega) d_Mo_given_50 (by decide) (fun c40 => ?_) (fun c40 => ?_)
        · refine lv_iload_n hx hb d_Mo_given_59 rfl (lv_at hl 2 rfl) ?_
          refine fm_iconst S d_Mo_given_60 ?_
          refine fm_icmp_ne (tgt := 70) S (by omega) (by omega) d_Mo_given_61 (by decide) (fun c41 => ?_) (fun c41 => ?_)
          · exfalso; omega
          · refine lv_aload_n hx hb d_Mo_given_64 rfl (lv_at hl 1 rfl) ?_
            refine fm_iconst S d_Mo_given_65 ?_
            refine mo_ciS (n := 1) (As := [.int (iN (2))]) (rest := []) S hK hZo hZ hA hm (fun μ sz hM => t_Mo_operatedW l D cs Z hZo ad μ V M4 sz 2 most (hV h sc) x hM (by omega) h22b hAw (hBw.w hvx) hpr) (gV k579 k581 ks26 k6 k582) (by decide) (by decide +kernel) rfl hl.1 rfl (Nat.le_of_ble_eq_true rfl) ⟨Nat.le_of_ble_eq_true rfl, Nat.le_of_ble_eq_true rfl⟩ d_Mo_given_66 (fun x44 M43 H locs q42 hm => ?_)
            refine lv_istore_n (lv' := [(3, .int (iN (x44))), (0, .ref (ad 0)), (1, .int (iN (kind))), (2, .int (iN (r)))]) hx hb d_Mo_given_69 rfl hl (by decide) rfl (fun ls hl => ?_)
            refine lv_iload_n hx hb d_Mo_given_70 rfl (lv_at hl 2 rfl) ?_
            refine fm_iconst S d_Mo_given_71 ?_
            refine fm_icmp_ne (tgt := 81) S (by omega) (by omega) d_Mo_given_72 (by decide) (fun c45 => ?_) (fun c45 => ?_)
            · obtain ⟨qo, hres⟩ := q42
              have hg : giveS most kind x h sc = sOp most 2 (hV h sc) x := by unfold giveS; rw [if_neg (by omega), hk]; rfl
              have hnd := giveS_nd (h := h) (s := sc) hpr.2 hkd hvx
              rw [hg] at hnd
              have hb31 := hnd.2.2.1.1
              rcases (show x44 = 0 ∨ x44 ≠ 0 by omega) with hz | hz
              · refine lv_aload_n hx hb d_Mo_given_81 rfl (lv_at hl 1 rfl) ?_
                refine fm_iconst S d_Mo_given_82 ?_
                refine fm_iconst S d_Mo_given_83 ?_
                refine mo_cvS (n := 2) (As := [.int (iN (2)), .int (iN (4))]) (rest := []) S hK hZo hZ hA hm (fun μ sz hM => t_Mo_copy l D cs Z hZo ad μ V M43 sz 2 4 (nd (cN (sOp most 2 (hV h sc) x).2)) (cN (sOp most 2 (hV h sc) x).2) (cX (sOp most 2 (hV h sc) x).2) (sgn (sOp most 2 (hV h sc) x).2) hM (hres.2.1 hz) (by omega)) (gV k587 k589 ks28 k6 k590) (by decide) (by decide +kernel) rfl hl.1 rfl (Nat.le_of_ble_eq_true rfl) ⟨Nat.le_of_ble_eq_true rfl, Nat.le_of_ble_eq_true rfl⟩ d_Mo_given_84 (fun M47 H locs q46 hm => ?_)
                obtain ⟨frM47, rgM47⟩ := q46
                refine lv_iload_n hx hb d_Mo_given_87 rfl (lv_at hl 0 rfl) ?_
                refine mo_iret S hr hlocks hK hm d_Mo_given_88 ?_
                rw [hg]
                exact ⟨rfl, (hF1.tr (qo.o3)).tr (frM47.o3 (by decide)), hres.1, fun _ => rgM47, (by rw [(frM47.2.2 2 (by decide)).1]; exact hres.2.2)⟩
              · refine lv_aload_n hx hb d_Mo_given_81 rfl (lv_at hl 1 rfl) ?_
                refine fm_iconst S d_Mo_given_82 ?_
                refine fm_iconst S d_Mo_given_83 ?_
                refine mo_cvS (n := 2) (As := [.int (iN (2)), .int (iN (4))]) (rest := []) S hK hZo hZ hA hm (fun μ sz hM => t_Mo_copyN l D cs Z hZo ad μ V M43 sz 2 4 hM (by omega) hres.2.2) (gV k587 k589 ks28 k6 k590) (by decide) (by decide +kernel) rfl hl.1 rfl (Nat.le_of_ble_eq_true rfl) ⟨Nat.le_of_ble_eq_true rfl, Nat.le_of_ble_eq_true rfl⟩ d_Mo_given_84 (fun M49 H locs q48 hm => ?_)
                have frM49 := q48
                refine lv_iload_n hx hb d_Mo_given_87 rfl (lv_at hl 0 rfl) ?_
                refine mo_iret S hr hlocks hK hm d_Mo_given_88 ?_
                rw [hg]
                exact ⟨rfl, (hF1.tr (qo.o3)).tr (frM49.o3 (by decide)), hres.1, fun e => absurd e hz, (by rw [(frM49.2.2 2 (by decide)).1]; exact hres.2.2)⟩
            · exfalso; omega
        · exfalso; omega
      · exfalso; omega
    · exfalso; omega
  · refine lv_iload_n hx hb d_Mo_given_27 rfl (lv_at hl 2 rfl) ?_
    refine fm_if_ne (tgt := 37) S (by omega) d_Mo_given_28 (by decide) (fun c50 => ?_) (fun c50 => ?_)
    · refine lv_iload_n hx hb d_Mo_given_37 rfl (lv_at hl 2 rfl) ?_
      refine fm_iconst S d_Mo_given_38 ?_
      refine fm_icmp_ne (tgt := 48) S (by omega) (by omega) d_Mo_given_39 (by decide) (fun c51 => ?_) (fun c51 => ?_)
      · refine lv_iload_n hx hb d_Mo_given_48 rfl (lv_at hl 2 rfl) ?_
        refine fm_iconst S d_Mo_given_49 ?_
        refine fm_icmp_ne (tgt := 59) S (by omega) (by omega) d_Mo_given_50 (by decide) (fun c52 => ?_) (fun c52 => ?_)
        · refine lv_iload_n hx hb d_Mo_given_59 rfl (lv_at hl 2 rfl) ?_
          refine fm_iconst S d_Mo_given_60 ?_
          refine fm_icmp_ne (tgt := 70) S (by omega) (by omega) d_Mo_given_61 (by decide) (fun c53 => ?_) (fun c53 => ?_)
          · refine lv_iload_n hx hb d_Mo_given_70 rfl (lv_at hl 2 rfl) ?_
            refine fm_iconst S d_Mo_given_71 ?_
            refine fm_icmp_ne (tgt := 81) S (by omega) (by omega) d_Mo_given_72 (by decide) (fun c54 => ?_) (fun c54 => ?_)
            · exfalso; omega
            · refine lv_aload_n hx hb d_Mo_given_75 rfl (lv_at hl 1 rfl) ?_
              refine fm_iconst S d_Mo_given_76 ?_
              refine mo_ciS (n := 1) (As := [.int (iN (3))]) (rest := []) S hK hZo hZ hA hm (fun μ sz hM => t_Mo_operatedW l D cs Z hZo ad μ V M4 sz 3 most (hV h sc) x hM (by omega) h22b hAw (hBw.w hvx) hpr) (gV k579 k581 ks26 k6 k582) (by decide) (by decide +kernel) rfl hl.1 rfl (Nat.le_of_ble_eq_true rfl) ⟨Nat.le_of_ble_eq_true rfl, Nat.le_of_ble_eq_true rfl⟩ d_Mo_given_77 (fun x57 M56 H locs q55 hm => ?_)
              refine lv_istore_n (lv' := [(3, .int (iN (x57))), (0, .ref (ad 0)), (1, .int (iN (kind))), (2, .int (iN (r)))]) hx hb d_Mo_given_80 rfl hl (by decide) rfl (fun ls hl => ?_)
              obtain ⟨qo, hres⟩ := q55
              have hg : giveS most kind x h sc = sOp most 3 (hV h sc) x := by unfold giveS; rw [if_neg (by omega), hk]; rfl
              have hnd := giveS_nd (h := h) (s := sc) hpr.2 hkd hvx
              rw [hg] at hnd
              have hb31 := hnd.2.2.1.1
              rcases (show x57 = 0 ∨ x57 ≠ 0 by omega) with hz | hz
              · refine lv_aload_n hx hb d_Mo_given_81 rfl (lv_at hl 1 rfl) ?_
                refine fm_iconst S d_Mo_given_82 ?_
                refine fm_iconst S d_Mo_given_83 ?_
                refine mo_cvS (n := 2) (As := [.int (iN (2)), .int (iN (4))]) (rest := []) S hK hZo hZ hA hm (fun μ sz hM => t_Mo_copy l D cs Z hZo ad μ V M56 sz 2 4 (nd (cN (sOp most 3 (hV h sc) x).2)) (cN (sOp most 3 (hV h sc) x).2) (cX (sOp most 3 (hV h sc) x).2) (sgn (sOp most 3 (hV h sc) x).2) hM (hres.2.1 hz) (by omega)) (gV k587 k589 ks28 k6 k590) (by decide) (by decide +kernel) rfl hl.1 rfl (Nat.le_of_ble_eq_true rfl) ⟨Nat.le_of_ble_eq_true rfl, Nat.le_of_ble_eq_true rfl⟩ d_Mo_given_84 (fun M59 H locs q58 hm => ?_)
                obtain ⟨frM59, rgM59⟩ := q58
                refine lv_iload_n hx hb d_Mo_given_87 rfl (lv_at hl 0 rfl) ?_
                refine mo_iret S hr hlocks hK hm d_Mo_given_88 ?_
                rw [hg]
                exact ⟨rfl, (hF1.tr (qo.o3)).tr (frM59.o3 (by decide)), hres.1, fun _ => rgM59, (by rw [(frM59.2.2 2 (by decide)).1]; exact hres.2.2)⟩
              · refine lv_aload_n hx hb d_Mo_given_81 rfl (lv_at hl 1 rfl) ?_
                refine fm_iconst S d_Mo_given_82 ?_
                refine fm_iconst S d_Mo_given_83 ?_
                refine mo_cvS (n := 2) (As := [.int (iN (2)), .int (iN (4))]) (rest := []) S hK hZo hZ hA hm (fun μ sz hM => t_Mo_copyN l D cs Z hZo ad μ V M56 sz 2 4 hM (by omega) hres.2.2) (gV k587 k589 ks28 k6 k590) (by decide) (by decide +kernel) rfl hl.1 rfl (Nat.le_of_ble_eq_true rfl) ⟨Nat.le_of_ble_eq_true rfl, Nat.le_of_ble_eq_true rfl⟩ d_Mo_given_84 (fun M61 H locs q60 hm => ?_)
                have frM61 := q60
                refine lv_iload_n hx hb d_Mo_given_87 rfl (lv_at hl 0 rfl) ?_
                refine mo_iret S hr hlocks hK hm d_Mo_given_88 ?_
                rw [hg]
                exact ⟨rfl, (hF1.tr (qo.o3)).tr (frM61.o3 (by decide)), hres.1, fun e => absurd e hz, (by rw [(frM61.2.2 2 (by decide)).1]; exact hres.2.2)⟩
          · exfalso; omega
        · exfalso; omega
      · exfalso; omega
    · exfalso; omega
