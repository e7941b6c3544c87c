set_option maxHeartbeats 4000000 in
set_option maxRecDepth 100000 in
/-- value(v, scale) -/
theorem t_Mo_value (l : Launch) (D : va_G) (cs : Nat → ClassId) (Z : (Nat → Prop) → State → Heap → Prop) (hZo : fm_Zok Z) (ad : Nat → Nat) (μ : fm_Mu) (V : Nat → Int) (M : Nat → Int → Int) (sz : Nat) (v : Int) (scale : Int) (σ : Sg) (hM : moS cs μ ad V M) (hv : inJ v) (hsc : inI scale) (hI : moInv V M σ) : Met l y_Mo_value (Cond.code y_Mo_value c_Mo_value 4 (some .int) :: wA) ({ frames := 2, cells := 0, slots := 0, locals := 49 }) (fm_Pc D clsA (tysA cs) Z μ sz [.ref (ad 0), .long (jN (v)), .int (iN (scale))]) (moQi D cs ad μ sz (fun z V' M' => z = (sp_value σ v scale).1 ∧ moInv V' M' (sp_value σ v scale).2 ∧ V' 0 = 0)) 0 0 (fm_A μ sz) := by
  refine mo_of hM (by decide +kernel) (Nat.le_of_ble_eq_true rfl) (fun p e s m below meth c S hr hlocks hsz hm hK hZ hA ls hl => ?_)
  subst hsz
  obtain ⟨hx, hb, hml, hown, hts⟩ := id S
  have hl : lv_has ls 4 [(0, .ref (ad 0)), (1, .long (jN (v))), (3, .int (iN (scale)))] := hl
  refine lv_aload_n hx hb d_Mo_value_0 rfl (lv_at hl 0 rfl) ?_
  refine fm_iconst S d_Mo_value_1 ?_
  refine mo_puti 0 S hK hm (by decide) k466 d_Mo_value_2 (fun V1 H locs eV1 hm => ?_)
  have hI := hI.v0 eV1
  have hI1 := hI.p
  have hI2 := hI.c
  have hI3 := hI.r
  refine lv_iload_n hx hb d_Mo_value_5 rfl (lv_at hl 2 rfl) ?_
  refine fm_if_lt (tgt := 15) S (by omega) d_Mo_value_6 (by decide) (fun c2 => ?_) (fun c2 => ?_)
  · refine fm_bipush S d_Mo_value_15 (by decide) ?_
    refine mo_iret S hr hlocks hK hm d_Mo_value_17 ?_
    unfold sp_value
    rw [if_pos (by omega)]
    exact ⟨rfl, hI, by rw [eV1]; rfl⟩
  · refine lv_iload_n hx hb d_Mo_value_9 rfl (lv_at hl 2 rfl) ?_
    refine fm_bipush S d_Mo_value_10 (by decide) ?_
    refine fm_icmp_le (tgt := 18) S (by omega) (by omega) d_Mo_value_12 (by decide) (fun c3 => ?_) (fun c3 => ?_)
    · refine lv_aload_n hx hb d_Mo_value_18 rfl (lv_at hl 0 rfl) ?_
      refine mo_get 12 S hK hm (by decide) k478 rfl rfl d_Mo_value_19 ?_
      refine fm_bipush S d_Mo_value_22 (by decide) ?_
      refine fm_icmp_ne (tgt := 29) S (by omega) (by omega) d_Mo_value_24 (by decide) (fun c4 => ?_) (fun c4 => ?_)
      · refine lv_aload_n hx hb d_Mo_value_29 rfl (lv_at hl 0 rfl) ?_
        refine lv_lload_n hx hb d_Mo_value_30 rfl (lv_at hl 1 rfl) ?_
        refine fm_iconst S d_Mo_value_31 ?_
        refine lv_iload_n hx hb d_Mo_value_32 rfl (lv_at hl 2 rfl) ?_
        refine fm_isub S d_Mo_value_33 ?_
        refine fm_iconst S d_Mo_value_34 ?_
        refine mo_cvS (n := 3) (As := [.long (jN (v)), .int (iN ((0 - scale))), .int (iN (2))]) (rest := []) S hK hZo hZ hA hm (fun μ sz hM => t_Mo_whole l D cs Z hZo ad μ V1 M sz v (0 - scale) 2 hM (by omega) (by omega)) (gV k546 k548 ks19 k6 k549) (by decide) (by decide +kernel) rfl hl.1 rfl (Nat.le_of_ble_eq_true rfl) ⟨Nat.le_of_ble_eq_true rfl, Nat.le_of_ble_eq_true rfl⟩ d_Mo_value_35 (fun M6 H locs q5 hm => ?_)
        obtain ⟨frM6, rgM6⟩ := q5
        have hnd19 := nd19 hv
        refine lv_aload_n hx hb d_Mo_value_38 rfl (lv_at hl 0 rfl) ?_
        refine lv_aload_n hx hb d_Mo_value_39 rfl (lv_at hl 0 rfl) ?_
        refine fm_iconst S d_Mo_value_40 ?_
        refine lv_aload_n hx hb d_Mo_value_41 rfl (lv_at hl 0 rfl) ?_
        refine mo_get 1 S hK hm (by decide) k467 rfl rfl d_Mo_value_42 ?_
        have hif : -18 ≤ (if v = 0 then (0 : Int) else 0 - scale) ∧ (if v = 0 then (0 : Int) else 0 - scale) ≤ 0 := by split <;> omega
        refine mo_ciS (n := 2) (As := [.int (iN (2)), .int (iN ((V1 1)))]) (rest := [.ref (ad 0)]) S hK hZo hZ hA hm (fun μ sz hM => t_Mo_cut l D cs Z hZo ad μ V1 M6 sz 2 (V1 1) (sP σ) (nd v.natAbs) v.natAbs (if v = 0 then 0 else (0 - scale)) (sgn v) hM (by omega) (by omega) (by omega) (by omega) rgM6) (gV k555 k557 ks21 k6 k558) (by decide) (by decide +kernel) rfl hl.1 rfl (Nat.le_of_ble_eq_true rfl) ⟨Nat.le_of_ble_eq_true rfl, Nat.le_of_ble_eq_true rfl⟩ d_Mo_value_45 (fun x9 M8 H locs q7 hm => ?_)
        obtain ⟨frM8, cuM8⟩ := q7
        obtain ⟨hz1, hz2⟩ := cut_fin0 cuM8 hI1.2 (fun h => sgn_nz (fun e => h (by rw [e]; rfl))) (by omega)
        have hif2 : cuz v.natAbs (if v = 0 then (0 : Int) else 0 - scale) = cuz v.natAbs (-scale) ∧ cuv (sP σ) v.natAbs (if v = 0 then (0 : Int) else 0 - scale) = cuv (sP σ) v.natAbs (-scale) := by
          split
          · rename_i h; rw [h, show (0 : Int).natAbs = 0 from rfl, cuv0, cuv0]; unfold cuz; simp
          · rw [show (0 : Int) - scale = -scale by omega]; exact ⟨rfl, rfl⟩
        rw [hif2.1] at hz1
        rw [hif2.2] at hz2
        have hres := fin_ok2 hz1 hz2 (cut22 cuM8 hI1.2.2)
        have hnd := fin_nd (N := v.natAbs) (x := -scale) (sg := sgn v) hI1.2 (fun h => sgn_nz (fun e => h (by rw [e]; rfl)))
        have hI5 : moInv V1 M8 σ := hI.fr ⟨rfl, rfl, rfl, rfl⟩ (fun k hk => (frM8.1 k (by omega)).trans (frM6.1 k (by omega))) (cut22 cuM8 hI1.2.2)
        have hzz := hI5.2.2.2.1 (sC σ + 1) (by omega) (by omega)
        rw [show ((sC σ + 1 : Nat) : Int) = V1 12 + 1 by omega] at hzz
        have hb2 := hnd.1
        have hb3 := hnd.2.1
        rw [← hres.1] at hb2 hb3
        refine mo_ci (n := 1) (As := [.int (iN (x9))]) (rest := []) S hK hZo hZ hA hm (fun μ sz hM => t_Mo_kept l D cs Z hZo ad μ V1 M8 sz x9 (fin (sP σ) v.natAbs (-scale) (sgn v)).2 hM (by rw [hres.1]; have := hnd.1; have := hnd.2.1; omega) hres.2 hnd.2.2.1 (by omega) hzz) (gV k563 k565 ks23 k6 k566) (by decide) (by decide +kernel) rfl hl.1 rfl (Nat.le_of_ble_eq_true rfl) ⟨Nat.le_of_ble_eq_true rfl, Nat.le_of_ble_eq_true rfl⟩ d_Mo_value_48 (fun x11 V12 M13 H locs q10 hm => ?_)
        refine mo_iret S hr hlocks hK hm d_Mo_value_51 ?_
        obtain ⟨k1, k2, k3, k4⟩ := q10
        unfold sp_value
        rw [if_neg (by omega), if_neg (by omega)]
        refine ⟨by rw [k1]; omega, hI5.add (by omega) hnd k2 k3 (kp_nv hres.1 hnd k4), by rw [k2, eV1]; rfl⟩
      · refine fm_iconst S d_Mo_value_27 ?_
        refine mo_iret S hr hlocks hK hm d_Mo_value_28 ?_
        unfold sp_value
        rw [if_neg (by omega), if_pos (by omega)]
        exact ⟨rfl, hI, by rw [eV1]; rfl⟩
    · refine fm_bipush S d_Mo_value_15 (by decide) ?_
      refine mo_iret S hr hlocks hK hm d_Mo_value_17 ?_
      unfold sp_value
      rw [if_pos (by omega)]
      exact ⟨rfl, hI, by rw [eV1]; rfl⟩

set_option maxHeartbeats 4000000 in
set_option maxRecDepth 100000 in
/-- node(op, a, b) -/
theorem t_Mo_node (l : Launch) (D : va_G) (cs : Nat → ClassId) (Z : (Nat → Prop) → State → Heap → Prop) (hZo : fm_Zok Z) (ad : Nat → Nat) (μ : fm_Mu) (V : Nat → Int) (M : Nat → Int → Int) (sz : Nat) (op : Int) (a : Int) (b : Int) (σ : Sg) (hM : moS cs μ ad V M) (hop : inI op) (hia : inI a) (hib : inI b) (hI : moInv V M σ) : Met l y_Mo_node (Cond.code y_Mo_node c_Mo_node 4 (some .int) :: wA) ({ frames := 5, cells := 0, slots := 0, locals := 116 }) (fm_Pc D clsA (tysA cs) Z μ sz [.ref (ad 0), .int (iN (op)), .int (iN (a)), .int (iN (b))]) (moQi D cs ad μ sz (fun z V' M' => z = (sp_node σ op a b).1 ∧ moInv V' M' (sp_node σ op a b).2 ∧ V' 0 = 0)) 0 0 (fm_A μ sz) := by
  refine mo_of hM (by decide +kernel) (Nat.le_of_ble_eq_true rfl) (fun p e s m below meth c S hr hlocks hsz hm hK hZ hA ls hl => ?_)
  subst hsz
  obtain ⟨hx, hb, hml, hown, hts⟩ := id S
  have hl : lv_has ls 4 [(0, .ref (ad 0)), (1, .int (iN (op))), (2, .int (iN (a))), (3, .int (iN (b)))] := hl
  refine lv_aload_n hx hb d_Mo_node_0 rfl (lv_at hl 0 rfl) ?_
  refine fm_iconst S d_Mo_node_1 ?_
  refine mo_puti 0 S hK hm (by decide) k466 d_Mo_node_2 (fun V1 H locs eV1 hm => ?_)
  have hI := hI.v0 eV1
  have hI1 := hI.p
  have hI2 := hI.c
  have hI3 := hI.r
  refine lv_iload_n hx hb d_Mo_node_5 rfl (lv_at hl 1 rfl) ?_
  refine fm_if_lt (tgt := 14) S (by omega) d_Mo_node_6 (by decide) (fun c2 => ?_) (fun c2 => ?_)
  · refine fm_bipush S d_Mo_node_14 (by decide) ?_
    refine mo_iret S hr hlocks hK hm d_Mo_node_16 ?_
    unfold sp_node
    rw [if_pos (by omega)]
    exact ⟨rfl, hI, by rw [eV1]; rfl⟩
  · refine lv_iload_n hx hb d_Mo_node_9 rfl (lv_at hl 1 rfl) ?_
    refine fm_iconst S d_Mo_node_10 ?_
    refine fm_icmp_le (tgt := 17) S (by omega) (by omega) d_Mo_node_11 (by decide) (fun c3 => ?_) (fun c3 => ?_)
    · refine lv_aload_n hx hb d_Mo_node_17 rfl (lv_at hl 0 rfl) ?_
      refine lv_iload_n hx hb d_Mo_node_18 rfl (lv_at hl 2 rfl) ?_
      refine mo_pi (n := 1) (As := [.int (iN (a))]) (rest := []) S hK hZo hZ hA hm (fun μ sz hM => t_Mo_isNode l D cs Z hZo ad μ V1 M sz a hM (by omega) (by omega)) (gV k571 k573 ks24 k6 k574) (by decide) (by decide +kernel) rfl hl.1 rfl (Nat.le_of_ble_eq_true rfl) ⟨Nat.le_of_ble_eq_true rfl, Nat.le_of_ble_eq_true rfl⟩ d_Mo_node_19 (fun x5 q4 => ?_)
      refine fm_if_eq (tgt := 38) S (by omega) d_Mo_node_22 (by decide) (fun c6 => ?_) (fun c6 => ?_)
      · refine fm_bipush S d_Mo_node_38 (by decide) ?_
        refine mo_iret S hr hlocks hK hm d_Mo_node_40 ?_
        unfold sp_node
        rw [if_neg (by omega), if_pos (by omega)]
        exact ⟨rfl, hI, by rw [eV1]; rfl⟩
      · refine lv_iload_n hx hb d_Mo_node_25 rfl (lv_at hl 1 rfl) ?_
        refine fm_iconst S d_Mo_node_26 ?_
        refine fm_icmp_ge (tgt := 41) S (by omega) (by omega) d_Mo_node_27 (by decide) (fun c7 => ?_) (fun c7 => ?_)
        · refine lv_aload_n hx hb d_Mo_node_41 rfl (lv_at hl 0 rfl) ?_
          refine mo_get 12 S hK hm (by decide) k478 rfl rfl d_Mo_node_42 ?_
          refine fm_bipush S d_Mo_node_45 (by decide) ?_
          refine fm_icmp_ne (tgt := 52) S (by omega) (by omega) d_Mo_node_47 (by decide) (fun c8 => ?_) (fun c8 => ?_)
          · have hwa := hI.nv (n := a) (by omega) (by omega)
            have ea := hwa.1.1
            have ba1 := hwa.2.1
            have ba2 := hwa.2.2.1
            have ba3 := hwa.2.2.2.1.1
            have hzz := hI.2.2.2.1 (sC σ + 1) (by omega) (by omega)
            rw [show ((sC σ + 1 : Nat) : Int) = V1 12 + 1 by omega] at hzz
            refine lv_aload_n hx hb d_Mo_node_52 rfl (lv_at hl 0 rfl) ?_
            refine mo_get 11 S hK hm (by decide) k477 rfl rfl d_Mo_node_53 ?_
            refine lv_iload_n hx hb d_Mo_node_56 rfl (lv_at hl 2 rfl) ?_
            refine mo_iald 10 S hK hm (by decide) (by simp only [moLen]; omega) d_Mo_node_57 ?_
            refine fm_if_eq (tgt := 72) S (by omega) d_Mo_node_58 (by decide) (fun c9 => ?_) (fun c9 => ?_)
            · refine lv_iload_n hx hb d_Mo_node_72 rfl (lv_at hl 1 rfl) ?_
              refine fm_iconst S d_Mo_node_73 ?_
              refine fm_icmp_ge (tgt := 97) S (by omega) (by omega) d_Mo_node_74 (by decide) (fun c10 => ?_) (fun c10 => ?_)
              · refine lv_aload_n hx hb d_Mo_node_97 rfl (lv_at hl 0 rfl) ?_
                refine lv_iload_n hx hb d_Mo_node_98 rfl (lv_at hl 2 rfl) ?_
                refine fm_iconst S d_Mo_node_99 ?_
                refine mo_cvS (n := 2) (As := [.int (iN (a)), .int (iN (0))]) (rest := []) S hK hZo hZ hA hm (fun μ sz hM => t_Mo_load l D cs Z hZo ad μ V1 M sz a 0 (sN σ a.toNat).1 (sN σ a.toNat).2 hM (by omega) hwa.1) (gV k575 k577 ks25 k6 k578) (by decide) (by decide +kernel) rfl hl.1 rfl (Nat.le_of_ble_eq_true rfl) ⟨Nat.le_of_ble_eq_true rfl, Nat.le_of_ble_eq_true rfl⟩ d_Mo_node_100 (fun M12 H locs q11 hm => ?_)
                obtain ⟨frM12, rgM12⟩ := q11
                refine lv_iload_n hx hb d_Mo_node_103 rfl (lv_at hl 1 rfl) ?_
                refine fm_iconst S d_Mo_node_104 ?_
                refine fm_icmp_ge (tgt := 114) S (by omega) (by omega) d_Mo_node_105 (by decide) (fun c13 => ?_) (fun c13 => ?_)
                · refine lv_aload_n hx hb d_Mo_node_114 rfl (lv_at hl 0 rfl) ?_
                  refine lv_aload_n hx hb d_Mo_node_115 rfl (lv_at hl 0 rfl) ?_
                  refine lv_iload_n hx hb d_Mo_node_116 rfl (lv_at hl 1 rfl) ?_
                  refine mo_ciS (n := 1) (As := [.int (iN (op))]) (rest := [.ref (ad 0)]) S hK hZo hZ hA hm (fun μ sz hM => t_Mo_operated l D cs Z hZo ad μ V1 M12 sz op (sP σ) (sN σ a.toNat).2 0 hM (by omega) (by rw [(frM12.2.2 2 (by decide)).1]; exact hI.2.2.2.2.2.2) rgM12 (fun h => absurd h (by omega)) hwa.2.2.2.1 vB_0 hI1) (gV k579 k581 ks26 k6 k582) (by decide) (by decide +kernel) rfl hl.1 rfl (Nat.le_of_ble_eq_true rfl) ⟨Nat.le_of_ble_eq_true rfl, Nat.le_of_ble_eq_true rfl⟩ d_Mo_node_117 (fun x16 M15 H locs q14 hm => ?_)
                  rw [sOp_5 (b' := (sN σ b.toNat).2) (by omega)] at q14
                  have hnd : ndOk (sOp (sP σ) op (sN σ a.toNat).2 (sN σ b.toNat).2) := sOp_nd hI1.2 hwa.2.2.2.1
                  obtain ⟨qo, hres⟩ := q14
                  have hb2 := hnd.1
                  have hb3 := hnd.2.1
                  rw [← hres.1] at hb2 hb3
                  have hI5 : moInv V1 M15 σ := hI.fr ⟨rfl, rfl, rfl, rfl⟩ (fun k hk => (qo.1 k (by omega)).trans ((fun k hk => frM12.1 k (by omega)) k hk)) hres.2.2
                  have hzz := hI5.2.2.2.1 (sC σ + 1) (by omega) (by omega)
                  rw [show ((sC σ + 1 : Nat) : Int) = V1 12 + 1 by omega] at hzz
                  refine mo_ci (n := 1) (As := [.int (iN (x16))]) (rest := []) S hK hZo hZ hA hm (fun μ sz hM => t_Mo_kept l D cs Z hZo ad μ V1 M15 sz x16 (sOp (sP σ) op (sN σ a.toNat).2 (sN σ b.toNat).2).2 hM (by omega) hres.2.1 hnd.2.2.1 (by omega) hzz) (gV k563 k565 ks23 k6 k566) (by decide) (by decide +kernel) rfl hl.1 rfl (Nat.le_of_ble_eq_true rfl) ⟨Nat.le_of_ble_eq_true rfl, Nat.le_of_ble_eq_true rfl⟩ d_Mo_node_120 (fun x18 V19 M20 H locs q17 hm => ?_)
                  refine mo_iret S hr hlocks hK hm d_Mo_node_123 ?_
                  obtain ⟨k1, k2, k3, k4⟩ := q17
                  unfold sp_node
                  rw [if_neg (by omega), if_neg (by omega), if_neg (by omega)]
                  have hw : nodeW σ op a b = sOp (sP σ) op (sN σ a.toNat).2 (sN σ b.toNat).2 := by unfold nodeW; rw [if_neg (by omega), if_neg (by omega)]
                  rw [hw]
                  exact ⟨by rw [k1]; omega, hI5.add (by omega) hnd k2 k3 (kp_nv hres.1 hnd k4), by rw [k2, eV1]; rfl⟩
                · exfalso; omega
              · have hwb := hI.nv (n := b) (by omega) (by omega)
                have eb := hwb.1.1
                have bb1 := hwb.2.1
                have bb2 := hwb.2.2.1
                have bb3 := hwb.2.2.2.1.1
                refine lv_aload_n hx hb d_Mo_node_77 rfl (lv_at hl 0 rfl) ?_
                refine mo_get 11 S hK hm (by decide) k477 rfl rfl d_Mo_node_78 ?_
                refine lv_iload_n hx hb d_Mo_node_81 rfl (lv_at hl 3 rfl) ?_
                refine mo_iald 10 S hK hm (by decide) (by simp only [moLen]; omega) d_Mo_node_82 ?_
                refine fm_if_eq (tgt := 97) S (by omega) d_Mo_node_83 (by decide) (fun c21 => ?_) (fun c21 => ?_)
                · refine lv_aload_n hx hb d_Mo_node_97 rfl (lv_at hl 0 rfl) ?_
                  refine lv_iload_n hx hb d_Mo_node_98 rfl (lv_at hl 2 rfl) ?_
                  refine fm_iconst S d_Mo_node_99 ?_
                  refine mo_cvS (n := 2) (As := [.int (iN (a)), .int (iN (0))]) (rest := []) S hK hZo hZ hA hm (fun μ sz hM => t_Mo_load l D cs Z hZo ad μ V1 M sz a 0 (sN σ a.toNat).1 (sN σ a.toNat).2 hM (by omega) hwa.1) (gV k575 k577 ks25 k6 k578) (by decide) (by decide +kernel) rfl hl.1 rfl (Nat.le_of_ble_eq_true rfl) ⟨Nat.le_of_ble_eq_true rfl, Nat.le_of_ble_eq_true rfl⟩ d_Mo_node_100 (fun M23 H locs q22 hm => ?_)
                  obtain ⟨frM23, rgM23⟩ := q22
                  refine lv_iload_n hx hb d_Mo_node_103 rfl (lv_at hl 1 rfl) ?_
                  refine fm_iconst S d_Mo_node_104 ?_
                  refine fm_icmp_ge (tgt := 114) S (by omega) (by omega) d_Mo_node_105 (by decide) (fun c24 => ?_) (fun c24 => ?_)
                  · exfalso; omega
                  · have hgb2 : Nv M23 b (sN σ b.toNat).1 (sN σ b.toNat).2 := by
                      have h := hwb.1
                      unfold Nv at h ⊢
                      rw [frM23.1 6 (by decide), frM23.1 7 (by decide), frM23.1 8 (by decide), frM23.1 9 (by decide), frM23.1 10 (by decide)]; exact h
                    refine lv_aload_n hx hb d_Mo_node_108 rfl (lv_at hl 0 rfl) ?_
                    refine lv_iload_n hx hb d_Mo_node_109 rfl (lv_at hl 3 rfl) ?_
                    refine fm_iconst S d_Mo_node_110 ?_
                    refine mo_cvS (n := 2) (As := [.int (iN (b)), .int (iN (1))]) (rest := []) S hK hZo hZ hA hm (fun μ sz hM => t_Mo_load l D cs Z hZo ad μ V1 M23 sz b 1 (sN σ b.toNat).1 (sN σ b.toNat).2 hM (by omega) hgb2) (gV k575 k577 ks25 k6 k578) (by decide) (by decide +kernel) rfl hl.1 rfl (Nat.le_of_ble_eq_true rfl) ⟨Nat.le_of_ble_eq_true rfl, Nat.le_of_ble_eq_true rfl⟩ d_Mo_node_111 (fun M26 H locs q25 hm => ?_)
                    obtain ⟨frM26, rgM26⟩ := q25
                    refine lv_aload_n hx hb d_Mo_node_114 rfl (lv_at hl 0 rfl) ?_
                    refine lv_aload_n hx hb d_Mo_node_115 rfl (lv_at hl 0 rfl) ?_
                    refine lv_iload_n hx hb d_Mo_node_116 rfl (lv_at hl 1 rfl) ?_
                    have hra2 := frM26.rv (r' := 0) (by decide) hwa.2.2.2.1 rgM23
                    refine mo_ciS (n := 1) (As := [.int (iN (op))]) (rest := [.ref (ad 0)]) S hK hZo hZ hA hm (fun μ sz hM => t_Mo_operated l D cs Z hZo ad μ V1 M26 sz op (sP σ) (sN σ a.toNat).2 (sN σ b.toNat).2 hM (by omega) (by rw [(frM26.2.2 2 (by decide)).1, (frM23.2.2 2 (by decide)).1]; exact hI.2.2.2.2.2.2) hra2 (fun _ => rgM26) hwa.2.2.2.1 hwb.2.2.2.1 hI1) (gV k579 k581 ks26 k6 k582) (by decide) (by decide +kernel) rfl hl.1 rfl (Nat.le_of_ble_eq_true rfl) ⟨Nat.le_of_ble_eq_true rfl, Nat.le_of_ble_eq_true rfl⟩ d_Mo_node_117 (fun x29 M28 H locs q27 hm => ?_)
                    have hnd : ndOk (sOp (sP σ) op (sN σ a.toNat).2 (sN σ b.toNat).2) := sOp_nd hI1.2 hwa.2.2.2.1
                    obtain ⟨qo, hres⟩ := q27
                    have hb2 := hnd.1
                    have hb3 := hnd.2.1
                    rw [← hres.1] at hb2 hb3
                    have hI5 : moInv V1 M28 σ := hI.fr ⟨rfl, rfl, rfl, rfl⟩ (fun k hk => (qo.1 k (by omega)).trans ((fun k hk => (frM26.1 k (by omega)).trans (frM23.1 k (by omega))) k hk)) hres.2.2
                    have hzz := hI5.2.2.2.1 (sC σ + 1) (by omega) (by omega)
                    rw [show ((sC σ + 1 : Nat) : Int) = V1 12 + 1 by omega] at hzz
                    refine mo_ci (n := 1) (As := [.int (iN (x29))]) (rest := []) S hK hZo hZ hA hm (fun μ sz hM => t_Mo_kept l D cs Z hZo ad μ V1 M28 sz x29 (sOp (sP σ) op (sN σ a.toNat).2 (sN σ b.toNat).2).2 hM (by omega) hres.2.1 hnd.2.2.1 (by omega) hzz) (gV k563 k565 ks23 k6 k566) (by decide) (by decide +kernel) rfl hl.1 rfl (Nat.le_of_ble_eq_true rfl) ⟨Nat.le_of_ble_eq_true rfl, Nat.le_of_ble_eq_true rfl⟩ d_Mo_node_120 (fun x31 V32 M33 H locs q30 hm => ?_)
                    refine mo_iret S hr hlocks hK hm d_Mo_node_123 ?_
                    obtain ⟨k1, k2, k3, k4⟩ := q30
                    unfold sp_node
                    rw [if_neg (by omega), if_neg (by omega), if_neg (by omega)]
                    have hw : nodeW σ op a b = sOp (sP σ) op (sN σ a.toNat).2 (sN σ b.toNat).2 := by unfold nodeW; rw [if_neg (by omega), if_neg (by omega)]
                    rw [hw]
                    exact ⟨by rw [k1]; omega, hI5.add (by omega) hnd k2 k3 (kp_nv hres.1 hnd k4), by rw [k2, eV1]; rfl⟩
                · refine lv_aload_n hx hb d_Mo_node_86 rfl (lv_at hl 0 rfl) ?_
                  refine lv_aload_n hx hb d_Mo_node_87 rfl (lv_at hl 0 rfl) ?_
                  refine mo_get 11 S hK hm (by decide) k477 rfl rfl d_Mo_node_88 ?_
                  refine lv_iload_n hx hb d_Mo_node_91 rfl (lv_at hl 3 rfl) ?_
                  refine mo_iald 10 S hK hm (by decide) (by simp only [moLen]; omega) d_Mo_node_92 ?_
                  refine mo_ci (n := 1) (As := [.int (iN ((M 10 b)))]) (rest := []) S hK hZo hZ hA hm (fun μ sz hM => t_Mo_kept l D cs Z hZo ad μ V1 M sz (M 10 b) 0 hM (by omega) (fun h => absurd h c21) vB_0 (by omega) hzz) (gV k563 k565 ks23 k6 k566) (by decide) (by decide +kernel) rfl hl.1 rfl (Nat.le_of_ble_eq_true rfl) ⟨Nat.le_of_ble_eq_true rfl, Nat.le_of_ble_eq_true rfl⟩ d_Mo_node_93 (fun x35 V36 M37 H locs q34 hm => ?_)
                  refine mo_iret S hr hlocks hK hm d_Mo_node_96 ?_
                  obtain ⟨k1, k2, k3, k4⟩ := q34
                  unfold sp_node
                  rw [if_neg (by omega), if_neg (by omega), if_neg (by omega)]
                  have hw : nodeW σ op a b = ((sN σ b.toNat).1, 0) := by unfold nodeW; rw [if_neg (by omega), if_pos (by omega)]
                  rw [hw]
                  exact ⟨by rw [k1]; omega, hI.add (by omega) ⟨bb1, bb2, vB_0, fun _ => rfl⟩ k2 k3 (kp_nv eb ⟨bb1, bb2, vB_0, fun _ => rfl⟩ k4), by rw [k2, eV1]; rfl⟩
            · refine lv_aload_n hx hb d_Mo_node_61 rfl (lv_at hl 0 rfl) ?_
              refine lv_aload_n hx hb d_Mo_node_62 rfl (lv_at hl 0 rfl) ?_
              refine mo_get 11 S hK hm (by decide) k477 rfl rfl d_Mo_node_63 ?_
              refine lv_iload_n hx hb d_Mo_node_66 rfl (lv_at hl 2 rfl) ?_
              refine mo_iald 10 S hK hm (by decide) (by simp only [moLen]; omega) d_Mo_node_67 ?_
              refine mo_ci (n := 1) (As := [.int (iN ((M 10 a)))]) (rest := []) S hK hZo hZ hA hm (fun μ sz hM => t_Mo_kept l D cs Z hZo ad μ V1 M sz (M 10 a) 0 hM (by omega) (fun h => absurd h c9) vB_0 (by omega) hzz) (gV k563 k565 ks23 k6 k566) (by decide) (by decide +kernel) rfl hl.1 rfl (Nat.le_of_ble_eq_true rfl) ⟨Nat.le_of_ble_eq_true rfl, Nat.le_of_ble_eq_true rfl⟩ d_Mo_node_68 (fun x39 V40 M41 H locs q38 hm => ?_)
              refine mo_iret S hr hlocks hK hm d_Mo_node_71 ?_
              obtain ⟨k1, k2, k3, k4⟩ := q38
              unfold sp_node
              rw [if_neg (by omega), if_neg (by omega), if_neg (by omega)]
              have hw : nodeW σ op a b = ((sN σ a.toNat).1, 0) := by unfold nodeW; rw [if_pos (by omega)]
              rw [hw]
              exact ⟨by rw [k1]; omega, hI.add (by omega) ⟨ba1, ba2, vB_0, fun _ => rfl⟩ k2 k3 (kp_nv ea ⟨ba1, ba2, vB_0, fun _ => rfl⟩ k4), by rw [k2, eV1]; rfl⟩
          · refine fm_iconst S d_Mo_node_50 ?_
            refine mo_iret S hr hlocks hK hm d_Mo_node_51 ?_
            unfold sp_node
            rw [if_neg (by omega), if_neg (by omega), if_pos (by omega)]
            exact ⟨rfl, hI, by rw [eV1]; rfl⟩
        · refine lv_aload_n hx hb d_Mo_node_30 rfl (lv_at hl 0 rfl) ?_
          refine lv_iload_n hx hb d_Mo_node_31 rfl (lv_at hl 3 rfl) ?_
          refine mo_pi (n := 1) (As := [.int (iN (b))]) (rest := []) S hK hZo hZ hA hm (fun μ sz hM => t_Mo_isNode l D cs Z hZo ad μ V1 M sz b hM (by omega) (by omega)) (gV k571 k573 ks24 k6 k574) (by decide) (by decide +kernel) rfl hl.1 rfl (Nat.le_of_ble_eq_true rfl) ⟨Nat.le_of_ble_eq_true rfl, Nat.le_of_ble_eq_true rfl⟩ d_Mo_node_32 (fun x43 q42 => ?_)
          refine fm_if_ne (tgt := 41) S (by omega) d_Mo_node_35 (by decide) (fun c44 => ?_) (fun c44 => ?_)
          · refine lv_aload_n hx hb d_Mo_node_41 rfl (lv_at hl 0 rfl) ?_
            refine mo_get 12 S hK hm (by decide) k478 rfl rfl d_Mo_node_42 ?_
            refine fm_bipush S d_Mo_node_45 (by decide) ?_
            refine fm_icmp_ne (tgt := 52) S (by omega) (by omega) d_Mo_node_47 (by decide) (fun c45 => ?_) (fun c45 => ?_)
            · have hwa := hI.nv (n := a) (by omega) (by omega)
              have ea := hwa.1.1
              have ba1 := hwa.2.1
              have ba2 := hwa.2.2.1
              have ba3 := hwa.2.2.2.1.1
              have hzz := hI.2.2.2.1 (sC σ + 1) (by omega) (by omega)
              rw [show ((sC σ + 1 : Nat) : Int) = V1 12 + 1 by omega] at hzz
              refine lv_aload_n hx hb d_Mo_node_52 rfl (lv_at hl 0 rfl) ?_
              refine mo_get 11 S hK hm (by decide) k477 rfl rfl d_Mo_node_53 ?_
              refine lv_iload_n hx hb d_Mo_node_56 rfl (lv_at hl 2 rfl) ?_
              refine mo_iald 10 S hK hm (by decide) (by simp only [moLen]; omega) d_Mo_node_57 ?_
              refine fm_if_eq (tgt := 72) S (by omega) d_Mo_node_58 (by decide) (fun c46 => ?_) (fun c46 => ?_)
              · refine lv_iload_n hx hb d_Mo_node_72 rfl (lv_at hl 1 rfl) ?_
                refine fm_iconst S d_Mo_node_73 ?_
                refine fm_icmp_ge (tgt := 97) S (by omega) (by omega) d_Mo_node_74 (by decide) (fun c47 => ?_) (fun c47 => ?_)
                · refine lv_aload_n hx hb d_Mo_node_97 rfl (lv_at hl 0 rfl) ?_
                  refine lv_iload_n hx hb d_Mo_node_98 rfl (lv_at hl 2 rfl) ?_
                  refine fm_iconst S d_Mo_node_99 ?_
                  refine mo_cvS (n := 2) (As := [.int (iN (a)), .int (iN (0))]) (rest := []) S hK hZo hZ hA hm (fun μ sz hM => t_Mo_load l D cs Z hZo ad μ V1 M sz a 0 (sN σ a.toNat).1 (sN σ a.toNat).2 hM (by omega) hwa.1) (gV k575 k577 ks25 k6 k578) (by decide) (by decide +kernel) rfl hl.1 rfl (Nat.le_of_ble_eq_true rfl) ⟨Nat.le_of_ble_eq_true rfl, Nat.le_of_ble_eq_true rfl⟩ d_Mo_node_100 (fun M49 H locs q48 hm => ?_)
                  obtain ⟨frM49, rgM49⟩ := q48
                  refine lv_iload_n hx hb d_Mo_node_103 rfl (lv_at hl 1 rfl) ?_
                  refine fm_iconst S d_Mo_node_104 ?_
                  refine fm_icmp_ge (tgt := 114) S (by omega) (by omega) d_Mo_node_105 (by decide) (fun c50 => ?_) (fun c50 => ?_)
                  · refine lv_aload_n hx hb d_Mo_node_114 rfl (lv_at hl 0 rfl) ?_
                    refine lv_aload_n hx hb d_Mo_node_115 rfl (lv_at hl 0 rfl) ?_
                    refine lv_iload_n hx hb d_Mo_node_116 rfl (lv_at hl 1 rfl) ?_
                    refine mo_ciS (n := 1) (As := [.int (iN (op))]) (rest := [.ref (ad 0)]) S hK hZo hZ hA hm (fun μ sz hM => t_Mo_operated l D cs Z hZo ad μ V1 M49 sz op (sP σ) (sN σ a.toNat).2 0 hM (by omega) (by rw [(frM49.2.2 2 (by decide)).1]; exact hI.2.2.2.2.2.2) rgM49 (fun h => absurd h (by omega)) hwa.2.2.2.1 vB_0 hI1) (gV k579 k581 ks26 k6 k582) (by decide) (by decide +kernel) rfl hl.1 rfl (Nat.le_of_ble_eq_true rfl) ⟨Nat.le_of_ble_eq_true rfl, Nat.le_of_ble_eq_true rfl⟩ d_Mo_node_117 (fun x53 M52 H locs q51 hm => ?_)
                    rw [sOp_5 (b' := (sN σ b.toNat).2) (by omega)] at q51
                    have hnd : ndOk (sOp (sP σ) op (sN σ a.toNat).2 (sN σ b.toNat).2) := sOp_nd hI1.2 hwa.2.2.2.1
                    obtain ⟨qo, hres⟩ := q51
                    have hb2 := hnd.1
                    have hb3 := hnd.2.1
                    rw [← hres.1] at hb2 hb3
                    have hI5 : moInv V1 M52 σ := hI.fr ⟨rfl, rfl, rfl, rfl⟩ (fun k hk => (qo.1 k (by omega)).trans ((fun k hk => frM49.1 k (by omega)) k hk)) hres.2.2
                    have hzz := hI5.2.2.2.1 (sC σ + 1) (by omega) (by omega)
                    rw [show ((sC σ + 1 : Nat) : Int) = V1 12 + 1 by omega] at hzz
                    refine mo_ci (n := 1) (As := [.int (iN (x53))]) (rest := []) S hK hZo hZ hA hm (fun μ sz hM => t_Mo_kept l D cs Z hZo ad μ V1 M52 sz x53 (sOp (sP σ) op (sN σ a.toNat).2 (sN σ b.toNat).2).2 hM (by omega) hres.2.1 hnd.2.2.1 (by omega) hzz) (gV k563 k565 ks23 k6 k566) (by decide) (by decide +kernel) rfl hl.1 rfl (Nat.le_of_ble_eq_true rfl) ⟨Nat.le_of_ble_eq_true rfl, Nat.le_of_ble_eq_true rfl⟩ d_Mo_node_120 (fun x55 V56 M57 H locs q54 hm => ?_)
                    refine mo_iret S hr hlocks hK hm d_Mo_node_123 ?_
                    obtain ⟨k1, k2, k3, k4⟩ := q54
                    unfold sp_node
                    rw [if_neg (by omega), if_neg (by omega), if_neg (by omega)]
                    have hw : nodeW σ op a b = sOp (sP σ) op (sN σ a.toNat).2 (sN σ b.toNat).2 := by unfold nodeW; rw [if_neg (by omega), if_neg (by omega)]
                    rw [hw]
                    exact ⟨by rw [k1]; omega, hI5.add (by omega) hnd k2 k3 (kp_nv hres.1 hnd k4), by rw [k2, eV1]; rfl⟩
                  · exfalso; omega
                · have hwb := hI.nv (n := b) (by omega) (by omega)
                  have eb := hwb.1.1
                  have bb1 := hwb.2.1
                  have bb2 := hwb.2.2.1
                  have bb3 := hwb.2.2.2.1.1
                  refine lv_aload_n hx hb d_Mo_node_77 rfl (lv_at hl 0 rfl) ?_
                  refine mo_get 11 S hK hm (by decide) k477 rfl rfl d_Mo_node_78 ?_
                  refine lv_iload_n hx hb d_Mo_node_81 rfl (lv_at hl 3 rfl) ?_
                  refine mo_iald 10 S hK hm (by decide) (by simp only [moLen]; omega) d_Mo_node_82 ?_
                  refine fm_if_eq (tgt := 97) S (by omega) d_Mo_node_83 (by decide) (fun c58 => ?_) (fun c58 => ?_)
                  · refine lv_aload_n hx hb d_Mo_node_97 rfl (lv_at hl 0 rfl) ?_
                    refine lv_iload_n hx hb d_Mo_node_98 rfl (lv_at hl 2 rfl) ?_
                    refine fm_iconst S d_Mo_node_99 ?_
                    refine mo_cvS (n := 2) (As := [.int (iN (a)), .int (iN (0))]) (rest := []) S hK hZo hZ hA hm (fun μ sz hM => t_Mo_load l D cs Z hZo ad μ V1 M sz a 0 (sN σ a.toNat).1 (sN σ a.toNat).2 hM (by omega) hwa.1) (gV k575 k577 ks25 k6 k578) (by decide) (by decide +kernel) rfl hl.1 rfl (Nat.le_of_ble_eq_true rfl) ⟨Nat.le_of_ble_eq_true rfl, Nat.le_of_ble_eq_true rfl⟩ d_Mo_node_100 (fun M60 H locs q59 hm => ?_)
                    obtain ⟨frM60, rgM60⟩ := q59
                    refine lv_iload_n hx hb d_Mo_node_103 rfl (lv_at hl 1 rfl) ?_
                    refine fm_iconst S d_Mo_node_104 ?_
                    refine fm_icmp_ge (tgt := 114) S (by omega) (by omega) d_Mo_node_105 (by decide) (fun c61 => ?_) (fun c61 => ?_)
                    · exfalso; omega
                    · have hgb2 : Nv M60 b (sN σ b.toNat).1 (sN σ b.toNat).2 := by
                        have h := hwb.1
                        unfold Nv at h ⊢
                        rw [frM60.1 6 (by decide), frM60.1 7 (by decide), frM60.1 8 (by decide), frM60.1 9 (by decide), frM60.1 10 (by decide)]; exact h
                      refine lv_aload_n hx hb d_Mo_node_108 rfl (lv_at hl 0 rfl) ?_
                      refine lv_iload_n hx hb d_Mo_node_109 rfl (lv_at hl 3 rfl) ?_
                      refine fm_iconst S d_Mo_node_110 ?_
                      refine mo_cvS (n := 2) (As := [.int (iN (b)), .int (iN (1))]) (rest := []) S hK hZo hZ hA hm (fun μ sz hM => t_Mo_load l D cs Z hZo ad μ V1 M60 sz b 1 (sN σ b.toNat).1 (sN σ b.toNat).2 hM (by omega) hgb2) (gV k575 k577 ks25 k6 k578) (by decide) (by decide +kernel) rfl hl.1 rfl (Nat.le_of_ble_eq_true rfl) ⟨Nat.le_of_ble_eq_true rfl, Nat.le_of_ble_eq_true rfl⟩ d_Mo_node_111 (fun M63 H locs q62 hm => ?_)
                      obtain ⟨frM63, rgM63⟩ := q62
                      refine lv_aload_n hx hb d_Mo_node_114 rfl (lv_at hl 0 rfl) ?_
                      refine lv_aload_n hx hb d_Mo_node_115 rfl (lv_at hl 0 rfl) ?_
                      refine lv_iload_n hx hb d_Mo_node_116 rfl (lv_at hl 1 rfl) ?_
                      have hra2 := frM63.rv (r' := 0) (by decide) hwa.2.2.2.1 rgM60
                      refine mo_ciS (n := 1) (As := [.int (iN (op))]) (rest := [.ref (ad 0)]) S hK hZo hZ hA hm (fun μ sz hM => t_Mo_operated l D cs Z hZo ad μ V1 M63 sz op (sP σ) (sN σ a.toNat).2 (sN σ b.toNat).2 hM (by omega) (by rw [(frM63.2.2 2 (by decide)).1, (frM60.2.2 2 (by decide)).1]; exact hI.2.2.2.2.2.2) hra2 (fun _ => rgM63) hwa.2.2.2.1 hwb.2.2.2.1 hI1) (gV k579 k581 ks26 k6 k582) (by decide) (by decide +kernel) rfl hl.1 rfl (Nat.le_of_ble_eq_true rfl) ⟨Nat.le_of_ble_eq_true rfl, Nat.le_of_ble_eq_true rfl⟩ d_Mo_node_117 (fun x66 M65 H locs q64 hm => ?_)
                      have hnd : ndOk (sOp (sP σ) op (sN σ a.toNat).2 (sN σ b.toNat).2) := sOp_nd hI1.2 hwa.2.2.2.1
                      obtain ⟨qo, hres⟩ := q64
                      have hb2 := hnd.1
                      have hb3 := hnd.2.1
                      rw [← hres.1] at hb2 hb3
                      have hI5 : moInv V1 M65 σ := hI.fr ⟨rfl, rfl, rfl, rfl⟩ (fun k hk => (qo.1 k (by omega)).trans ((fun k hk => (frM63.1 k (by omega)).trans (frM60.1 k (by omega))) k hk)) hres.2.2
                      have hzz := hI5.2.2.2.1 (sC σ + 1) (by omega) (by omega)
                      rw [show ((sC σ + 1 : Nat) : Int) = V1 12 + 1 by omega] at hzz
                      refine mo_ci (n := 1) (As := [.int (iN (x66))]) (rest := []) S hK hZo hZ hA hm (fun μ sz hM => t_Mo_kept l D cs Z hZo ad μ V1 M65 sz x66 (sOp (sP σ) op (sN σ a.toNat).2 (sN σ b.toNat).2).2 hM (by omega) hres.2.1 hnd.2.2.1 (by omega) hzz) (gV k563 k565 ks23 k6 k566) (by decide) (by decide +kernel) rfl hl.1 rfl (Nat.le_of_ble_eq_true rfl) ⟨Nat.le_of_ble_eq_true rfl, Nat.le_of_ble_eq_true rfl⟩ d_Mo_node_120 (fun x68 V69 M70 H locs q67 hm => ?_)
                      refine mo_iret S hr hlocks hK hm d_Mo_node_123 ?_
                      obtain ⟨k1, k2, k3, k4⟩ := q67
                      unfold sp_node
                      rw [if_neg (by omega), if_neg (by omega), if_neg (by omega)]
                      have hw : nodeW σ op a b = sOp (sP σ) op (sN σ a.toNat).2 (sN σ b.toNat).2 := by unfold nodeW; rw [if_neg (by omega), if_neg (by omega)]
                      rw [hw]
                      exact ⟨by rw [k1]; omega, hI5.add (by omega) hnd k2 k3 (kp_nv hres.1 hnd k4), by rw [k2, eV1]; rfl⟩
                  · refine lv_aload_n hx hb d_Mo_node_86 rfl (lv_at hl 0 rfl) ?_
                    refine lv_aload_n hx hb d_Mo_node_87 rfl (lv_at hl 0 rfl) ?_
                    refine mo_get 11 S hK hm (by decide) k477 rfl rfl d_Mo_node_88 ?_
                    refine lv_iload_n hx hb d_Mo_node_91 rfl (lv_at hl 3 rfl) ?_
                    refine mo_iald 10 S hK hm (by decide) (by simp only [moLen]; omega) d_Mo_node_92 ?_
                    refine mo_ci (n := 1) (As := [.int (iN ((M 10 b)))]) (rest := []) S hK hZo hZ hA hm (fun μ sz hM => t_Mo_kept l D cs Z hZo ad μ V1 M sz (M 10 b) 0 hM (by omega) (fun h => absurd h c58) vB_0 (by omega) hzz) (gV k563 k565 ks23 k6 k566) (by decide) (by decide +kernel) rfl hl.1 rfl (Nat.le_of_ble_eq_true rfl) ⟨Nat.le_of_ble_eq_true rfl, Nat.le_of_ble_eq_true rfl⟩ d_Mo_node_93 (fun x72 V73 M74 H locs q71 hm => ?_)
                    refine mo_iret S hr hlocks hK hm d_Mo_node_96 ?_
                    obtain ⟨k1, k2, k3, k4⟩ := q71
                    unfold sp_node
                    rw [if_neg (by omega), if_neg (by omega), if_neg (by omega)]
                    have hw : nodeW σ op a b = ((sN σ b.toNat).1, 0) := by unfold nodeW; rw [if_neg (by omega), if_pos (by omega)]
                    rw [hw]
                    exact ⟨by rw [k1]; omega, hI.add (by omega) ⟨bb1, bb2, vB_0, fun _ => rfl⟩ k2 k3 (kp_nv eb ⟨bb1, bb2, vB_0, fun _ => rfl⟩ k4), by rw [k2, eV1]; rfl⟩
              · refine lv_aload_n hx hb d_Mo_node_61 rfl (lv_at hl 0 rfl) ?_
                refine lv_aload_n hx hb d_Mo_node_62 rfl (lv_at hl 0 rfl) ?_
                refine mo_get 11 S hK hm (by decide) k477 rfl rfl d_Mo_node_63 ?_
                refine lv_iload_n hx hb d_Mo_node_66 rfl (lv_at hl 2 rfl) ?_
                refine mo_iald 10 S hK hm (by decide) (by simp only [moLen]; omega) d_Mo_node_67 ?_
                refine mo_ci (n := 1) (As := [.int (iN ((M 10 a)))]) (rest := []) S hK hZo hZ hA hm (fun μ sz hM => t_Mo_kept l D cs Z hZo ad μ V1 M sz (M 10 a) 0 hM (by omega) (fun h => absurd h c46) vB_0 (by omega) hzz) (gV k563 k565 ks23 k6 k566) (by decide) (by decide +kernel) rfl hl.1 rfl (Nat.le_of_ble_eq_true rfl) ⟨Nat.le_of_ble_eq_true rfl, Nat.le_of_ble_eq_true rfl⟩ d_Mo_node_68 (fun x76 V77 M78 H locs q75 hm => ?_)
                refine mo_iret S hr hlocks hK hm d_Mo_node_71 ?_
                obtain ⟨k1, k2, k3, k4⟩ := q75
                unfold sp_node
                rw [if_neg (by omega), if_neg (by omega), if_neg (by omega)]
                have hw : nodeW σ op a b = ((sN σ a.toNat).1, 0) := by unfold nodeW; rw [if_pos (by omega)]
                rw [hw]
                exact ⟨by rw [k1]; omega, hI.add (by omega) ⟨ba1, ba2, vB_0, fun _ => rfl⟩ k2 k3 (kp_nv ea ⟨ba1, ba2, vB_0, fun _ => rfl⟩ k4), by rw [k2, eV1]; rfl⟩
            · refine fm_iconst S d_Mo_node_50 ?_
              refine mo_iret S hr hlocks hK hm d_Mo_node_51 ?_
              unfold sp_node
              rw [if_neg (by omega), if_neg (by omega), if_pos (by omega)]
              exact ⟨rfl, hI, by rw [eV1]; rfl⟩
          · refine fm_bipush S d_Mo_node_38 (by decide) ?_
            refine mo_iret S hr hlocks hK hm d_Mo_node_40 ?_
            unfold sp_node
            rw [if_neg (by omega), if_pos (by omega)]
            exact ⟨rfl, hI, by rw [eV1]; rfl⟩
    · refine fm_bipush S d_Mo_node_14 (by decide) ?_
      refine mo_iret S hr hlocks hK hm d_Mo_node_16 ?_
      unfold sp_node
      rw [if_pos (by omega)]
      exact ⟨rfl, hI, by rw [eV1]; rfl⟩

set_option maxHeartbeats 4000000 in
set_option maxRecDepth 100000 in
/-- raises(n) -/
theorem t_Mo_raises (l : Launch) (D : va_G) (cs : Nat → ClassId) (Z : (Nat → Prop) → State → Heap → Prop) (hZo : fm_Zok Z) (ad : Nat → Nat) (μ : fm_Mu) (V : Nat → Int) (M : Nat → Int → Int) (sz : Nat) (n : Int) (σ : Sg) (hM : moS cs μ ad V M) (hin : inI n) (hI : moInv V M σ) : Met l y_Mo_raises (Cond.code y_Mo_raises c_Mo_raises 2 (some .int) :: wA) ({ frames := 1, cells := 0, slots := 0, locals := 21 }) (fm_Pc D clsA (tysA cs) Z μ sz [.ref (ad 0), .int (iN (n))]) (moQi D cs ad μ sz (fun z V' M' => z = sp_raises σ n ∧ moInv V' M' σ ∧ V' 0 = 0)) 0 0 (fm_A μ sz) := by
  refine mo_of hM (by decide +kernel) (Nat.le_of_ble_eq_true rfl) (fun p e s m below meth c S hr hlocks hsz hm hK hZ hA ls hl => ?_)
  subst hsz
  obtain ⟨hx, hb, hml, hown, hts⟩ := id S
  have hl : lv_has ls 2 [(0, .ref (ad 0)), (1, .int (iN (n)))] := hl
  refine lv_aload_n hx hb d_Mo_raises_0 rfl (lv_at hl 0 rfl) ?_
  refine fm_iconst S d_Mo_raises_1 ?_
  refine mo_puti 0 S hK hm (by decide) k466 d_Mo_raises_2 (fun V1 H locs eV1 hm => ?_)
  have hI := hI.v0 eV1
  have hI1 := hI.p
  have hI2 := hI.c
  have hI3 := hI.r
  refine lv_aload_n hx hb d_Mo_raises_5 rfl (lv_at hl 0 rfl) ?_
  refine lv_iload_n hx hb d_Mo_raises_6 rfl (lv_at hl 1 rfl) ?_
  refine mo_pi (n := 1) (As := [.int (iN (n))]) (rest := []) S hK hZo hZ hA hm (fun μ sz hM => t_Mo_isNode l D cs Z hZo ad μ V1 M sz n hM (by omega) (by omega)) (gV k571 k573 ks24 k6 k574) (by decide) (by decide +kernel) rfl hl.1 rfl (Nat.le_of_ble_eq_true rfl) ⟨Nat.le_of_ble_eq_true rfl, Nat.le_of_ble_eq_true rfl⟩ d_Mo_raises_7 (fun x3 q2 => ?_)
  refine fm_if_eq (tgt := 22) S (by omega) d_Mo_raises_10 (by decide) (fun c4 => ?_) (fun c4 => ?_)
  · refine fm_bipush S d_Mo_raises_22 (by decide) ?_
    refine mo_iret S hr hlocks hK hm d_Mo_raises_24 ?_
    unfold sp_raises
    first | (rw [if_pos (by omega)]; exact ⟨ea, hI, by rw [eV1]; rfl⟩) | (rw [if_neg (by omega)]; exact ⟨rfl, hI, by rw [eV1]; rfl⟩)
  · have hwa := hI.nv (n := n) (by omega) (by omega)
    have ea := hwa.1.1
    refine lv_aload_n hx hb d_Mo_raises_13 rfl (lv_at hl 0 rfl) ?_
    refine mo_get 11 S hK hm (by decide) k477 rfl rfl d_Mo_raises_14 ?_
    refine lv_iload_n hx hb d_Mo_raises_17 rfl (lv_at hl 1 rfl) ?_
    refine mo_iald 10 S hK hm (by decide) (by simp only [moLen]; omega) d_Mo_raises_18 ?_
    refine lv_goto (tgt := 24) hx hb d_Mo_raises_19 (by decide) ?_
    refine mo_iret S hr hlocks hK hm d_Mo_raises_24 ?_
    unfold sp_raises
    first | (rw [if_pos (by omega)]; exact ⟨ea, hI, by rw [eV1]; rfl⟩) | (rw [if_neg (by omega)]; exact ⟨rfl, hI, by rw [eV1]; rfl⟩)

set_option maxHeartbeats 4000000 in
set_option maxRecDepth 100000 in
/-- receiver(d, sc, ro) -/
theorem t_Mo_receiver (l : Launch) (D : va_G) (cs : Nat → ClassId) (Z : (Nat → Prop) → State → Heap → Prop) (hZo : fm_Zok Z) (ad : Nat → Nat) (μ : fm_Mu) (V : Nat → Int) (M : Nat → Int → Int) (sz : Nat) (d : Int) (sc : Int) (ro : Int) (σ : Sg) (hM : moS cs μ ad V M) (hid : inI d) (his : inI sc) (hir : inI ro) (hI : moInv V M σ) : Met l y_Mo_receiver (Cond.code y_Mo_receiver c_Mo_receiver 4 (some .int) :: wA) ({ frames := 0, cells := 0, slots := 0, locals := 0 }) (fm_Pc D clsA (tysA cs) Z μ sz [.ref (ad 0), .int (iN (d)), .int (iN (sc)), .int (iN (ro))]) (moQi D cs ad μ sz (fun z V' M' => z = (sp_receiver σ d sc ro).1 ∧ moInv V' M' (sp_receiver σ d sc ro).2 ∧ V' 0 = 0)) 0 0 (fm_A μ sz) := by
  refine mo_of hM (by decide +kernel) (Nat.le_of_ble_eq_true rfl) (fun p e s m below meth c S hr hlocks hsz hm hK hZ hA ls hl => ?_)
  subst hsz
  obtain ⟨hx, hb, hml, hown, hts⟩ := id S
  have hl : lv_has ls 4 [(0, .ref (ad 0)), (1, .int (iN (d))), (2, .int (iN (sc))), (3, .int (iN (ro)))] := hl
  refine lv_aload_n hx hb d_Mo_receiver_0 rfl (lv_at hl 0 rfl) ?_
  refine fm_iconst S d_Mo_receiver_1 ?_
  refine mo_puti 0 S hK hm (by decide) k466 d_Mo_receiver_2 (fun V1 H locs eV1 hm => ?_)
  have hI := hI.v0 eV1
  have hI1 := hI.p
  have hI2 := hI.c
  have hI3 := hI.r
  refine lv_iload_n hx hb d_Mo_receiver_5 rfl (lv_at hl 1 rfl) ?_
  refine fm_iconst S d_Mo_receiver_6 ?_
  refine fm_icmp_lt (tgt := 35) S (by omega) (by omega) d_Mo_receiver_7 (by decide) (fun c2 => ?_) (fun c2 => ?_)
  · refine fm_bipush S d_Mo_receiver_35 (by decide) ?_
    refine mo_iret S hr hlocks hK hm d_Mo_receiver_37 ?_
    unfold sp_receiver
    rw [if_pos (by omega)]
    exact ⟨rfl, hI, by rw [eV1]; rfl⟩
  · refine lv_iload_n hx hb d_Mo_receiver_10 rfl (lv_at hl 1 rfl) ?_
    refine fm_bipush S d_Mo_receiver_11 (by decide) ?_
    refine fm_icmp_gt (tgt := 35) S (by omega) (by omega) d_Mo_receiver_13 (by decide) (fun c3 => ?_) (fun c3 => ?_)
    · refine fm_bipush S d_Mo_receiver_35 (by decide) ?_
      refine mo_iret S hr hlocks hK hm d_Mo_receiver_37 ?_
      unfold sp_receiver
      rw [if_pos (by omega)]
      exact ⟨rfl, hI, by rw [eV1]; rfl⟩
    · refine lv_iload_n hx hb d_Mo_receiver_16 rfl (lv_at hl 2 rfl) ?_
      refine fm_if_lt (tgt := 35) S (by omega) d_Mo_receiver_17 (by decide) (fun c4 => ?_) (fun c4 => ?_)
      · refine fm_bipush S d_Mo_receiver_35 (by decide) ?_
        refine mo_iret S hr hlocks hK hm d_Mo_receiver_37 ?_
        unfold sp_receiver
        rw [if_pos (by omega)]
        exact ⟨rfl, hI, by rw [eV1]; rfl⟩
      · refine lv_iload_n hx hb d_Mo_receiver_20 rfl (lv_at hl 2 rfl) ?_
        refine lv_iload_n hx hb d_Mo_receiver_21 rfl (lv_at hl 1 rfl) ?_
        refine fm_icmp_gt (tgt := 35) S (by omega) (by omega) d_Mo_receiver_22 (by decide) (fun c5 => ?_) (fun c5 => ?_)
        · refine fm_bipush S d_Mo_receiver_35 (by decide) ?_
          refine mo_iret S hr hlocks hK hm d_Mo_receiver_37 ?_
          unfold sp_receiver
          rw [if_pos (by omega)]
          exact ⟨rfl, hI, by rw [eV1]; rfl⟩
        · refine lv_iload_n hx hb d_Mo_receiver_25 rfl (lv_at hl 3 rfl) ?_
          refine fm_if_lt (tgt := 35) S (by omega) d_Mo_receiver_26 (by decide) (fun c6 => ?_) (fun c6 => ?_)
          · refine fm_bipush S d_Mo_receiver_35 (by decide) ?_
            refine mo_iret S hr hlocks hK hm d_Mo_receiver_37 ?_
            unfold sp_receiver
            rw [if_pos (by omega)]
            exact ⟨rfl, hI, by rw [eV1]; rfl⟩
          · refine lv_iload_n hx hb d_Mo_receiver_29 rfl (lv_at hl 3 rfl) ?_
            refine fm_bipush S d_Mo_receiver_30 (by decide) ?_
            refine fm_icmp_le (tgt := 38) S (by omega) (by omega) d_Mo_receiver_32 (by decide) (fun c7 => ?_) (fun c7 => ?_)
            · refine lv_aload_n hx hb d_Mo_receiver_38 rfl (lv_at hl 0 rfl) ?_
              refine mo_get 13 S hK hm (by decide) k479 rfl rfl d_Mo_receiver_39 ?_
              refine fm_bipush S d_Mo_receiver_42 (by decide) ?_
              refine fm_icmp_ne (tgt := 49) S (by omega) (by omega) d_Mo_receiver_44 (by decide) (fun c8 => ?_) (fun c8 => ?_)
              · refine lv_aload_n hx hb d_Mo_receiver_49 rfl (lv_at hl 0 rfl) ?_
                refine lv_dup hx hb d_Mo_receiver_50 rfl ?_
                refine mo_get 13 S hK hm (by decide) k479 rfl rfl d_Mo_receiver_51 ?_
                refine fm_iconst S d_Mo_receiver_54 ?_
                refine fm_iadd S d_Mo_receiver_55 ?_
                refine mo_puti 13 S hK hm (by decide) k479 d_Mo_receiver_56 (fun V9 H locs eV9 hm => ?_)
                have hV13 : V9 13 = V1 13 + 1 := by rw [eV9]; rfl
                refine lv_aload_n hx hb d_Mo_receiver_59 rfl (lv_at hl 0 rfl) ?_
                refine mo_get 15 S hK hm (by decide) k481 rfl rfl d_Mo_receiver_60 ?_
                refine lv_aload_n hx hb d_Mo_receiver_63 rfl (lv_at hl 0 rfl) ?_
                refine mo_get 13 S hK hm (by decide) k479 rfl rfl d_Mo_receiver_64 ?_
                refine lv_iload_n hx hb d_Mo_receiver_67 rfl (lv_at hl 1 rfl) ?_
                refine mo_iast 11 S hK hm (by decide) (by simp only [moLen]; omega) d_Mo_receiver_68 (fun M10 H locs eM10 hm => ?_)
                rw [hV13] at eM10
                refine lv_aload_n hx hb d_Mo_receiver_69 rfl (lv_at hl 0 rfl) ?_
                refine mo_get 16 S hK hm (by decide) k482 rfl rfl d_Mo_receiver_70 ?_
                refine lv_aload_n hx hb d_Mo_receiver_73 rfl (lv_at hl 0 rfl) ?_
                refine mo_get 13 S hK hm (by decide) k479 rfl rfl d_Mo_receiver_74 ?_
                refine lv_iload_n hx hb d_Mo_receiver_77 rfl (lv_at hl 2 rfl) ?_
                refine mo_iast 12 S hK hm (by decide) (by simp only [moLen]; omega) d_Mo_receiver_78 (fun M11 H locs eM11 hm => ?_)
                rw [hV13] at eM11
                refine lv_aload_n hx hb d_Mo_receiver_79 rfl (lv_at hl 0 rfl) ?_
                refine mo_get 17 S hK hm (by decide) k483 rfl rfl d_Mo_receiver_80 ?_
                refine lv_aload_n hx hb d_Mo_receiver_83 rfl (lv_at hl 0 rfl) ?_
                refine mo_get 13 S hK hm (by decide) k479 rfl rfl d_Mo_receiver_84 ?_
                refine lv_iload_n hx hb d_Mo_receiver_87 rfl (lv_at hl 3 rfl) ?_
                refine mo_iast 13 S hK hm (by decide) (by simp only [moLen]; omega) d_Mo_receiver_88 (fun M12 H locs eM12 hm => ?_)
                rw [hV13] at eM12
                refine lv_aload_n hx hb d_Mo_receiver_89 rfl (lv_at hl 0 rfl) ?_
                refine mo_get 13 S hK hm (by decide) k479 rfl rfl d_Mo_receiver_90 ?_
                refine mo_iret S hr hlocks hK hm d_Mo_receiver_93 ?_
                unfold sp_receiver
                rw [if_neg (by omega), if_neg (by omega)]
                exact ⟨by rw [hV13]; omega, hI.addR (by omega) (by omega) eV9 eM10 eM11 eM12, by rw [eV9, eV1]; rfl⟩
              · refine fm_iconst S d_Mo_receiver_47 ?_
                refine mo_iret S hr hlocks hK hm d_Mo_receiver_48 ?_
                unfold sp_receiver
                rw [if_neg (by omega), if_pos (by omega)]
                exact ⟨rfl, hI, by rw [eV1]; rfl⟩
            · refine fm_bipush S d_Mo_receiver_35 (by decide) ?_
              refine mo_iret S hr hlocks hK hm d_Mo_receiver_37 ?_
              unfold sp_receiver
              rw [if_pos (by omega)]
              exact ⟨rfl, hI, by rw [eV1]; rfl⟩

set_option maxHeartbeats 4000000 in
set_option maxRecDepth 100000 in
/-- stored(r) -/
theorem t_Mo_stored (l : Launch) (D : va_G) (cs : Nat → ClassId) (Z : (Nat → Prop) → State → Heap → Prop) (hZo : fm_Zok Z) (ad : Nat → Nat) (μ : fm_Mu) (V : Nat → Int) (M : Nat → Int → Int) (sz : Nat) (r : Int) (σ : Sg) (hM : moS cs μ ad V M) (hir : inI r) (hI : moInv V M σ) : Met l y_Mo_stored (Cond.code y_Mo_stored c_Mo_stored 2 (some .long) :: wA) ({ frames := 1, cells := 0, slots := 0, locals := 21 }) (fm_Pc D clsA (tysA cs) Z μ sz [.ref (ad 0), .int (iN (r))]) (moQl D cs ad μ sz (fun z V' M' => z = sp_stored σ r ∧ moInv V' M' σ ∧ V' 0 = 0)) 0 0 (fm_A μ sz) := by
  refine mo_of hM (by decide +kernel) (Nat.le_of_ble_eq_true rfl) (fun p e s m below meth c S hr hlocks hsz hm hK hZ hA ls hl => ?_)
  subst hsz
  obtain ⟨hx, hb, hml, hown, hts⟩ := id S
  have hl : lv_has ls 2 [(0, .ref (ad 0)), (1, .int (iN (r)))] := hl
  refine lv_aload_n hx hb d_Mo_stored_0 rfl (lv_at hl 0 rfl) ?_
  refine fm_iconst S d_Mo_stored_1 ?_
  refine mo_puti 0 S hK hm (by decide) k466 d_Mo_stored_2 (fun V1 H locs eV1 hm => ?_)
  have hI := hI.v0 eV1
  have hI1 := hI.p
  have hI2 := hI.c
  have hI3 := hI.r
  refine lv_aload_n hx hb d_Mo_stored_5 rfl (lv_at hl 0 rfl) ?_
  refine lv_iload_n hx hb d_Mo_stored_6 rfl (lv_at hl 1 rfl) ?_
  refine mo_pi (n := 1) (As := [.int (iN (r))]) (rest := []) S hK hZo hZ hA hm (fun μ sz hM => t_Mo_isReceiver l D cs Z hZo ad μ V1 M sz r hM (by omega) (by omega)) (gV k644 k646 ks38 k6 k647) (by decide) (by decide +kernel) rfl hl.1 rfl (Nat.le_of_ble_eq_true rfl) ⟨Nat.le_of_ble_eq_true rfl, Nat.le_of_ble_eq_true rfl⟩ d_Mo_stored_7 (fun x3 q2 => ?_)
  refine fm_if_eq (tgt := 22) S (by omega) d_Mo_stored_10 (by decide) (fun c4 => ?_) (fun c4 => ?_)
  · refine fm_lconst0 S d_Mo_stored_22 ?_
    refine mo_lret S hr hlocks hK hm d_Mo_stored_23 ?_
    unfold sp_stored
    first | (rw [if_pos (by omega)]; exact ⟨hwr, hI, by rw [eV1]; rfl⟩) | (rw [if_neg (by omega)]; exact ⟨rfl, hI, by rw [eV1]; rfl⟩)
  · have hwx := hI.rv (r := r) (by omega) (by omega)
    have hwr := hwx.1.2.2.2.1
    refine lv_aload_n hx hb d_Mo_stored_13 rfl (lv_at hl 0 rfl) ?_
    refine mo_get 18 S hK hm (by decide) k484 rfl rfl d_Mo_stored_14 ?_
    refine lv_iload_n hx hb d_Mo_stored_17 rfl (lv_at hl 1 rfl) ?_
    refine mo_lald 14 S hK hm (by decide) (by simp only [moLen]; omega) d_Mo_stored_18 ?_
    refine lv_goto (tgt := 23) hx hb d_Mo_stored_19 (by decide) ?_
    refine mo_lret S hr hlocks hK hm d_Mo_stored_23 ?_
    unfold sp_stored
    first | (rw [if_pos (by omega)]; exact ⟨hwr, hI, by rw [eV1]; rfl⟩) | (rw [if_neg (by omega)]; exact ⟨rfl, hI, by rw [eV1]; rfl⟩)

set_option maxHeartbeats 4000000 in
set_option maxRecDepth 100000 in
/-- rest(r) -/
theorem t_Mo_rest (l : Launch) (D : va_G) (cs : Nat → ClassId) (Z : (Nat → Prop) → State → Heap → Prop) (hZo : fm_Zok Z) (ad : Nat → Nat) (μ : fm_Mu) (V : Nat → Int) (M : Nat → Int → Int) (sz : Nat) (r : Int) (σ : Sg) (hM : moS cs μ ad V M) (hir : inI r) (hI : moInv V M σ) : Met l y_Mo_rest (Cond.code y_Mo_rest c_Mo_rest 2 (some .long) :: wA) ({ frames := 1, cells := 0, slots := 0, locals := 21 }) (fm_Pc D clsA (tysA cs) Z μ sz [.ref (ad 0), .int (iN (r))]) (moQl D cs ad μ sz (fun z V' M' => z = sp_rest σ r ∧ moInv V' M' σ ∧ V' 0 = 0)) 0 0 (fm_A μ sz) := by
  refine mo_of hM (by decide +kernel) (Nat.le_of_ble_eq_true rfl) (fun p e s m below meth c S hr hlocks hsz hm hK hZ hA ls hl => ?_)
  subst hsz
  obtain ⟨hx, hb, hml, hown, hts⟩ := id S
  have hl : lv_has ls 2 [(0, .ref (ad 0)), (1, .int (iN (r)))] := hl
  refine lv_aload_n hx hb d_Mo_rest_0 rfl (lv_at hl 0 rfl) ?_
  refine fm_iconst S d_Mo_rest_1 ?_
  refine mo_puti 0 S hK hm (by decide) k466 d_Mo_rest_2 (fun V1 H locs eV1 hm => ?_)
  have hI := hI.v0 eV1
  have hI1 := hI.p
  have hI2 := hI.c
  have hI3 := hI.r
  refine lv_aload_n hx hb d_Mo_rest_5 rfl (lv_at hl 0 rfl) ?_
  refine lv_iload_n hx hb d_Mo_rest_6 rfl (lv_at hl 1 rfl) ?_
  refine mo_pi (n := 1) (As := [.int (iN (r))]) (rest := []) S hK hZo hZ hA hm (fun μ sz hM => t_Mo_isReceiver l D cs Z hZo ad μ V1 M sz r hM (by omega) (by omega)) (gV k644 k646 ks38 k6 k647) (by decide) (by decide +kernel) rfl hl.1 rfl (Nat.le_of_ble_eq_true rfl) ⟨Nat.le_of_ble_eq_true rfl, Nat.le_of_ble_eq_true rfl⟩ d_Mo_rest_7 (fun x3 q2 => ?_)
  refine fm_if_eq (tgt := 22) S (by omega) d_Mo_rest_10 (by decide) (fun c4 => ?_) (fun c4 => ?_)
  · refine fm_lconst0 S d_Mo_rest_22 ?_
    refine mo_lret S hr hlocks hK hm d_Mo_rest_23 ?_
    unfold sp_rest
    first | (rw [if_pos (by omega)]; exact ⟨hwr, hI, by rw [eV1]; rfl⟩) | (rw [if_neg (by omega)]; exact ⟨rfl, hI, by rw [eV1]; rfl⟩)
  · have hwx := hI.rv (r := r) (by omega) (by omega)
    have hwr := hwx.1.2.2.2.2.1
    refine lv_aload_n hx hb d_Mo_rest_13 rfl (lv_at hl 0 rfl) ?_
    refine mo_get 19 S hK hm (by decide) k485 rfl rfl d_Mo_rest_14 ?_
    refine lv_iload_n hx hb d_Mo_rest_17 rfl (lv_at hl 1 rfl) ?_
    refine mo_lald 15 S hK hm (by decide) (by simp only [moLen]; omega) d_Mo_rest_18 ?_
    refine lv_goto (tgt := 23) hx hb d_Mo_rest_19 (by decide) ?_
    refine mo_lret S hr hlocks hK hm d_Mo_rest_23 ?_
    unfold sp_rest
    first | (rw [if_pos (by omega)]; exact ⟨hwr, hI, by rw [eV1]; rfl⟩) | (rw [if_neg (by omega)]; exact ⟨rfl, hI, by rw [eV1]; rfl⟩)

set_option maxHeartbeats 4000000 in
set_option maxRecDepth 100000 in
/-- raised() -/
theorem t_Mo_raised (l : Launch) (D : va_G) (cs : Nat → ClassId) (Z : (Nat → Prop) → State → Heap → Prop) (hZo : fm_Zok Z) (ad : Nat → Nat) (μ : fm_Mu) (V : Nat → Int) (M : Nat → Int → Int) (sz : Nat) (σ : Sg) (hM : moS cs μ ad V M) (hI : moInv V M σ) : Met l y_Mo_raised (Cond.code y_Mo_raised c_Mo_raised 1 (some .int) :: wA) ({ frames := 0, cells := 0, slots := 0, locals := 0 }) (fm_Pc D clsA (tysA cs) Z μ sz [.ref (ad 0)]) (moQi D cs ad μ sz (fun z V' M' => z = sL σ ∧ moInv V' M' σ ∧ V' 0 = 0)) 0 0 (fm_A μ sz) := by
  refine mo_of hM (by decide +kernel) (Nat.le_of_ble_eq_true rfl) (fun p e s m below meth c S hr hlocks hsz hm hK hZ hA ls hl => ?_)
  subst hsz
  obtain ⟨hx, hb, hml, hown, hts⟩ := id S
  have hl : lv_has ls 1 [(0, .ref (ad 0))] := hl
  refine lv_aload_n hx hb d_Mo_raised_0 rfl (lv_at hl 0 rfl) ?_
  refine fm_iconst S d_Mo_raised_1 ?_
  refine mo_puti 0 S hK hm (by decide) k466 d_Mo_raised_2 (fun V1 H locs eV1 hm => ?_)
  have hI := hI.v0 eV1
  have hI1 := hI.p
  have hI2 := hI.c
  have hI3 := hI.r
  refine lv_aload_n hx hb d_Mo_raised_5 rfl (lv_at hl 0 rfl) ?_
  refine mo_get 14 S hK hm (by decide) k480 rfl rfl d_Mo_raised_6 ?_
  refine mo_iret S hr hlocks hK hm d_Mo_raised_9 ?_
  exact ⟨hI.2.1.2.2.2, hI, by rw [eV1]; rfl⟩
