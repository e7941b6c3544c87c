set_option maxHeartbeats 4000000 in
set_option maxRecDepth 100000 in
/-- isStored(kind, r, bad0, ph) -/
theorem t_Mo_isStored (l : Launch) (D : va_G) (cs : Nat → ClassId) (Z : (Nat → Prop) → State → Heap → Prop) (hZo : fm_Zok Z) (ad : Nat → Nat) (μ : fm_Mu) (V : Nat → Int) (M : Nat → Int → Int) (sz : Nat) (kind : Int) (r : Int) (bad0 : Int) (ph : Int) (most : Nat) (x : Int) (q : Rec6) (hM : moS cs μ ad V M) (hkd : 0 ≤ kind ∧ kind ≤ 4) (hr20 : 1 ≤ r ∧ r ≤ 20) (hbd : 0 ≤ bad0 ∧ bad0 ≤ 2) (hph : ph = 0 ∨ ph = 1) (h22 : 0 ≤ M 2 2 ∧ M 2 2 ≤ 320) (hX : Rv M 3 x) (hvx : vB x) (hq : rcOk q) (hR : Rcv M r q) (hpr : V 1 = (most : Int) ∧ 1 ≤ most ∧ most ≤ 31) : Met l y_Mo_isStored (Cond.code y_Mo_isStored c_Mo_isStored 9 (some .boolean) :: wA) ({ frames := 6, cells := 0, slots := 0, locals := 139 }) (fm_Pc D clsA (tysA cs) Z μ sz [.ref (ad 0), .int (iN (kind)), .int (iN (r)), .int (iN (bad0)), .int (iN (ph))]) (moQi D cs ad μ sz (fun z V' M' => z = z ∧ stPost V M kind r ph q bad0 x most z V' M')) 0 0 (fm_A μ sz) := by
  refine mo_of hM (by decide +kernel) (Nat.le_of_ble_eq_true rfl) (fun p e s m below meth c S hr hlocks hsz hm hK hZ hA ls hl => ?_)
  subst hsz
  obtain ⟨hx, hb, hml, hown, hts⟩ := id S
  have hl : lv_has ls 9 [(0, .ref (ad 0)), (1, .int (iN (kind))), (2, .int (iN (r))), (3, .int (iN (bad0))), (4, .int (iN (ph)))] := hl
  have hq1 := hq.1
  have hq2 := hq.2.1
  have hq3 := hq.2.2.1
  have hq4 := hq.2.2.2.1
  have hq5 := hq.2.2.2.2.1
  have hq6 := hq.2.2.2.2.2.1
  have hm11 := hR.1
  have hm12 := hR.2.1
  have hm13 := hR.2.2.1
  refine lv_aload_n hx hb d_Mo_isStored_0 rfl (lv_at hl 0 rfl) ?_
  refine mo_get 18 S hK hm (by decide) k484 rfl rfl d_Mo_isStored_1 ?_
  refine lv_iload_n hx hb d_Mo_isStored_4 rfl (lv_at hl 2 rfl) ?_
  refine mo_lald 14 S hK hm (by decide) (by simp only [moLen]; omega) d_Mo_isStored_5 ?_
  refine fm_topl (fun x1 hx1 => ?_)
  refine lv_lstore (lv' := [(5, .long (jN (x1))), (0, .ref (ad 0)), (1, .int (iN (kind))), (2, .int (iN (r))), (3, .int (iN (bad0))), (4, .int (iN (ph)))]) hx hb d_Mo_isStored_6 hl (by decide) rfl (fun ls hl => ?_)
  refine lv_iload_n hx hb d_Mo_isStored_8 rfl (lv_at hl 4 rfl) ?_
  refine fm_if_eq (tgt := 16) S (by omega) d_Mo_isStored_9 (by decide) (fun c2 => ?_) (fun c2 => ?_)
  · have hW : stW most kind q bad0 x = giveS most kind x q.2.2.2.1 q.2.1 := by unfold stW; rw [if_neg (fun c => c (by omega))]
    have hgn := giveS_nd (h := q.2.2.2.1) (s := q.2.1) hpr.2 hkd hvx
    refine lv_aload_n hx hb d_Mo_isStored_16 rfl (lv_at hl 1 rfl) ?_
    refine lv_iload_n hx hb d_Mo_isStored_17 rfl (lv_at hl 2 rfl) ?_
    refine lv_iload_n hx hb d_Mo_isStored_18 rfl (lv_at hl 3 rfl) ?_
    refine mo_ciS (n := 2) (As := [.int (iN (kind)), .int (iN (r))]) (rest := []) S hK hZo hZ hA hm (fun μ sz hM => t_Mo_given l D cs Z hZo ad μ V M sz kind r most x q.2.2.2.1 q.2.1 hM (by omega) (by omega) h22 hX hvx ⟨hR.2.2.2.1, hR.2.1⟩ (by omega) (held_in hq).1 hpr) (gV k659 k661 ks40 k6 k662) (by decide) (by decide +kernel) rfl hl.1 rfl (Nat.le_of_ble_eq_true rfl) ⟨Nat.le_of_ble_eq_true rfl, Nat.le_of_ble_eq_true rfl⟩ d_Mo_isStored_19 (fun x5 M4 H locs q3 hm => ?_)
    obtain ⟨hF, hgz, hY, h22c⟩ := q3
    have hg1 := hgn.1
    have hg2 := hgn.2.1
    rw [← hgz] at hg1 hg2
    have hX2 := hF.rv hvx hX
    have hc11 : M4 11 r = q.1 := by rw [hF.1 11 (by decide)]; exact hR.1
    have hc12 : M4 12 r = q.2.1 := by rw [hF.1 12 (by decide)]; exact hR.2.1
    have hc13 : M4 13 r = q.2.2.1 := by rw [hF.1 13 (by decide)]; exact hR.2.2.1
    have hc14 : M4 14 r = q.2.2.2.1 := by rw [hF.1 14 (by decide)]; exact hR.2.2.2.1
    refine lv_istore (lv' := [(7, .int (iN (x5))), (5, .long (jN (x1))), (0, .ref (ad 0)), (1, .int (iN (kind))), (2, .int (iN (r))), (3, .int (iN (bad0))), (4, .int (iN (ph)))]) hx hb d_Mo_isStored_22 hl (by decide) rfl (fun ls hl => ?_)
    refine lv_iload hx hb d_Mo_isStored_24 (lv_at hl 0 rfl) ?_
    refine fm_if_ne (tgt := 53) S (by omega) d_Mo_isStored_26 (by decide) (fun c6 => ?_) (fun c6 => ?_)
    · have hb : x5 = stBad most kind q bad0 x := by unfold stBad; rw [hW, ← hgz, if_pos c6]
      refine S_st (Z := Z) S hr hlocks hK hZo hZ hA V M4 kind r bad0 x5 ph q.1 x1 q.2.1 x (stW most kind q bad0 x).2 most hkd hr20 hph (by omega) h22c hX2 hvx (fun e => absurd e c6) (fun e => absurd e c6) (fun e => absurd e c6) (by rw [hx1]; exact ⟨by rw [hc14, hR.2.2.2.1], hc12, hc11⟩) (by omega) (by omega) (by rw [hx1, hR.2.2.2.1]; exact (held_in hq).1) hpr (fun z V' M' hst => ⟨rfl, ?_⟩) _ _ _ (lv_sub hl [0, 1, 2, 3, 4, 5, 6] rfl) hm
      rw [hx1, hR.2.2.2.1] at hst
      exact st_fin hst hb (fun e => absurd e c6) (fun e => absurd e c6) (fun _ _ _ => rfl) (fun k hk => hF.1 k (by omega)) hR
    · have hY1 := hY c6
      refine lv_aload_n hx hb d_Mo_isStored_29 rfl (lv_at hl 2 rfl) ?_
      refine lv_aload_n hx hb d_Mo_isStored_30 rfl (lv_at hl 2 rfl) ?_
      refine mo_get 16 S hK hm (by decide) k482 rfl rfl d_Mo_isStored_31 ?_
      refine lv_iload_n hx hb d_Mo_isStored_34 rfl (lv_at hl 4 rfl) ?_
      refine mo_iald 12 S hK hm (by decide) (by simp only [moLen]; omega) d_Mo_isStored_35 ?_
      refine lv_aload_n hx hb d_Mo_isStored_36 rfl (lv_at hl 2 rfl) ?_
      refine mo_get 17 S hK hm (by decide) k483 rfl rfl d_Mo_isStored_37 ?_
      refine lv_iload_n hx hb d_Mo_isStored_40 rfl (lv_at hl 4 rfl) ?_
      refine mo_iald 13 S hK hm (by decide) (by simp only [moLen]; omega) d_Mo_isStored_41 ?_
      refine lv_aload_n hx hb d_Mo_isStored_42 rfl (lv_at hl 2 rfl) ?_
      refine mo_get 15 S hK hm (by decide) k481 rfl rfl d_Mo_isStored_43 ?_
      refine lv_iload_n hx hb d_Mo_isStored_46 rfl (lv_at hl 4 rfl) ?_
      refine mo_iald 11 S hK hm (by decide) (by simp only [moLen]; omega) d_Mo_isStored_47 ?_
      refine mo_ci (n := 3) (As := [.int (iN ((M4 12 r))), .int (iN ((M4 13 r))), .int (iN ((M4 11 r)))]) (rest := []) S hK hZo hZ hA hm (fun μ sz hM => t_Mo_round l D cs Z hZo ad μ V M4 sz (M4 12 r) (M4 13 r) (M4 11 r) q.1.toNat (giveS most kind x q.2.2.2.1 q.2.1).2 hM (by omega) (by omega) hY1 hgn.2.2.1 (by omega) (by omega)) (gV k663 k665 ks41 k6 k666) (by decide) (by decide +kernel) rfl hl.1 rfl (Nat.le_of_ble_eq_true rfl) ⟨Nat.le_of_ble_eq_true rfl, Nat.le_of_ble_eq_true rfl⟩ d_Mo_isStored_48 (fun x8 V9 M10 H locs q7 hm => ?_)
      rw [hc12, hc13] at q7
      rcases q7 with ⟨hz, h7, hu, hV1, hM1⟩ | ⟨hz, hn7, hM1, hVk, hl9, hr9⟩
      · refine lv_istore (lv' := [(7, .int (iN (x8))), (5, .long (jN (x1))), (0, .ref (ad 0)), (1, .int (iN (kind))), (2, .int (iN (r))), (3, .int (iN (bad0))), (4, .int (iN (ph)))]) hx hb d_Mo_isStored_51 hl (by decide) rfl (fun ls hl => ?_)
        rw [hM1] at hm
        rw [hV1] at hm
        have hb : x8 = stBad most kind q bad0 x := by unfold stBad; rw [hW, ← hgz, if_neg (fun c => c c6), if_pos ⟨h7, hu⟩]; exact hz
        refine S_st (Z := Z) S hr hlocks hK hZo hZ hA V M4 kind r bad0 x8 ph q.1 x1 q.2.1 x (stW most kind q bad0 x).2 most hkd hr20 hph (by omega) h22c hX2 hvx (fun e => absurd e (by omega)) (fun e => absurd e (by omega)) (fun e => absurd e (by omega)) (by rw [hx1]; exact ⟨by rw [hc14, hR.2.2.2.1], hc12, hc11⟩) (by omega) (by omega) (by rw [hx1, hR.2.2.2.1]; exact (held_in hq).1) hpr (fun z V' M' hst => ⟨rfl, ?_⟩) _ _ _ (lv_sub hl [0, 1, 2, 3, 4, 5, 6] rfl) hm
        rw [hx1, hR.2.2.2.1] at hst
        exact st_fin hst hb (fun e => absurd e (by omega)) (fun e => absurd e (by omega)) (fun _ _ _ => rfl) (fun k hk => hF.1 k (by omega)) hR
      · refine lv_istore (lv' := [(7, .int (iN (x8))), (5, .long (jN (x1))), (0, .ref (ad 0)), (1, .int (iN (kind))), (2, .int (iN (r))), (3, .int (iN (bad0))), (4, .int (iN (ph)))]) hx hb d_Mo_isStored_51 hl (by decide) rfl (fun ls hl => ?_)
        rw [hM1] at hm
        have hb : x8 = stBad most kind q bad0 x := by unfold stBad; rw [hW, ← hgz, if_neg (fun c => c c6), if_neg hn7]; exact hz
        have hr10 : V9 21 = sgv (giveS most kind x q.2.2.2.1 q.2.1).2 (rW q.2.2.1 (giveS most kind x q.2.2.2.1 q.2.1).2 q.2.1 % 10 ^ 18) := hr9
        refine S_st (Z := Z) S hr hlocks hK hZo hZ hA V9 M4 kind r bad0 x8 ph q.1 x1 q.2.1 x (stW most kind q bad0 x).2 most hkd hr20 hph (by omega) h22c hX2 hvx (fun _ => by rw [hW]; exact ⟨hY1, hgn.2.2.1⟩) (fun _ => by rw [hl9]; split <;> simp) (fun _ => by rw [hr10]; exact (sgv_in _ _).1) (by rw [hx1]; exact ⟨by rw [hc14, hR.2.2.2.1], hc12, hc11⟩) (by omega) (by omega) (by rw [hx1, hR.2.2.2.1]; exact (held_in hq).1) (by rw [hVk 1 (by decide) (by decide)]; exact hpr) (fun z V' M' hst => ⟨rfl, ?_⟩) _ _ _ (lv_sub hl [0, 1, 2, 3, 4, 5, 6] rfl) hm
        rw [hx1, hR.2.2.2.1] at hst
        exact st_fin hst hb (fun _ => by rw [hW]; exact hl9) (fun _ => by rw [hW]; exact hr10) (fun k a b => hVk k a b) (fun k hk => hF.1 k (by omega)) hR
  · refine lv_iload_n hx hb d_Mo_isStored_12 rfl (lv_at hl 4 rfl) ?_
    refine lv_goto (tgt := 22) hx hb d_Mo_isStored_13 (by decide) ?_
    refine lv_istore (lv' := [(7, .int (iN (bad0))), (5, .long (jN (x1))), (0, .ref (ad 0)), (1, .int (iN (kind))), (2, .int (iN (r))), (3, .int (iN (bad0))), (4, .int (iN (ph)))]) hx hb d_Mo_isStored_22 hl (by decide) rfl (fun ls hl => ?_)
    refine lv_iload hx hb d_Mo_isStored_24 (lv_at hl 0 rfl) ?_
    refine fm_if_ne (tgt := 53) S (by omega) d_Mo_isStored_26 (by decide) (fun c11 => ?_) (fun c11 => ?_)
    · have hb : bad0 = stBad most kind q bad0 x := by unfold stBad stW; rw [if_pos c11, if_pos c11]
      refine S_st (Z := Z) S hr hlocks hK hZo hZ hA V M kind r bad0 bad0 ph q.1 x1 q.2.1 x (stW most kind q bad0 x).2 most hkd hr20 hph (by omega) h22 hX hvx (fun e => absurd e c11) (fun e => absurd e c11) (fun e => absurd e c11) (by rw [hx1]; exact ⟨rfl, hR.2.1, hR.1⟩) (by omega) (by omega) (by rw [hx1, hR.2.2.2.1]; exact (held_in hq).1) hpr (fun z V' M' hst => ⟨rfl, ?_⟩) _ _ _ (lv_sub hl [0, 1, 2, 3, 4, 5, 6] rfl) hm
      rw [hx1, hR.2.2.2.1] at hst
      exact st_fin hst hb (fun e => absurd e c11) (fun e => absurd e c11) (fun _ _ _ => rfl) (fun _ _ => rfl) hR
    · exfalso; omega
