set_option maxHeartbeats 4000000 in
set_option maxRecDepth 100000 in
/-- zero(r) -/
theorem t_Mo_zero (l : Launch) (D : va_G) (cs : Nat → ClassId) (Z : (Nat → Prop) → State → Heap → Prop) (hZo : fm_Zok Z) (ad : Nat → Nat) (μ : fm_Mu) (V : Nat → Int) (M : Nat → Int → Int) (sz : Nat) (r : Int) (hM : moS cs μ ad V M) (hr0 : 0 ≤ r ∧ r < 7) : Met l y_Mo_zero (Cond.code y_Mo_zero c_Mo_zero 2 none :: wA) ({ frames := 0, cells := 0, slots := 0, locals := 0 }) (fm_Pc D clsA (tysA cs) Z μ sz [.ref (ad 0), .int (iN (r))]) (moQv D cs ad μ sz (fun V' M' => V' = V ∧ Fr M M' r ∧ Rg M' r 0 0 0 0)) 0 0 (fm_A μ sz) := by
  refine mo_of hM (by decide +kernel) (Nat.le_of_ble_eq_true rfl) (fun p e s m below meth c S hr hlocks hsz hm hK hZ hA ls hl => ?_)
  subst hsz
  obtain ⟨hx, hb, hml, hown, hts⟩ := id S
  have hl : lv_has ls 2 [(0, .ref (ad 0)), (1, .int (iN (r)))] := hl
  refine lv_aload_n hx hb d_Mo_zero_0 rfl (lv_at hl 0 rfl) ?_
  refine mo_get 3 S hK hm (by decide) k469 rfl rfl d_Mo_zero_1 ?_
  refine lv_iload_n hx hb d_Mo_zero_4 rfl (lv_at hl 1 rfl) ?_
  refine fm_iconst S d_Mo_zero_5 ?_
  refine mo_iast 2 S hK hm (by decide) (by simp only [moLen]; omega) d_Mo_zero_6 (fun M1 H locs eM1 hm => ?_)
  refine lv_aload_n hx hb d_Mo_zero_7 rfl (lv_at hl 0 rfl) ?_
  refine mo_get 4 S hK hm (by decide) k470 rfl rfl d_Mo_zero_8 ?_
  refine lv_iload_n hx hb d_Mo_zero_11 rfl (lv_at hl 1 rfl) ?_
  refine fm_iconst S d_Mo_zero_12 ?_
  refine mo_iast 3 S hK hm (by decide) (by simp only [moLen]; omega) d_Mo_zero_13 (fun M2 H locs eM2 hm => ?_)
  refine lv_aload_n hx hb d_Mo_zero_14 rfl (lv_at hl 0 rfl) ?_
  refine mo_get 5 S hK hm (by decide) k471 rfl rfl d_Mo_zero_15 ?_
  refine lv_iload_n hx hb d_Mo_zero_18 rfl (lv_at hl 1 rfl) ?_
  refine fm_iconst S d_Mo_zero_19 ?_
  refine mo_iast 4 S hK hm (by decide) (by simp only [moLen]; omega) d_Mo_zero_20 (fun M3 H locs eM3 hm => ?_)
  refine mo_vret S hr hlocks hK hm d_Mo_zero_21 ?_
  exact ⟨rfl, (Fr.s eM1 (by decide)).tr ((Fr.s eM2 (by decide)).tr (Fr.s eM3 (by decide))), by subst eM3 eM2 eM1; refine ⟨?_, ?_, ?_, fun k h1 h2 => ?_, rfl⟩ <;> first | (exfalso; omega) | (simp [setA, uI])⟩

set_option maxHeartbeats 4000000 in
set_option maxRecDepth 100000 in
/-- Mo_digitAt -/
theorem t_Mo_digitAt (l : Launch) (D : va_G) (cs : Nat → ClassId) (Z : (Nat → Prop) → State → Heap → Prop) (hZo : fm_Zok Z) (ad : Nat → Nat) (μ : fm_Mu) (V : Nat → Int) (M : Nat → Int → Int) (sz : Nat) (r : Int) (P : Int) (n : Nat) (N : Nat) (x : Int) (sg : Int) (hM : moS cs μ ad V M) (hr0 : 0 ≤ r ∧ r < 7) (hg : Rg M r n N x sg) (hb0 : n ≤ 320 ∧ -1000000 ≤ x ∧ x ≤ 1000000 ∧ -1000000 ≤ P ∧ P ≤ 1000000) : Met l y_Mo_digitAt (Cond.code y_Mo_digitAt c_Mo_digitAt 4 (some .int) :: wA) ({ frames := 0, cells := 0, slots := 0, locals := 0 }) (fm_Pc D clsA (tysA cs) Z μ sz [.ref (ad 0), .int (iN (r)), .int (iN (P))]) (fm_Si (fun z => z = dgt N x P)) 0 0 (fun _ => False) := by
  refine mo_of hM (by decide +kernel) (Nat.le_of_ble_eq_true rfl) (fun p e s m below meth c S hr hlocks hsz hm hK hZ hA ls hl => ?_)
  subst hsz
  obtain ⟨hx, hb, hml, hown, hts⟩ := id S
  have hl : lv_has ls 4 [(0, .ref (ad 0)), (1, .int (iN (r))), (2, .int (iN (P)))] := hl
  have h2 := hg.1
  have h3 := hg.2.1
  refine lv_iload_n hx hb d_Mo_digitAt_0 rfl (lv_at hl 2 rfl) ?_
  refine lv_aload_n hx hb d_Mo_digitAt_1 rfl (lv_at hl 0 rfl) ?_
  refine mo_get 4 S hK hm (by decide) k470 rfl rfl d_Mo_digitAt_2 ?_
  refine lv_iload_n hx hb d_Mo_digitAt_5 rfl (lv_at hl 1 rfl) ?_
  refine mo_iald 3 S hK hm (by decide) (by simp only [moLen]; omega) d_Mo_digitAt_6 ?_
  refine fm_isub S d_Mo_digitAt_7 ?_
  refine fm_topi (fun x1 hx1 => ?_)
  refine lv_istore_n (lv' := [(3, .int (iN (x1))), (0, .ref (ad 0)), (1, .int (iN (r))), (2, .int (iN (P)))]) hx hb d_Mo_digitAt_8 rfl hl (by decide) rfl (fun ls hl => ?_)
  refine lv_iload_n hx hb d_Mo_digitAt_9 rfl (lv_at hl 0 rfl) ?_
  refine fm_if_lt (tgt := 38) S (by omega) d_Mo_digitAt_10 (by decide) (fun c2 => ?_) (fun c2 => ?_)
  · refine fm_iconst S d_Mo_digitAt_38 ?_
    refine fm_iretS S hr hlocks d_Mo_digitAt_39 ?_
    have e : x1 = P - x := by omega
    subst e
    first | exact hg.at (by omega) (by omega) | exact (hg.out (by omega)).symm
  · refine lv_iload_n hx hb d_Mo_digitAt_13 rfl (lv_at hl 0 rfl) ?_
    refine lv_aload_n hx hb d_Mo_digitAt_14 rfl (lv_at hl 1 rfl) ?_
    refine mo_get 3 S hK hm (by decide) k469 rfl rfl d_Mo_digitAt_15 ?_
    refine lv_iload_n hx hb d_Mo_digitAt_18 rfl (lv_at hl 2 rfl) ?_
    refine mo_iald 2 S hK hm (by decide) (by simp only [moLen]; omega) d_Mo_digitAt_19 ?_
    refine fm_icmp_ge (tgt := 38) S (by omega) (by omega) d_Mo_digitAt_20 (by decide) (fun c3 => ?_) (fun c3 => ?_)
    · refine fm_iconst S d_Mo_digitAt_38 ?_
      refine fm_iretS S hr hlocks d_Mo_digitAt_39 ?_
      have e : x1 = P - x := by omega
      subst e
      first | exact hg.at (by omega) (by omega) | exact (hg.out (by omega)).symm
    · refine lv_aload_n hx hb d_Mo_digitAt_23 rfl (lv_at hl 1 rfl) ?_
      refine mo_get 2 S hK hm (by decide) k468 rfl rfl d_Mo_digitAt_24 ?_
      refine fm_sipush S d_Mo_digitAt_27 (by decide) ?_
      refine lv_iload_n hx hb d_Mo_digitAt_30 rfl (lv_at hl 2 rfl) ?_
      refine fm_imul S d_Mo_digitAt_31 ?_
      refine lv_iload_n hx hb d_Mo_digitAt_32 rfl (lv_at hl 0 rfl) ?_
      refine fm_iadd S d_Mo_digitAt_33 ?_
      refine mo_iald 1 S hK hm (by decide) (by simp only [moLen]; omega) d_Mo_digitAt_34 ?_
      refine lv_goto (tgt := 39) hx hb d_Mo_digitAt_35 (by decide) ?_
      refine fm_iretS S hr hlocks d_Mo_digitAt_39 ?_
      have e : x1 = P - x := by omega
      subst e
      first | exact hg.at (by omega) (by omega) | exact (hg.out (by omega)).symm
