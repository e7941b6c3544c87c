set_option maxHeartbeats 4000000 in
set_option maxRecDepth 100000 in
/-- goesUp(low, ro) -/
theorem t_Mo_goesUp (l : Launch) (D : va_G) (cs : Nat → ClassId) (Z : (Nat → Prop) → State → Heap → Prop) (hZo : fm_Zok Z) (ad : Nat → Nat) (μ : fm_Mu) (V : Nat → Int) (M : Nat → Int → Int) (sz : Nat) (low : Int) (ro : Int) (v : Int) (sc : Int) (hM : moS cs μ ad V M) (hY : Rv M 4 v) (hvv : vB v) (hsc : 0 ≤ sc ∧ sc ≤ 18) (hlo : low = -sc) (hro : 0 ≤ ro ∧ ro ≤ 7) : Met l y_Mo_goesUp (Cond.code y_Mo_goesUp c_Mo_goesUp 8 (some .boolean) :: wA) ({ frames := 1, cells := 0, slots := 0, locals := 23 }) (fm_Pc D clsA (tysA cs) Z μ sz [.ref (ad 0), .int (iN (low)), .int (iN (ro))]) (fm_Si (fun z => z = rUp ro v sc)) 0 0 (fun _ => False) := by
  refine mo_of hM (by decide +kernel) (Nat.le_of_ble_eq_true rfl) (fun p e s m below meth c S hr hlocks hsz hm hK hZ hA ls hl => ?_)
  subst hsz
  obtain ⟨hx, hb, hml, hown, hts⟩ := id S
  have hl : lv_has ls 8 [(0, .ref (ad 0)), (1, .int (iN (low))), (2, .int (iN (ro)))] := hl
  have e24 := hY.1
  have e34 := hY.2.1
  have hv1 := hvv.1
  have hv2 := hvv.2.1
  have hv3 := hvv.2.2
  have hx0 : nd (cN v) = 0 → uR v sc = 0 := fun h => by rw [ndc_0 h]; exact uR_0
  have hx1 : nd (cN v) ≠ 0 → (low ≤ cX v ↔ uR v sc = 0) := fun h => by
    rw [cX_dvd (fun e => h (by rw [e]; exact nz_0)) (by omega), show (low + 300).toNat = (300 - sc).toNat by omega]
    exact Iff.rfl
  refine mo_join (P := fun y => (y = 1 ∧ uR v sc = 0) ∨ (y = 0 ∧ uR v sc ≠ 0)) (g := fun y => F0 m 24 ls ([.int (iN (y))])) (fun y hy => ?_) (fun key => ?_)
  · refine lv_istore_n (lv' := [(3, .int (iN (y))), (0, .ref (ad 0)), (1, .int (iN (low))), (2, .int (iN (ro)))]) hx hb d_Mo_goesUp_24 rfl hl (by decide) rfl (fun ls hl => ?_)
    refine lv_iload_n hx hb d_Mo_goesUp_25 rfl (lv_at hl 0 rfl) ?_
    refine fm_if_eq (tgt := 31) S (by omega) d_Mo_goesUp_26 (by decide) (fun c1 => ?_) (fun c1 => ?_)
    · refine lv_aload_n hx hb d_Mo_goesUp_31 rfl (lv_at hl 1 rfl) ?_
      refine fm_iconst S d_Mo_goesUp_32 ?_
      refine lv_iload_n hx hb d_Mo_goesUp_33 rfl (lv_at hl 2 rfl) ?_
      refine fm_iconst S d_Mo_goesUp_34 ?_
      refine fm_isub S d_Mo_goesUp_35 ?_
      refine mo_pi (n := 2) (As := [.int (iN (4)), .int (iN ((low - 1)))]) (rest := []) S hK hZo hZ hA hm (fun μ sz hM => t_Mo_digitAt l D cs Z hZo ad μ V M sz 4 (low - 1) (nd (cN v)) (cN v) (cX v) (sgn v) hM (by omega) hY (by omega)) (gV k599 k601 ks31 k6 k602) (by decide) (by decide +kernel) rfl hl.1 rfl (Nat.le_of_ble_eq_true rfl) ⟨Nat.le_of_ble_eq_true rfl, Nat.le_of_ble_eq_true rfl⟩ d_Mo_goesUp_36 (fun x3 q2 => ?_)
      have hv0 : v ≠ 0 := fun e => by rw [e, uR_0] at hy; omega
      obtain ⟨half, hh⟩ : ∃ z : Nat, z = v.natAbs / 10 ^ (299 - sc).toNat % 10 := ⟨_, rfl⟩
      obtain ⟨rest, hrs⟩ : ∃ z : Nat, z = v.natAbs % 10 ^ (299 - sc).toNat := ⟨_, rfl⟩
      have hhv := half_v hsc hh hrs
      rw [dgt_v (by omega), show (low - 1 + 300).toNat = (299 - sc).toNat by omega, ← hh] at q2
      have hh9 := Nat.mod_lt (v.natAbs / 10 ^ (299 - sc).toNat) (show 10 > 0 by decide)
      rw [← hh] at hh9
      have hmo : low - 1 ≤ cX v ↔ rest = 0 := by
        rw [cX_dvd hv0 (by omega), show (low - 1 + 300).toNat = (299 - sc).toNat by omega, hrs]
      refine lv_istore (lv' := [(4, .int (iN (x3))), (3, .int (iN (y))), (0, .ref (ad 0)), (1, .int (iN (low))), (2, .int (iN (ro)))]) hx hb d_Mo_goesUp_39 hl (by decide) rfl (fun ls hl => ?_)
      refine mo_join (P := fun y2 => (y2 = 1 ∧ rest ≠ 0) ∨ (y2 = 0 ∧ rest = 0)) (g := fun y2 => F0 m 58 ls ([.int (iN (y2))])) (fun y2 hy2 => ?_) (fun key => ?_)
      · refine lv_istore (lv' := [(5, .int (iN (y2))), (4, .int (iN (x3))), (3, .int (iN (y))), (0, .ref (ad 0)), (1, .int (iN (low))), (2, .int (iN (ro)))]) hx hb d_Mo_goesUp_58 hl (by decide) rfl (fun ls hl => ?_)
        refine mo_join (P := fun y3 => (y3 = 1 ∧ uU sc < 2 * uR v sc) ∨ (y3 = 0 ∧ ¬ uU sc < 2 * uR v sc)) (g := fun y3 => F0 m 82 ls ([.int (iN (y3))])) (fun y3 hy3 => ?_) (fun key => ?_)
        · refine lv_istore (lv' := [(6, .int (iN (y3))), (5, .int (iN (y2))), (4, .int (iN (x3))), (3, .int (iN (y))), (0, .ref (ad 0)), (1, .int (iN (low))), (2, .int (iN (ro)))]) hx hb d_Mo_goesUp_82 hl (by decide) rfl (fun ls hl => ?_)
          refine mo_join (P := fun y4 => (y4 = 1 ∧ 2 * uR v sc = uU sc) ∨ (y4 = 0 ∧ ¬ 2 * uR v sc = uU sc)) (g := fun y4 => F0 m 100 ls ([.int (iN (y4))])) (fun y4 hy4 => ?_) (fun key => ?_)
          · refine lv_istore (lv' := [(7, .int (iN (y4))), (6, .int (iN (y3))), (5, .int (iN (y2))), (4, .int (iN (x3))), (3, .int (iN (y))), (0, .ref (ad 0)), (1, .int (iN (low))), (2, .int (iN (ro)))]) hx hb d_Mo_goesUp_100 hl (by decide) rfl (fun ls hl => ?_)
            refine lv_iload_n hx hb d_Mo_goesUp_102 rfl (lv_at hl 7 rfl) ?_
            rcases (show ro = 1 ∨ ro = 2 ∨ ro = 3 ∨ ro = 4 ∨ ro = 5 ∨ ro = 6 ∨ (ro < 1 ∨ 6 < ro) by omega) with c4 | c4 | c4 | c4 | c4 | c4 | c4
            · refine lv_tableIn (tgt := 140) hx hb d_Mo_goesUp_103 (by rw [iN_toInt (by omega)]; omega) (by rw [iN_toInt (by omega)]; omega) (by rw [iN_toInt (by omega), c4]; rfl) (by decide) ?_
              refine fm_iconst S d_Mo_goesUp_140 ?_
              refine fm_zretS S hr hlocks (by omega) d_Mo_goesUp_141 ?_
              unfold rUp
              rw [if_neg (by omega), if_pos (by omega)]
            · refine lv_tableIn (tgt := 142) hx hb d_Mo_goesUp_103 (by rw [iN_toInt (by omega)]; omega) (by rw [iN_toInt (by omega)]; omega) (by rw [iN_toInt (by omega), c4]; rfl) (by decide) ?_
              refine lv_iload hx hb d_Mo_goesUp_142 (lv_at hl 1 rfl) ?_
              refine fm_if_ne (tgt := 152) S (by omega) d_Mo_goesUp_144 (by decide) (fun c5 => ?_) (fun c5 => ?_)
              · refine fm_iconst S d_Mo_goesUp_152 ?_
                refine lv_goto (tgt := 157) hx hb d_Mo_goesUp_153 (by decide) ?_
                refine fm_zretS S hr hlocks (by omega) d_Mo_goesUp_157 ?_
                unfold rUp
                rw [if_neg (by omega), if_neg (by omega), if_pos (by omega)]
                first | (rw [if_pos (by omega)]; omega) | (rw [if_neg (by omega)]; omega) | (rw [if_pos (by omega)]) | (rw [if_neg (by omega)])
              · refine lv_iload hx hb d_Mo_goesUp_147 (lv_at hl 0 rfl) ?_
                refine fm_if_eq (tgt := 156) S (by omega) d_Mo_goesUp_149 (by decide) (fun c6 => ?_) (fun c6 => ?_)
                · refine fm_iconst S d_Mo_goesUp_156 ?_
                  refine fm_zretS S hr hlocks (by omega) d_Mo_goesUp_157 ?_
                  unfold rUp
                  rw [if_neg (by omega), if_neg (by omega), if_pos (by omega)]
                  first | (rw [if_pos (by omega)]; omega) | (rw [if_neg (by omega)]; omega) | (rw [if_pos (by omega)]) | (rw [if_neg (by omega)])
                · refine fm_iconst S d_Mo_goesUp_152 ?_
                  refine lv_goto (tgt := 157) hx hb d_Mo_goesUp_153 (by decide) ?_
                  refine fm_zretS S hr hlocks (by omega) d_Mo_goesUp_157 ?_
                  unfold rUp
                  rw [if_neg (by omega), if_neg (by omega), if_pos (by omega)]
                  first | (rw [if_pos (by omega)]; omega) | (rw [if_neg (by omega)]; omega) | (rw [if_pos (by omega)]) | (rw [if_neg (by omega)])
            · refine lv_tableIn (tgt := 158) hx hb d_Mo_goesUp_103 (by rw [iN_toInt (by omega)]; omega) (by rw [iN_toInt (by omega)]; omega) (by rw [iN_toInt (by omega), c4]; rfl) (by decide) ?_
              refine lv_iload hx hb d_Mo_goesUp_158 (lv_at hl 1 rfl) ?_
              refine fm_if_ne (tgt := 180) S (by omega) d_Mo_goesUp_160 (by decide) (fun c7 => ?_) (fun c7 => ?_)
              · refine fm_iconst S d_Mo_goesUp_180 ?_
                refine lv_goto (tgt := 185) hx hb d_Mo_goesUp_181 (by decide) ?_
                refine fm_zretS S hr hlocks (by omega) d_Mo_goesUp_185 ?_
                unfold rUp
                rw [if_neg (by omega), if_neg (by omega), if_neg (by omega), if_pos (by omega)]
                first | (rw [if_pos (by omega)]; omega) | (rw [if_neg (by omega)]; omega) | (rw [if_pos (by omega)]) | (rw [if_neg (by omega)])
              · refine lv_iload hx hb d_Mo_goesUp_163 (lv_at hl 0 rfl) ?_
                refine fm_if_eq (tgt := 184) S (by omega) d_Mo_goesUp_165 (by decide) (fun c8 => ?_) (fun c8 => ?_)
                · refine fm_iconst S d_Mo_goesUp_184 ?_
                  refine fm_zretS S hr hlocks (by omega) d_Mo_goesUp_185 ?_
                  unfold rUp
                  rw [if_neg (by omega), if_neg (by omega), if_neg (by omega), if_pos (by omega)]
                  first | (rw [if_pos (by omega)]; omega) | (rw [if_neg (by omega)]; omega) | (rw [if_pos (by omega)]) | (rw [if_neg (by omega)])
                · refine lv_aload_n hx hb d_Mo_goesUp_168 rfl (lv_at hl 5 rfl) ?_
                  refine fm_iconst S d_Mo_goesUp_169 ?_
                  refine lv_iload_n hx hb d_Mo_goesUp_170 rfl (lv_at hl 6 rfl) ?_
                  refine mo_pi (n := 2) (As := [.int (iN (4)), .int (iN (low))]) (rest := []) S hK hZo hZ hA hm (fun μ sz hM => t_Mo_digitAt l D cs Z hZo ad μ V M sz 4 low (nd (cN v)) (cN v) (cX v) (sgn v) hM (by omega) hY (by omega)) (gV k599 k601 ks31 k6 k602) (by decide) (by decide +kernel) rfl hl.1 rfl (Nat.le_of_ble_eq_true rfl) ⟨Nat.le_of_ble_eq_true rfl, Nat.le_of_ble_eq_true rfl⟩ d_Mo_goesUp_171 (fun x10 q9 => ?_)
                  rw [show low = -sc + ((0 : Nat) : Int) by omega, uW_dig 0 hsc, Nat.pow_zero, Nat.div_one] at q9
                  refine fm_iconst S d_Mo_goesUp_174 ?_
                  refine fm_iremN S (by omega) d_Mo_goesUp_175 ?_
                  refine fm_iconst S d_Mo_goesUp_176 ?_
                  refine fm_icmp_ne (tgt := 184) S (by omega) (by omega) d_Mo_goesUp_177 (by decide) (fun c11 => ?_) (fun c11 => ?_)
                  · refine fm_iconst S d_Mo_goesUp_184 ?_
                    refine fm_zretS S hr hlocks (by omega) d_Mo_goesUp_185 ?_
                    unfold rUp
                    rw [if_neg (by omega), if_neg (by omega), if_neg (by omega), if_pos (by omega)]
                    first | (rw [if_pos (by omega)]; omega) | (rw [if_neg (by omega)]; omega) | (rw [if_pos (by omega)]) | (rw [if_neg (by omega)])
                  · refine fm_iconst S d_Mo_goesUp_180 ?_
                    refine lv_goto (tgt := 185) hx hb d_Mo_goesUp_181 (by decide) ?_
                    refine fm_zretS S hr hlocks (by omega) d_Mo_goesUp_185 ?_
                    unfold rUp
                    rw [if_neg (by omega), if_neg (by omega), if_neg (by omega), if_pos (by omega)]
                    first | (rw [if_pos (by omega)]; omega) | (rw [if_neg (by omega)]; omega) | (rw [if_pos (by omega)]) | (rw [if_neg (by omega)])
            · refine lv_tableIn (tgt := 186) hx hb d_Mo_goesUp_103 (by rw [iN_toInt (by omega)]; omega) (by rw [iN_toInt (by omega)]; omega) (by rw [iN_toInt (by omega), c4]; rfl) (by decide) ?_
              refine lv_iload hx hb d_Mo_goesUp_186 (lv_at hl 1 rfl) ?_
              refine fm_zretS S hr hlocks (by omega) d_Mo_goesUp_188 ?_
              unfold rUp
              rw [if_neg (by omega), if_neg (by omega), if_neg (by omega), if_neg (by omega), if_pos (by omega)]
              split <;> omega
            · refine lv_tableIn (tgt := 189) hx hb d_Mo_goesUp_103 (by rw [iN_toInt (by omega)]; omega) (by rw [iN_toInt (by omega)]; omega) (by rw [iN_toInt (by omega), c4]; rfl) (by decide) ?_
              refine lv_aload_n hx hb d_Mo_goesUp_189 rfl (lv_at hl 5 rfl) ?_
              refine mo_get 5 S hK hm (by decide) k471 rfl rfl d_Mo_goesUp_190 ?_
              refine fm_iconst S d_Mo_goesUp_193 ?_
              refine mo_iald 4 S hK hm (by decide) (by simp only [moLen]; omega) d_Mo_goesUp_194 ?_
              have h49 := hY.2.2.1
              have h50 := sgn_in v
              have h51 : (0 < sgn v ↔ 0 < v) ∧ (sgn v < 0 ↔ v < 0) := by unfold sgn; (repeat' split) <;> omega
              refine fm_if_le (tgt := 202) S (by omega) d_Mo_goesUp_195 (by decide) (fun c12 => ?_) (fun c12 => ?_)
              · refine fm_iconst S d_Mo_goesUp_202 ?_
                refine fm_zretS S hr hlocks (by omega) d_Mo_goesUp_203 ?_
                unfold rUp
                rw [if_neg (by omega), if_neg (by omega), if_neg (by omega), if_neg (by omega), if_neg (by omega), if_pos (by omega)]
                first | (rw [if_pos (by omega)]; omega) | (rw [if_neg (by omega)]; omega) | (rw [if_pos (by omega)]) | (rw [if_neg (by omega)])
              · refine fm_iconst S d_Mo_goesUp_198 ?_
                refine lv_goto (tgt := 203) hx hb d_Mo_goesUp_199 (by decide) ?_
                refine fm_zretS S hr hlocks (by omega) d_Mo_goesUp_203 ?_
                unfold rUp
                rw [if_neg (by omega), if_neg (by omega), if_neg (by omega), if_neg (by omega), if_neg (by omega), if_pos (by omega)]
                first | (rw [if_pos (by omega)]; omega) | (rw [if_neg (by omega)]; omega) | (rw [if_pos (by omega)]) | (rw [if_neg (by omega)])
            · refine lv_tableIn (tgt := 204) hx hb d_Mo_goesUp_103 (by rw [iN_toInt (by omega)]; omega) (by rw [iN_toInt (by omega)]; omega) (by rw [iN_toInt (by omega), c4]; rfl) (by decide) ?_
              refine lv_aload_n hx hb d_Mo_goesUp_204 rfl (lv_at hl 5 rfl) ?_
              refine mo_get 5 S hK hm (by decide) k471 rfl rfl d_Mo_goesUp_205 ?_
              refine fm_iconst S d_Mo_goesUp_208 ?_
              refine mo_iald 4 S hK hm (by decide) (by simp only [moLen]; omega) d_Mo_goesUp_209 ?_
              have h49 := hY.2.2.1
              have h50 := sgn_in v
              have h51 : (0 < sgn v ↔ 0 < v) ∧ (sgn v < 0 ↔ v < 0) := by unfold sgn; (repeat' split) <;> omega
              refine fm_if_ge (tgt := 217) S (by omega) d_Mo_goesUp_210 (by decide) (fun c13 => ?_) (fun c13 => ?_)
              · refine fm_iconst S d_Mo_goesUp_217 ?_
                refine fm_zretS S hr hlocks (by omega) d_Mo_goesUp_218 ?_
                unfold rUp
                rw [if_neg (by omega), if_neg (by omega), if_neg (by omega), if_neg (by omega), if_neg (by omega), if_neg (by omega), if_pos (by omega)]
                first | (rw [if_pos (by omega)]; omega) | (rw [if_neg (by omega)]; omega) | (rw [if_pos (by omega)]) | (rw [if_neg (by omega)])
              · refine fm_iconst S d_Mo_goesUp_213 ?_
                refine lv_goto (tgt := 218) hx hb d_Mo_goesUp_214 (by decide) ?_
                refine fm_zretS S hr hlocks (by omega) d_Mo_goesUp_218 ?_
                unfold rUp
                rw [if_neg (by omega), if_neg (by omega), if_neg (by omega), if_neg (by omega), if_neg (by omega), if_neg (by omega), if_pos (by omega)]
                first | (rw [if_pos (by omega)]; omega) | (rw [if_neg (by omega)]; omega) | (rw [if_pos (by omega)]) | (rw [if_neg (by omega)])
            · refine lv_tableOut (tgt := 219) hx hb d_Mo_goesUp_103 (by rw [iN_toInt (by omega)]; omega) (by decide) ?_
              refine fm_iconst S d_Mo_goesUp_219 ?_
              refine fm_zretS S hr hlocks (by omega) d_Mo_goesUp_220 ?_
              unfold rUp
              rw [if_neg (by omega), if_neg (by omega), if_neg (by omega), if_neg (by omega), if_neg (by omega), if_neg (by omega), if_neg (by omega)]
          · refine lv_iload hx hb d_Mo_goesUp_84 (lv_at hl 2 rfl) ?_
            refine fm_iconst S d_Mo_goesUp_86 ?_
            refine fm_icmp_ne (tgt := 99) S (by omega) (by omega) d_Mo_goesUp_87 (by decide) (fun c14 => ?_) (fun c14 => ?_)
            · refine fm_iconst S d_Mo_goesUp_99 ?_
              exact key _ (by omega)
            · refine lv_iload hx hb d_Mo_goesUp_90 (lv_at hl 1 rfl) ?_
              refine fm_if_ne (tgt := 99) S (by omega) d_Mo_goesUp_92 (by decide) (fun c15 => ?_) (fun c15 => ?_)
              · refine fm_iconst S d_Mo_goesUp_99 ?_
                exact key _ (by omega)
              · refine fm_iconst S d_Mo_goesUp_95 ?_
                refine lv_goto (tgt := 100) hx hb d_Mo_goesUp_96 (by decide) ?_
                exact key _ (by omega)
        · refine lv_iload hx hb d_Mo_goesUp_60 (lv_at hl 1 rfl) ?_
          refine fm_iconst S d_Mo_goesUp_62 ?_
          refine fm_icmp_gt (tgt := 77) S (by omega) (by omega) d_Mo_goesUp_63 (by decide) (fun c16 => ?_) (fun c16 => ?_)
          · refine fm_iconst S d_Mo_goesUp_77 ?_
            refine lv_goto (tgt := 82) hx hb d_Mo_goesUp_78 (by decide) ?_
            exact key _ (by omega)
          · refine lv_iload hx hb d_Mo_goesUp_66 (lv_at hl 1 rfl) ?_
            refine fm_iconst S d_Mo_goesUp_68 ?_
            refine fm_icmp_ne (tgt := 81) S (by omega) (by omega) d_Mo_goesUp_69 (by decide) (fun c17 => ?_) (fun c17 => ?_)
            · refine fm_iconst S d_Mo_goesUp_81 ?_
              exact key _ (by omega)
            · refine lv_iload hx hb d_Mo_goesUp_72 (lv_at hl 0 rfl) ?_
              refine fm_if_eq (tgt := 81) S (by omega) d_Mo_goesUp_74 (by decide) (fun c18 => ?_) (fun c18 => ?_)
              · refine fm_iconst S d_Mo_goesUp_81 ?_
                exact key _ (by omega)
              · refine fm_iconst S d_Mo_goesUp_77 ?_
                refine lv_goto (tgt := 82) hx hb d_Mo_goesUp_78 (by decide) ?_
                exact key _ (by omega)
      · refine lv_aload_n hx hb d_Mo_goesUp_41 rfl (lv_at hl 2 rfl) ?_
        refine mo_get 4 S hK hm (by decide) k470 rfl rfl d_Mo_goesUp_42 ?_
        refine fm_iconst S d_Mo_goesUp_45 ?_
        refine mo_iald 3 S hK hm (by decide) (by simp only [moLen]; omega) d_Mo_goesUp_46 ?_
        refine lv_iload_n hx hb d_Mo_goesUp_47 rfl (lv_at hl 3 rfl) ?_
        refine fm_iconst S d_Mo_goesUp_48 ?_
        refine fm_isub S d_Mo_goesUp_49 ?_
        refine fm_icmp_ge (tgt := 57) S (by omega) (by omega) d_Mo_goesUp_50 (by decide) (fun c19 => ?_) (fun c19 => ?_)
        · refine fm_iconst S d_Mo_goesUp_57 ?_
          exact key _ (by omega)
        · refine fm_iconst S d_Mo_goesUp_53 ?_
          refine lv_goto (tgt := 58) hx hb d_Mo_goesUp_54 (by decide) ?_
          exact key _ (by omega)
    · refine fm_iconst S d_Mo_goesUp_29 ?_
      refine fm_zretS S hr hlocks (by omega) d_Mo_goesUp_30 ?_
      unfold rUp
      rw [if_pos (by omega)]
  · refine lv_aload_n hx hb d_Mo_goesUp_0 rfl (lv_at hl 0 rfl) ?_
    refine mo_get 3 S hK hm (by decide) k469 rfl rfl d_Mo_goesUp_1 ?_
    refine fm_iconst S d_Mo_goesUp_4 ?_
    refine mo_iald 2 S hK hm (by decide) (by simp only [moLen]; omega) d_Mo_goesUp_5 ?_
    refine fm_if_eq (tgt := 19) S (by omega) d_Mo_goesUp_6 (by decide) (fun c20 => ?_) (fun c20 => ?_)
    · refine fm_iconst S d_Mo_goesUp_19 ?_
      refine lv_goto (tgt := 24) hx hb d_Mo_goesUp_20 (by decide) ?_
      exact key _ (by omega)
    · refine lv_aload_n hx hb d_Mo_goesUp_9 rfl (lv_at hl 0 rfl) ?_
      refine mo_get 4 S hK hm (by decide) k470 rfl rfl d_Mo_goesUp_10 ?_
      refine fm_iconst S d_Mo_goesUp_13 ?_
      refine mo_iald 3 S hK hm (by decide) (by simp only [moLen]; omega) d_Mo_goesUp_14 ?_
      refine lv_iload_n hx hb d_Mo_goesUp_15 rfl (lv_at hl 1 rfl) ?_
      refine fm_icmp_lt (tgt := 23) S (by omega) (by omega) d_Mo_goesUp_16 (by decide) (fun c21 => ?_) (fun c21 => ?_)
      · refine fm_iconst S d_Mo_goesUp_23 ?_
        exact key _ (by omega)
      · refine fm_iconst S d_Mo_goesUp_19 ?_
        refine lv_goto (tgt := 24) hx hb d_Mo_goesUp_20 (by decide) ?_
        exact key _ (by omega)

set_option maxHeartbeats 4000000 in
set_option maxRecDepth 100000 in
/-- L_round -/
theorem L_round {p : Program} {l : Launch} {e : Env} {s : State} {m : MethodId} {args : Array Value} {below : List Frame} {meth : Method} {c : Code} {Q : State → Prop} {D : va_G} {cs : Nat → ClassId} {Z : (Nat → Prop) → State → Heap → Prop} {ad : Nat → Nat} {μ0 : fm_Mu} {A : Nat → Prop}  (S : CallFix p m c c_Mo_round 13 s args wA "ArithmeticFormsModel") (hK : va_K D clsA (tysA cs) s) (hZo : fm_Zok Z) (hZ : Z A s s.heap) (hA : ∀ q, s.heap.size ≤ q → A q) (M0 : Nat → Int → Int) (V0 : Nat → Int) (sc ro v top low : Int) (many up : Nat) (hY : Rv M0 4 v) (hvv : vB v) (hsc : 0 ≤ sc ∧ sc ≤ 18) (hlo : low = -sc) (hup : up ≤ 1) (hma : 1 ≤ many ∧ many ≤ 18) (htop : low ≤ top ∧ top ≤ 200) (kk200 : ∀ (V : Nat → Int) (M : Nat → Int → Int) (P : Int) (tn : Int) (vv : Int) (cy : Int) (i : Nat) (H : Heap) (locs : List Loc) (ls : Array Slot), (M = M0) → (∀ k, k ≠ 22 → V k = V0 k) → (P = top + 1 ∧ P = low + i) → (RnI (uW v sc) up many i cy vv tn (V 22)) → lv_has ls 13 [(11, .int (iN (P))), (9, .long (jN (tn))), (7, .long (jN (vv))), (6, .int (iN (top))), (5, .int (iN (cy))), (4, .int (iN (low))), (0, .ref (ad 0)), (1, .int (iN (sc))), (2, .int (iN (ro))), (3, .int (iN ((many : Int))))] → moW D A s.heap μ0 cs ad V M H locs → W p l e ({ frames := 2, cells := 0, slots := 0, locals := 50 }) s m args below meth c H locs 0 0 Q (F0 m 200 ls [])) : ∀ (fu : Nat) (V : Nat → Int) (M : Nat → Int → Int) (P : Int) (tn : Int) (vv : Int) (cy : Int) (i : Nat) (H : Heap) (locs : List Loc) (ls : Array Slot), top + 1 - P < (fu : Int) → (M = M0) → (∀ k, k ≠ 22 → V k = V0 k) → (P = low + i ∧ P ≤ top + 1) → (RnI (uW v sc) up many i cy vv tn (V 22)) → lv_has ls 13 [(11, .int (iN (P))), (9, .long (jN (tn))), (7, .long (jN (vv))), (6, .int (iN (top))), (5, .int (iN (cy))), (4, .int (iN (low))), (0, .ref (ad 0)), (1, .int (iN (sc))), (2, .int (iN (ro))), (3, .int (iN ((many : Int))))] → moW D A s.heap μ0 cs ad V M H locs → W p l e ({ frames := 2, cells := 0, slots := 0, locals := 50 }) s m args below meth c H locs 0 0 Q (F0 m 87 ls []) := by
  obtain ⟨hx, hb, hml, hown, hts⟩ := id S
  intro fu
  induction fu with
  | zero =>
    intro V M P tn vv cy i H locs ls hn hM0 hVs hP hc hl hm
    exfalso; omega
  | succ fu ih =>
    intro V M P tn vv cy i H locs ls hn hM0 hVs hP hc hl hm
    have hl01 : V 22 = 0 ∨ V 22 = 1 := by rw [hc.2.2.2]; split <;> simp
    have hc9 : 0 ≤ cy ∧ cy ≤ 1 := by
      rw [hc.1]
      have h1 := Nat.mod_lt (uW v sc) (p10N i)
      have h2 : (uW v sc % 10 ^ i + up) / 10 ^ i < 2 := (Nat.div_lt_iff_lt_mul (p10N i)).mpr (by omega)
      obtain ⟨c0, hc0⟩ : ∃ c0 : Nat, c0 = (uW v sc % 10 ^ i + up) / 10 ^ i := ⟨_, rfl⟩
      rw [← hc0] at h2 ⊢
      omega
    have hv1 := hvv.1
    have hv2 := hvv.2.1
    have hv3 := hvv.2.2
    refine lv_iload hx hb d_Mo_round_87 (lv_at hl 0 rfl) ?_
    refine lv_iload hx hb d_Mo_round_89 (lv_at hl 3 rfl) ?_
    refine fm_icmp_gt (tgt := 200) S (by omega) (by omega) d_Mo_round_91 (by decide) (fun c1 => ?_) (fun c1 => ?_)
    · exact kk200 V M P tn vv cy i _ _ _ (hM0) (hVs) (by omega) (hc) (lv_sub hl [0, 1, 2, 3, 4, 5, 6, 7, 8, 9] rfl) hm
    · refine lv_aload_n hx hb d_Mo_round_94 rfl (lv_at hl 6 rfl) ?_
      refine fm_iconst S d_Mo_round_95 ?_
      refine lv_iload hx hb d_Mo_round_96 (lv_at hl 0 rfl) ?_
      refine mo_pi (n := 2) (As := [.int (iN (4)), .int (iN (P))]) (rest := []) S hK hZo hZ hA hm (fun μ sz hM => t_Mo_digitAt l D cs Z hZo ad μ V M sz 4 P (nd (cN v)) (cN v) (cX v) (sgn v) hM (by omega) (by rw [hM0]; exact hY) (by omega)) (gV k599 k601 ks31 k6 k602) (by decide) (by decide +kernel) rfl hl.1 rfl (Nat.le_of_ble_eq_true rfl) ⟨Nat.le_of_ble_eq_true rfl, Nat.le_of_ble_eq_true rfl⟩ d_Mo_round_98 (fun x3 q2 => ?_)
      rw [show P = -sc + (i : Int) by omega, uW_dig i hsc] at q2
      have hd9 := Nat.mod_lt (uW v sc / 10 ^ i) (show 10 > 0 by decide)
      refine lv_iload hx hb d_Mo_round_101 (lv_at hl 4 rfl) ?_
      refine fm_iadd S d_Mo_round_103 ?_
      refine fm_topi (fun x4 hx4 => ?_)
      refine lv_istore (lv' := [(12, .int (iN (x4))), (11, .int (iN (P))), (9, .long (jN (tn))), (7, .long (jN (vv))), (6, .int (iN (top))), (5, .int (iN (cy))), (4, .int (iN (low))), (0, .ref (ad 0)), (1, .int (iN (sc))), (2, .int (iN (ro))), (3, .int (iN ((many : Int))))]) hx hb d_Mo_round_104 hl (by decide) rfl (fun ls hl => ?_)
      rw [q2] at hx4
      refine lv_iload hx hb d_Mo_round_106 (lv_at hl 0 rfl) ?_
      refine fm_bipush S d_Mo_round_108 (by decide) ?_
      refine fm_idivN S (by omega) d_Mo_round_110 ?_
      refine fm_topi (fun x5 hx5 => ?_)
      refine lv_istore (lv' := [(5, .int (iN (x5))), (12, .int (iN (x4))), (11, .int (iN (P))), (9, .long (jN (tn))), (7, .long (jN (vv))), (6, .int (iN (top))), (4, .int (iN (low))), (0, .ref (ad 0)), (1, .int (iN (sc))), (2, .int (iN (ro))), (3, .int (iN ((many : Int))))]) hx hb d_Mo_round_111 hl (by decide) rfl (fun ls hl => ?_)
      refine lv_iload hx hb d_Mo_round_113 (lv_at hl 1 rfl) ?_
      refine fm_bipush S d_Mo_round_115 (by decide) ?_
      refine fm_iremN S (by omega) d_Mo_round_117 ?_
      refine fm_topi (fun x6 hx6 => ?_)
      refine lv_istore (lv' := [(12, .int (iN (x6))), (5, .int (iN (x5))), (11, .int (iN (P))), (9, .long (jN (tn))), (7, .long (jN (vv))), (6, .int (iN (top))), (4, .int (iN (low))), (0, .ref (ad 0)), (1, .int (iN (sc))), (2, .int (iN (ro))), (3, .int (iN ((many : Int))))]) hx hb d_Mo_round_118 hl (by decide) rfl (fun ls hl => ?_)
      rcases (show i < 18 ∨ 18 ≤ i by omega) with h18 | h18
      · refine lv_iload hx hb d_Mo_round_120 (lv_at hl 2 rfl) ?_
        refine lv_iload hx hb d_Mo_round_122 (lv_at hl 6 rfl) ?_
        refine fm_bipush S d_Mo_round_124 (by decide) ?_
        refine fm_iadd S d_Mo_round_126 ?_
        refine fm_icmp_ge (tgt := 141) S (by omega) (by omega) d_Mo_round_127 (by decide) (fun c7 => ?_) (fun c7 => ?_)
        · exfalso; omega
        · refine lv_lload hx hb d_Mo_round_130 (lv_at hl 4 rfl) ?_
          refine lv_lload hx hb d_Mo_round_132 (lv_at hl 3 rfl) ?_
          refine lv_iload hx hb d_Mo_round_134 (lv_at hl 0 rfl) ?_
          refine fm_i2l S (by omega) d_Mo_round_136 ?_
          refine fm_lmul S d_Mo_round_137 ?_
          refine fm_ladd S d_Mo_round_138 ?_
          refine fm_topl (fun x8 hx8 => ?_)
          refine lv_lstore (lv' := [(7, .long (jN (x8))), (12, .int (iN (x6))), (5, .int (iN (x5))), (11, .int (iN (P))), (9, .long (jN (tn))), (6, .int (iN (top))), (4, .int (iN (low))), (0, .ref (ad 0)), (1, .int (iN (sc))), (2, .int (iN (ro))), (3, .int (iN ((many : Int))))]) hx hb d_Mo_round_139 hl (by decide) rfl (fun ls hl => ?_)
          refine lv_iload hx hb d_Mo_round_141 (lv_at hl 3 rfl) ?_
          refine lv_iload hx hb d_Mo_round_143 (lv_at hl 6 rfl) ?_
          refine fm_bipush S d_Mo_round_145 (by decide) ?_
          refine fm_iadd S d_Mo_round_147 ?_
          refine fm_icmp_ge (tgt := 160) S (by omega) (by omega) d_Mo_round_148 (by decide) (fun c9 => ?_) (fun c9 => ?_)
          · exfalso; omega
          · refine lv_lload hx hb d_Mo_round_151 (lv_at hl 4 rfl) ?_
            refine lv_ldc2 (v := jN 10) hx hb hown (hts _ k554) d_Mo_round_153 ?_
            refine fm_lmul S d_Mo_round_156 ?_
            refine lv_goto (tgt := 162) hx hb d_Mo_round_157 (by decide) ?_
            refine fm_topl (fun x10 hx10 => ?_)
            refine lv_lstore (lv' := [(9, .long (jN (x10))), (7, .long (jN (x8))), (12, .int (iN (x6))), (5, .int (iN (x5))), (11, .int (iN (P))), (6, .int (iN (top))), (4, .int (iN (low))), (0, .ref (ad 0)), (1, .int (iN (sc))), (2, .int (iN (ro))), (3, .int (iN ((many : Int))))]) hx hb d_Mo_round_162 hl (by decide) rfl (fun ls hl => ?_)
            refine lv_aload_n hx hb d_Mo_round_164 rfl (lv_at hl 7 rfl) ?_
            refine mo_join (P := fun y => (y = 1 ∧ (V 22 = 1 ∨ (0 < x6 ∧ (many : Int) ≤ i))) ∨ (y = 0 ∧ ¬ (V 22 = 1 ∨ (0 < x6 ∧ (many : Int) ≤ i)))) (g := fun y => F0 m 191 ls ([.int (iN (y)), .ref (ad 0)])) (fun y hy => ?_) (fun key => ?_)
            · refine mo_putz S hK hm (by omega) k488 d_Mo_round_191 (fun V11 H locs eV11 hm => ?_)
              refine lv_iinc (v := iN ((P + 1))) (lv' := [(11, .int (iN ((P + 1)))), (9, .long (jN (x10))), (7, .long (jN (x8))), (12, .int (iN (x6))), (5, .int (iN (x5))), (6, .int (iN (top))), (4, .int (iN (low))), (0, .ref (ad 0)), (1, .int (iN (sc))), (2, .int (iN (ro))), (3, .int (iN ((many : Int))))]) hx hb d_Mo_round_194 hl (k := 4) rfl (iN_add _ _) (by decide) rfl (fun ls hl => ?_)
              refine lv_goto (tgt := 87) hx hb d_Mo_round_197 (by decide) ?_
              exact ih V11 M (P + 1) x10 x8 x5 (i + 1) _ _ _ (by omega) (hM0) (fun k hk => by rw [eV11, uF_n hk]; exact hVs k hk) (by omega) (by rw [hx5, eV11, uF_s]; exact (hc.step hup hx4 (Or.inl ⟨h18, by rw [hx8, hx6], hx10⟩) (by rw [← hx6]; omega)).1) (lv_sub hl [0, 1, 2, 5, 4, 6, 7, 8, 9, 10] rfl) hm
            · refine lv_aload_n hx hb d_Mo_round_165 rfl (lv_at hl 7 rfl) ?_
              refine mo_get 22 S hK hm (by decide) k488 rfl rfl d_Mo_round_166 ?_
              refine fm_if_ne (tgt := 186) S (by omega) d_Mo_round_169 (by decide) (fun c12 => ?_) (fun c12 => ?_)
              · refine fm_iconst S d_Mo_round_186 ?_
                refine lv_goto (tgt := 191) hx hb d_Mo_round_187 (by decide) ?_
                exact key _ (by omega)
              · refine lv_iload hx hb d_Mo_round_172 (lv_at hl 2 rfl) ?_
                refine fm_if_le (tgt := 190) S (by omega) d_Mo_round_174 (by decide) (fun c13 => ?_) (fun c13 => ?_)
                · refine fm_iconst S d_Mo_round_190 ?_
                  exact key _ (by omega)
                · refine lv_iload hx hb d_Mo_round_177 (lv_at hl 4 rfl) ?_
                  refine lv_iload hx hb d_Mo_round_179 (lv_at hl 6 rfl) ?_
                  refine lv_iload_n hx hb d_Mo_round_181 rfl (lv_at hl 10 rfl) ?_
                  refine fm_iadd S d_Mo_round_182 ?_
                  refine fm_icmp_lt (tgt := 190) S (by omega) (by omega) d_Mo_round_183 (by decide) (fun c14 => ?_) (fun c14 => ?_)
                  · refine fm_iconst S d_Mo_round_190 ?_
                    exact key _ (by omega)
                  · refine fm_iconst S d_Mo_round_186 ?_
                    refine lv_goto (tgt := 191) hx hb d_Mo_round_187 (by decide) ?_
                    exact key _ (by omega)
      · refine lv_iload hx hb d_Mo_round_120 (lv_at hl 2 rfl) ?_
        refine lv_iload hx hb d_Mo_round_122 (lv_at hl 6 rfl) ?_
        refine fm_bipush S d_Mo_round_124 (by decide) ?_
        refine fm_iadd S d_Mo_round_126 ?_
        refine fm_icmp_ge (tgt := 141) S (by omega) (by omega) d_Mo_round_127 (by decide) (fun c15 => ?_) (fun c15 => ?_)
        · refine lv_iload hx hb d_Mo_round_141 (lv_at hl 2 rfl) ?_
          refine lv_iload hx hb d_Mo_round_143 (lv_at hl 6 rfl) ?_
          refine fm_bipush S d_Mo_round_145 (by decide) ?_
          refine fm_iadd S d_Mo_round_147 ?_
          refine fm_icmp_ge (tgt := 160) S (by omega) (by omega) d_Mo_round_148 (by decide) (fun c16 => ?_) (fun c16 => ?_)
          · refine lv_lload hx hb d_Mo_round_160 (lv_at hl 3 rfl) ?_
            refine lv_lstore (lv' := [(9, .long (jN (tn))), (12, .int (iN (x6))), (5, .int (iN (x5))), (11, .int (iN (P))), (7, .long (jN (vv))), (6, .int (iN (top))), (4, .int (iN (low))), (0, .ref (ad 0)), (1, .int (iN (sc))), (2, .int (iN (ro))), (3, .int (iN ((many : Int))))]) hx hb d_Mo_round_162 hl (by decide) rfl (fun ls hl => ?_)
            refine lv_aload_n hx hb d_Mo_round_164 rfl (lv_at hl 7 rfl) ?_
            refine mo_join (P := fun y => (y = 1 ∧ (V 22 = 1 ∨ (0 < x6 ∧ (many : Int) ≤ i))) ∨ (y = 0 ∧ ¬ (V 22 = 1 ∨ (0 < x6 ∧ (many : Int) ≤ i)))) (g := fun y => F0 m 191 ls ([.int (iN (y)), .ref (ad 0)])) (fun y hy => ?_) (fun key => ?_)
            · refine mo_putz S hK hm (by omega) k488 d_Mo_round_191 (fun V17 H locs eV17 hm => ?_)
              refine lv_iinc (v := iN ((P + 1))) (lv' := [(11, .int (iN ((P + 1)))), (9, .long (jN (tn))), (12, .int (iN (x6))), (5, .int (iN (x5))), (7, .long (jN (vv))), (6, .int (iN (top))), (4, .int (iN (low))), (0, .ref (ad 0)), (1, .int (iN (sc))), (2, .int (iN (ro))), (3, .int (iN ((many : Int))))]) hx hb d_Mo_round_194 hl (k := 3) rfl (iN_add _ _) (by decide) rfl (fun ls hl => ?_)
              refine lv_goto (tgt := 87) hx hb d_Mo_round_197 (by decide) ?_
              exact ih V17 M (P + 1) tn vv x5 (i + 1) _ _ _ (by omega) (hM0) (fun k hk => by rw [eV17, uF_n hk]; exact hVs k hk) (by omega) (by rw [hx5, eV17, uF_s]; exact (hc.step hup hx4 (Or.inr ⟨h18, rfl, rfl⟩) (by rw [← hx6]; omega)).1) (lv_sub hl [0, 1, 4, 5, 3, 6, 7, 8, 9, 10] rfl) hm
            · refine lv_aload_n hx hb d_Mo_round_165 rfl (lv_at hl 7 rfl) ?_
              refine mo_get 22 S hK hm (by decide) k488 rfl rfl d_Mo_round_166 ?_
              refine fm_if_ne (tgt := 186) S (by omega) d_Mo_round_169 (by decide) (fun c18 => ?_) (fun c18 => ?_)
              · refine fm_iconst S d_Mo_round_186 ?_
                refine lv_goto (tgt := 191) hx hb d_Mo_round_187 (by decide) ?_
                exact key _ (by omega)
              · refine lv_iload hx hb d_Mo_round_172 (lv_at hl 1 rfl) ?_
                refine fm_if_le (tgt := 190) S (by omega) d_Mo_round_174 (by decide) (fun c19 => ?_) (fun c19 => ?_)
                · refine fm_iconst S d_Mo_round_190 ?_
                  exact key _ (by omega)
                · refine lv_iload hx hb d_Mo_round_177 (lv_at hl 3 rfl) ?_
                  refine lv_iload hx hb d_Mo_round_179 (lv_at hl 6 rfl) ?_
                  refine lv_iload_n hx hb d_Mo_round_181 rfl (lv_at hl 10 rfl) ?_
                  refine fm_iadd S d_Mo_round_182 ?_
                  refine fm_icmp_lt (tgt := 190) S (by omega) (by omega) d_Mo_round_183 (by decide) (fun c20 => ?_) (fun c20 => ?_)
                  · refine fm_iconst S d_Mo_round_190 ?_
                    exact key _ (by omega)
                  · refine fm_iconst S d_Mo_round_186 ?_
                    refine lv_goto (tgt := 191) hx hb d_Mo_round_187 (by decide) ?_
                    exact key _ (by omega)
          · exfalso; omega
        · exfalso; omega

set_option maxHeartbeats 4000000 in
set_option maxRecDepth 100000 in
/-- round(sc, ro, many) -/
theorem t_Mo_round (l : Launch) (D : va_G) (cs : Nat → ClassId) (Z : (Nat → Prop) → State → Heap → Prop) (hZo : fm_Zok Z) (ad : Nat → Nat) (μ : fm_Mu) (V : Nat → Int) (M : Nat → Int → Int) (sz : Nat) (sc : Int) (ro : Int) (m0 : Int) (many : Nat) (v : Int) (hM : moS cs μ ad V M) (hm0 : m0 = (many : Int)) (hma : 1 ≤ many ∧ many ≤ 18) (hY : Rv M 4 v) (hvv : vB v) (hsc : 0 ≤ sc ∧ sc ≤ 18) (hro : 0 ≤ ro ∧ ro ≤ 7) : Met l y_Mo_round (Cond.code y_Mo_round c_Mo_round 13 (some .int) :: wA) ({ frames := 2, cells := 0, slots := 0, locals := 50 }) (fm_Pc D clsA (tysA cs) Z μ sz [.ref (ad 0), .int (iN (sc)), .int (iN (ro)), .int (iN (m0))]) (moQi D cs ad μ sz (fun z V' M' => (z = 3 ∧ ro = 7 ∧ uR v sc ≠ 0 ∧ V' = V ∧ M' = M) ∨ (z = 0 ∧ ¬ (ro = 7 ∧ uR v sc ≠ 0) ∧ M' = M ∧ (∀ k, k ≠ 21 → k ≠ 22 → V' k = V k) ∧ V' 22 = (if 10 ^ many ≤ rW ro v sc then 1 else 0) ∧ V' 21 = (if v < 0 then -((rW ro v sc % 10 ^ 18 : Nat) : Int) else ((rW ro v sc % 10 ^ 18 : Nat) : Int))))) 0 0 (fm_A μ sz) := by
  refine mo_of hM (by decide +kernel) (Nat.le_of_ble_eq_true rfl) (fun p e s m below meth c S hr hlocks hsz hm hK hZ hA ls hl => ?_)
  subst hsz
  obtain ⟨hx, hb, hml, hown, hts⟩ := id S
  subst hm0
  have hl : lv_has ls 13 [(0, .ref (ad 0)), (1, .int (iN (sc))), (2, .int (iN (ro))), (3, .int (iN ((many : Int))))] := hl
  have e24 := hY.1
  have e34 := hY.2.1
  have hv1 := hvv.1
  have hv2 := hvv.2.1
  have hv3 := hvv.2.2
  have hx0 : nd (cN v) = 0 → uR v sc = 0 := fun h => by rw [ndc_0 h]; exact uR_0
  have hx1 : nd (cN v) ≠ 0 → (-sc ≤ cX v ↔ uR v sc = 0) := fun h => by
    rw [cX_dvd (fun e => h (by rw [e]; exact nz_0)) (by omega), show (-sc + 300).toNat = (300 - sc).toNat by omega]
    exact Iff.rfl
  refine fm_iconst S d_Mo_round_0 ?_
  refine lv_iload_n hx hb d_Mo_round_1 rfl (lv_at hl 1 rfl) ?_
  refine fm_isub S d_Mo_round_2 ?_
  refine fm_topi (fun x1 hx1 => ?_)
  refine lv_istore (lv' := [(4, .int (iN (x1))), (0, .ref (ad 0)), (1, .int (iN (sc))), (2, .int (iN (ro))), (3, .int (iN ((many : Int))))]) hx hb d_Mo_round_3 hl (by decide) rfl (fun ls hl => ?_)
  refine lv_iload_n hx hb d_Mo_round_5 rfl (lv_at hl 3 rfl) ?_
  refine fm_bipush S d_Mo_round_6 (by decide) ?_
  refine fm_icmp_ne (tgt := 33) S (by omega) (by omega) d_Mo_round_8 (by decide) (fun c2 => ?_) (fun c2 => ?_)
  · have hex : ¬ (ro = 7 ∧ uR v sc ≠ 0) := by omega
    refine lv_aload_n hx hb d_Mo_round_33 rfl (lv_at hl 1 rfl) ?_
    refine lv_iload hx hb d_Mo_round_34 (lv_at hl 0 rfl) ?_
    refine lv_iload_n hx hb d_Mo_round_36 rfl (lv_at hl 3 rfl) ?_
    refine mo_pi (n := 2) (As := [.int (iN (x1)), .int (iN (ro))]) (rest := []) S hK hZo hZ hA hm (fun μ sz hM => t_Mo_goesUp l D cs Z hZo ad μ V M sz x1 ro v sc hM hY hvv hsc (by omega) (by omega)) (gV k667 k669 ks42 k6 k670) (by decide) (by decide +kernel) rfl hl.1 rfl (Nat.le_of_ble_eq_true rfl) ⟨Nat.le_of_ble_eq_true rfl, Nat.le_of_ble_eq_true rfl⟩ d_Mo_round_37 (fun x4 q3 => ?_)
    have hr01 := rUp_01 ro v sc
    refine mo_join (P := fun y => y = rUp ro v sc) (g := fun y => F0 m 48 ls ([.int (iN (y))])) (fun y hy => ?_) (fun key => ?_)
    · refine lv_istore (lv' := [(5, .int (iN (y))), (4, .int (iN (x1))), (0, .ref (ad 0)), (1, .int (iN (sc))), (2, .int (iN (ro))), (3, .int (iN ((many : Int))))]) hx hb d_Mo_round_48 hl (by decide) rfl (fun ls hl => ?_)
      refine mo_join (P := fun y2 => x1 ≤ y2 ∧ y2 ≤ 200 ∧ (nd (cN v) : Int) + cX v ≤ y2) (g := fun y2 => F0 m 70 ls ([.int (iN (y2))])) (fun y2 hy2 => ?_) (fun key => ?_)
      · refine lv_istore (lv' := [(6, .int (iN (y2))), (5, .int (iN (y))), (4, .int (iN (x1))), (0, .ref (ad 0)), (1, .int (iN (sc))), (2, .int (iN (ro))), (3, .int (iN ((many : Int))))]) hx hb d_Mo_round_70 hl (by decide) rfl (fun ls hl => ?_)
        refine fm_lconst0 S d_Mo_round_72 ?_
        refine lv_lstore (lv' := [(7, .long (jN (0))), (6, .int (iN (y2))), (5, .int (iN (y))), (4, .int (iN (x1))), (0, .ref (ad 0)), (1, .int (iN (sc))), (2, .int (iN (ro))), (3, .int (iN ((many : Int))))]) hx hb d_Mo_round_73 hl (by decide) rfl (fun ls hl => ?_)
        refine fm_lconst1 S d_Mo_round_75 ?_
        refine lv_lstore (lv' := [(9, .long (jN (1))), (7, .long (jN (0))), (6, .int (iN (y2))), (5, .int (iN (y))), (4, .int (iN (x1))), (0, .ref (ad 0)), (1, .int (iN (sc))), (2, .int (iN (ro))), (3, .int (iN ((many : Int))))]) hx hb d_Mo_round_76 hl (by decide) rfl (fun ls hl => ?_)
        refine lv_aload_n hx hb d_Mo_round_78 rfl (lv_at hl 5 rfl) ?_
        refine fm_iconst S d_Mo_round_79 ?_
        refine mo_putz S hK hm (by omega) k488 d_Mo_round_80 (fun V5 H locs eV5 hm => ?_)
        refine lv_iload hx hb d_Mo_round_83 (lv_at hl 4 rfl) ?_
        refine lv_istore (lv' := [(11, .int (iN (x1))), (9, .long (jN (1))), (7, .long (jN (0))), (6, .int (iN (y2))), (5, .int (iN (y))), (4, .int (iN (x1))), (0, .ref (ad 0)), (1, .int (iN (sc))), (2, .int (iN (ro))), (3, .int (iN ((many : Int))))]) hx hb d_Mo_round_85 hl (by decide) rfl (fun ls hl => ?_)
        obtain ⟨up, hup⟩ : ∃ up : Nat, rUp ro v sc = up := ⟨(rUp ro v sc).toNat, by omega⟩
        have hV1 : ∀ k, k ≠ 22 → V5 k = V k := fun k hk => by rw [eV5, uF_n hk]
        have hst : RnI (uW v sc) up many 0 y 0 1 (V5 22) := by
          rw [hy, hup, eV5, uF_s]
          exact RnI.start _ _ _ (by omega)
        refine L_round (Z := Z) S hK hZo hZ hA M V sc ro v y2 x1 many up hY hvv hsc (by omega) (by omega) hma (by omega) (fun V7 M6 P tn vv cy i H locs ls hM1 hVs hPi hc hl hm => ?_) ((y2 + 1 - x1).toNat + 1) V5 M x1 1 0 y 0 _ _ _ (by omega) (rfl) (hV1) (by omega) (hst) (lv_sub hl [0, 1, 2, 3, 4, 5, 6, 7, 8, 9] rfl) hm
        rw [hM1] at hm
        have hT : rW ro v sc = uW v sc + up := by unfold rW; rw [hup]; rfl
        have hWl : uW v sc < 10 ^ (i - 1) := uW_lt hsc (by omega)
        have hpw : 10 ^ i = 10 ^ (i - 1) * 10 := by rw [← Nat.pow_succ]; congr 1; omega
        have hTl : uW v sc + up < 10 ^ i := by omega
        have hvv2 : vv = ((rW ro v sc % 10 ^ 18 : Nat) : Int) := by
          rw [hT, hc.2.1]
          rcases (show i < 18 ∨ 18 ≤ i by omega) with h | h
          · rw [show min i 18 = i by omega, Nat.mod_eq_of_lt hTl, Nat.mod_eq_of_lt (Nat.lt_of_lt_of_le hTl (Nat.pow_le_pow_right (by decide) (by omega)))]
          · rw [show min i 18 = 18 by omega]
        have hlg : V7 22 = (if 10 ^ many ≤ rW ro v sc then 1 else 0) := by rw [hc.2.2.2, Nat.mod_eq_of_lt hTl, hT]
        refine lv_aload_n hx hb d_Mo_round_200 rfl (lv_at hl 6 rfl) ?_
        refine lv_aload_n hx hb d_Mo_round_201 rfl (lv_at hl 6 rfl) ?_
        refine mo_get 5 S hK hm (by decide) k471 rfl rfl d_Mo_round_202 ?_
        refine fm_iconst S d_Mo_round_205 ?_
        refine mo_iald 4 S hK hm (by decide) (by simp only [moLen]; omega) d_Mo_round_206 ?_
        have h49 := hY.2.2.1
        have h50 := sgn_in v
        have h51 : (0 < sgn v ↔ 0 < v) ∧ (sgn v < 0 ↔ v < 0) := by unfold sgn; (repeat' split) <;> omega
        refine fm_if_ge (tgt := 217) S (by omega) d_Mo_round_207 (by decide) (fun c8 => ?_) (fun c8 => ?_)
        · refine lv_lload hx hb d_Mo_round_217 (lv_at hl 2 rfl) ?_
          refine mo_putl S hK hm k487 d_Mo_round_219 (fun V9 H locs eV9 hm => ?_)
          refine fm_iconst S d_Mo_round_222 ?_
          refine mo_iret S hr hlocks hK hm d_Mo_round_223 ?_
          refine Or.inr ⟨rfl, hex, rfl, fun k h1 h2 => ?_, ?_, ?_⟩
          · rw [eV9, uF_n h1]; exact hVs k h2
          · rw [eV9, uF_n (by decide)]; exact hlg
          · rw [eV9, uF_s, ← hvv2]
            first | (rw [if_pos (by omega)]; omega) | (rw [if_neg (by omega)])
        · refine fm_lconst0 S d_Mo_round_210 ?_
          refine lv_lload hx hb d_Mo_round_211 (lv_at hl 2 rfl) ?_
          refine fm_lsub S d_Mo_round_213 ?_
          refine lv_goto (tgt := 219) hx hb d_Mo_round_214 (by decide) ?_
          refine mo_putl S hK hm k487 d_Mo_round_219 (fun V10 H locs eV10 hm => ?_)
          refine fm_iconst S d_Mo_round_222 ?_
          refine mo_iret S hr hlocks hK hm d_Mo_round_223 ?_
          refine Or.inr ⟨rfl, hex, rfl, fun k h1 h2 => ?_, ?_, ?_⟩
          · rw [eV10, uF_n h1]; exact hVs k h2
          · rw [eV10, uF_n (by decide)]; exact hlg
          · rw [eV10, uF_s, ← hvv2]
            first | (rw [if_pos (by omega)]; omega) | (rw [if_neg (by omega)])
      · refine lv_aload_n hx hb d_Mo_round_50 rfl (lv_at hl 2 rfl) ?_
        refine fm_iconst S d_Mo_round_51 ?_
        refine mo_pi (n := 1) (As := [.int (iN (4))]) (rest := []) S hK hZo hZ hA hm (fun μ sz hM => t_Mo_topOf l D cs Z hZo ad μ V M sz 4 hM (by omega)) (gV k591 k593 ks29 k6 k594) (by decide) (by decide +kernel) rfl hl.1 rfl (Nat.le_of_ble_eq_true rfl) ⟨Nat.le_of_ble_eq_true rfl, Nat.le_of_ble_eq_true rfl⟩ d_Mo_round_52 (fun x12 q11 => ?_)
        refine lv_iload hx hb d_Mo_round_55 (lv_at hl 1 rfl) ?_
        refine fm_icmp_ge (tgt := 65) S (by omega) (by omega) d_Mo_round_57 (by decide) (fun c13 => ?_) (fun c13 => ?_)
        · refine lv_aload_n hx hb d_Mo_round_65 rfl (lv_at hl 2 rfl) ?_
          refine fm_iconst S d_Mo_round_66 ?_
          refine mo_pi (n := 1) (As := [.int (iN (4))]) (rest := []) S hK hZo hZ hA hm (fun μ sz hM => t_Mo_topOf l D cs Z hZo ad μ V M sz 4 hM (by omega)) (gV k591 k593 ks29 k6 k594) (by decide) (by decide +kernel) rfl hl.1 rfl (Nat.le_of_ble_eq_true rfl) ⟨Nat.le_of_ble_eq_true rfl, Nat.le_of_ble_eq_true rfl⟩ d_Mo_round_67 (fun x15 q14 => ?_)
          exact key _ (by omega)
        · refine lv_iload hx hb d_Mo_round_60 (lv_at hl 1 rfl) ?_
          refine lv_goto (tgt := 70) hx hb d_Mo_round_62 (by decide) ?_
          exact key _ (by omega)
    · refine fm_if_eq (tgt := 47) S (by omega) d_Mo_round_40 (by decide) (fun c16 => ?_) (fun c16 => ?_)
      · refine fm_iconst S d_Mo_round_47 ?_
        exact key _ (by omega)
      · refine fm_iconst S d_Mo_round_43 ?_
        refine lv_goto (tgt := 48) hx hb d_Mo_round_44 (by decide) ?_
        exact key _ (by omega)
  · refine lv_aload_n hx hb d_Mo_round_11 rfl (lv_at hl 1 rfl) ?_
    refine mo_get 3 S hK hm (by decide) k469 rfl rfl d_Mo_round_12 ?_
    refine fm_iconst S d_Mo_round_15 ?_
    refine mo_iald 2 S hK hm (by decide) (by simp only [moLen]; omega) d_Mo_round_16 ?_
    refine fm_if_le (tgt := 33) S (by omega) d_Mo_round_17 (by decide) (fun c17 => ?_) (fun c17 => ?_)
    · have hex : ¬ (ro = 7 ∧ uR v sc ≠ 0) := by omega
      refine lv_aload_n hx hb d_Mo_round_33 rfl (lv_at hl 1 rfl) ?_
      refine lv_iload hx hb d_Mo_round_34 (lv_at hl 0 rfl) ?_
      refine lv_iload_n hx hb d_Mo_round_36 rfl (lv_at hl 3 rfl) ?_
      refine mo_pi (n := 2) (As := [.int (iN (x1)), .int (iN (ro))]) (rest := []) S hK hZo hZ hA hm (fun μ sz hM => t_Mo_goesUp l D cs Z hZo ad μ V M sz x1 ro v sc hM hY hvv hsc (by omega) (by omega)) (gV k667 k669 ks42 k6 k670) (by decide) (by decide +kernel) rfl hl.1 rfl (Nat.le_of_ble_eq_true rfl) ⟨Nat.le_of_ble_eq_true rfl, Nat.le_of_ble_eq_true rfl⟩ d_Mo_round_37 (fun x19 q18 => ?_)
      have hr01 := rUp_01 ro v sc
      refine mo_join (P := fun y => y = rUp ro v sc) (g := fun y => F0 m 48 ls ([.int (iN (y))])) (fun y hy => ?_) (fun key => ?_)
      · refine lv_istore (lv' := [(5, .int (iN (y))), (4, .int (iN (x1))), (0, .ref (ad 0)), (1, .int (iN (sc))), (2, .int (iN (ro))), (3, .int (iN ((many : Int))))]) hx hb d_Mo_round_48 hl (by decide) rfl (fun ls hl => ?_)
        refine mo_join (P := fun y2 => x1 ≤ y2 ∧ y2 ≤ 200 ∧ (nd (cN v) : Int) + cX v ≤ y2) (g := fun y2 => F0 m 70 ls ([.int (iN (y2))])) (fun y2 hy2 => ?_) (fun key => ?_)
        · refine lv_istore (lv' := [(6, .int (iN (y2))), (5, .int (iN (y))), (4, .int (iN (x1))), (0, .ref (ad 0)), (1, .int (iN (sc))), (2, .int (iN (ro))), (3, .int (iN ((many : Int))))]) hx hb d_Mo_round_70 hl (by decide) rfl (fun ls hl => ?_)
          refine fm_lconst0 S d_Mo_round_72 ?_
          refine lv_lstore (lv' := [(7, .long (jN (0))), (6, .int (iN (y2))), (5, .int (iN (y))), (4, .int (iN (x1))), (0, .ref (ad 0)), (1, .int (iN (sc))), (2, .int (iN (ro))), (3, .int (iN ((many : Int))))]) hx hb d_Mo_round_73 hl (by decide) rfl (fun ls hl => ?_)
          refine fm_lconst1 S d_Mo_round_75 ?_
          refine lv_lstore (lv' := [(9, .long (jN (1))), (7, .long (jN (0))), (6, .int (iN (y2))), (5, .int (iN (y))), (4, .int (iN (x1))), (0, .ref (ad 0)), (1, .int (iN (sc))), (2, .int (iN (ro))), (3, .int (iN ((many : Int))))]) hx hb d_Mo_round_76 hl (by decide) rfl (fun ls hl => ?_)
          refine lv_aload_n hx hb d_Mo_round_78 rfl (lv_at hl 5 rfl) ?_
          refine fm_iconst S d_Mo_round_79 ?_
          refine mo_putz S hK hm (by omega) k488 d_Mo_round_80 (fun V20 H locs eV20 hm => ?_)
          refine lv_iload hx hb d_Mo_round_83 (lv_at hl 4 rfl) ?_
          refine lv_istore (lv' := [(11, .int (iN (x1))), (9, .long (jN (1))), (7, .long (jN (0))), (6, .int (iN (y2))), (5, .int (iN (y))), (4, .int (iN (x1))), (0, .ref (ad 0)), (1, .int (iN (sc))), (2, .int (iN (ro))), (3, .int (iN ((many : Int))))]) hx hb d_Mo_round_85 hl (by decide) rfl (fun ls hl => ?_)
          obtain ⟨up, hup⟩ : ∃ up : Nat, rUp ro v sc = up := ⟨(rUp ro v sc).toNat, by omega⟩
          have hV1 : ∀ k, k ≠ 22 → V20 k = V k := fun k hk => by rw [eV20, uF_n hk]
          have hst : RnI (uW v sc) up many 0 y 0 1 (V20 22) := by
            rw [hy, hup, eV20, uF_s]
            exact RnI.start _ _ _ (by omega)
          refine L_round (Z := Z) S hK hZo hZ hA M V sc ro v y2 x1 many up hY hvv hsc (by omega) (by omega) hma (by omega) (fun V22 M21 P tn vv cy i H locs ls hM1 hVs hPi hc hl hm => ?_) ((y2 + 1 - x1).toNat + 1) V20 M x1 1 0 y 0 _ _ _ (by omega) (rfl) (hV1) (by omega) (hst) (lv_sub hl [0, 1, 2, 3, 4, 5, 6, 7, 8, 9] rfl) hm
          rw [hM1] at hm
          have hT : rW ro v sc = uW v sc + up := by unfold rW; rw [hup]; rfl
          have hWl : uW v sc < 10 ^ (i - 1) := uW_lt hsc (by omega)
          have hpw : 10 ^ i = 10 ^ (i - 1) * 10 := by rw [← Nat.pow_succ]; congr 1; omega
          have hTl : uW v sc + up < 10 ^ i := by omega
          have hvv2 : vv = ((rW ro v sc % 10 ^ 18 : Nat) : Int) := by
            rw [hT, hc.2.1]
            rcases (show i < 18 ∨ 18 ≤ i by omega) with h | h
            · rw [show min i 18 = i by omega, Nat.mod_eq_of_lt hTl, Nat.mod_eq_of_lt (Nat.lt_of_lt_of_le hTl (Nat.pow_le_pow_right (by decide) (by omega)))]
            · rw [show min i 18 = 18 by omega]
          have hlg : V22 22 = (if 10 ^ many ≤ rW ro v sc then 1 else 0) := by rw [hc.2.2.2, Nat.mod_eq_of_lt hTl, hT]
          refine lv_aload_n hx hb d_Mo_round_200 rfl (lv_at hl 6 rfl) ?_
          refine lv_aload_n hx hb d_Mo_round_201 rfl (lv_at hl 6 rfl) ?_
          refine mo_get 5 S hK hm (by decide) k471 rfl rfl d_Mo_round_202 ?_
          refine fm_iconst S d_Mo_round_205 ?_
          refine mo_iald 4 S hK hm (by decide) (by simp only [moLen]; omega) d_Mo_round_206 ?_
          have h49 := hY.2.2.1
          have h50 := sgn_in v
          have h51 : (0 < sgn v ↔ 0 < v) ∧ (sgn v < 0 ↔ v < 0) := by unfold sgn; (repeat' split) <;> omega
          refine fm_if_ge (tgt := 217) S (by omega) d_Mo_round_207 (by decide) (fun c23 => ?_) (fun c23 => ?_)
          · refine lv_lload hx hb d_Mo_round_217 (lv_at hl 2 rfl) ?_
            refine mo_putl S hK hm k487 d_Mo_round_219 (fun V24 H locs eV24 hm => ?_)
            refine fm_iconst S d_Mo_round_222 ?_
            refine mo_iret S hr hlocks hK hm d_Mo_round_223 ?_
            refine Or.inr ⟨rfl, hex, rfl, fun k h1 h2 => ?_, ?_, ?_⟩
            · rw [eV24, uF_n h1]; exact hVs k h2
            · rw [eV24, uF_n (by decide)]; exact hlg
            · rw [eV24, uF_s, ← hvv2]
              first | (rw [if_pos (by omega)]; omega) | (rw [if_neg (by omega)])
          · refine fm_lconst0 S d_Mo_round_210 ?_
            refine lv_lload hx hb d_Mo_round_211 (lv_at hl 2 rfl) ?_
            refine fm_lsub S d_Mo_round_213 ?_
            refine lv_goto (tgt := 219) hx hb d_Mo_round_214 (by decide) ?_
            refine mo_putl S hK hm k487 d_Mo_round_219 (fun V25 H locs eV25 hm => ?_)
            refine fm_iconst S d_Mo_round_222 ?_
            refine mo_iret S hr hlocks hK hm d_Mo_round_223 ?_
            refine Or.inr ⟨rfl, hex, rfl, fun k h1 h2 => ?_, ?_, ?_⟩
            · rw [eV25, uF_n h1]; exact hVs k h2
            · rw [eV25, uF_n (by decide)]; exact hlg
            · rw [eV25, uF_s, ← hvv2]
              first | (rw [if_pos (by omega)]; omega) | (rw [if_neg (by omega)])
        · refine lv_aload_n hx hb d_Mo_round_50 rfl (lv_at hl 2 rfl) ?_
          refine fm_iconst S d_Mo_round_51 ?_
          refine mo_pi (n := 1) (As := [.int (iN (4))]) (rest := []) S hK hZo hZ hA hm (fun μ sz hM => t_Mo_topOf l D cs Z hZo ad μ V M sz 4 hM (by omega)) (gV k591 k593 ks29 k6 k594) (by decide) (by decide +kernel) rfl hl.1 rfl (Nat.le_of_ble_eq_true rfl) ⟨Nat.le_of_ble_eq_true rfl, Nat.le_of_ble_eq_true rfl⟩ d_Mo_round_52 (fun x27 q26 => ?_)
          refine lv_iload hx hb d_Mo_round_55 (lv_at hl 1 rfl) ?_
          refine fm_icmp_ge (tgt := 65) S (by omega) (by omega) d_Mo_round_57 (by decide) (fun c28 => ?_) (fun c28 => ?_)
          · refine lv_aload_n hx hb d_Mo_round_65 rfl (lv_at hl 2 rfl) ?_
            refine fm_iconst S d_Mo_round_66 ?_
            refine mo_pi (n := 1) (As := [.int (iN (4))]) (rest := []) S hK hZo hZ hA hm (fun μ sz hM => t_Mo_topOf l D cs Z hZo ad μ V M sz 4 hM (by omega)) (gV k591 k593 ks29 k6 k594) (by decide) (by decide +kernel) rfl hl.1 rfl (Nat.le_of_ble_eq_true rfl) ⟨Nat.le_of_ble_eq_true rfl, Nat.le_of_ble_eq_true rfl⟩ d_Mo_round_67 (fun x30 q29 => ?_)
            exact key _ (by omega)
          · refine lv_iload hx hb d_Mo_round_60 (lv_at hl 1 rfl) ?_
            refine lv_goto (tgt := 70) hx hb d_Mo_round_62 (by decide) ?_
            exact key _ (by omega)
      · refine fm_if_eq (tgt := 47) S (by omega) d_Mo_round_40 (by decide) (fun c31 => ?_) (fun c31 => ?_)
        · refine fm_iconst S d_Mo_round_47 ?_
          exact key _ (by omega)
        · refine fm_iconst S d_Mo_round_43 ?_
          refine lv_goto (tgt := 48) hx hb d_Mo_round_44 (by decide) ?_
          exact key _ (by omega)
    · refine lv_aload_n hx hb d_Mo_round_20 rfl (lv_at hl 1 rfl) ?_
      refine mo_get 4 S hK hm (by decide) k470 rfl rfl d_Mo_round_21 ?_
      refine fm_iconst S d_Mo_round_24 ?_
      refine mo_iald 3 S hK hm (by decide) (by simp only [moLen]; omega) d_Mo_round_25 ?_
      refine lv_iload hx hb d_Mo_round_26 (lv_at hl 0 rfl) ?_
      refine fm_icmp_ge (tgt := 33) S (by omega) (by omega) d_Mo_round_28 (by decide) (fun c32 => ?_) (fun c32 => ?_)
      · have hex : ¬ (ro = 7 ∧ uR v sc ≠ 0) := by omega
        refine lv_aload_n hx hb d_Mo_round_33 rfl (lv_at hl 1 rfl) ?_
        refine lv_iload hx hb d_Mo_round_34 (lv_at hl 0 rfl) ?_
        refine lv_iload_n hx hb d_Mo_round_36 rfl (lv_at hl 3 rfl) ?_
        refine mo_pi (n := 2) (As := [.int (iN (x1)), .int (iN (ro))]) (rest := []) S hK hZo hZ hA hm (fun μ sz hM => t_Mo_goesUp l D cs Z hZo ad μ V M sz x1 ro v sc hM hY hvv hsc (by omega) (by omega)) (gV k667 k669 ks42 k6 k670) (by decide) (by decide +kernel) rfl hl.1 rfl (Nat.le_of_ble_eq_true rfl) ⟨Nat.le_of_ble_eq_true rfl, Nat.le_of_ble_eq_true rfl⟩ d_Mo_round_37 (fun x34 q33 => ?_)
        have hr01 := rUp_01 ro v sc
        refine mo_join (P := fun y => y = rUp ro v sc) (g := fun y => F0 m 48 ls ([.int (iN (y))])) (fun y hy => ?_) (fun key => ?_)
        · refine lv_istore (lv' := [(5, .int (iN (y))), (4, .int (iN (x1))), (0, .ref (ad 0)), (1, .int (iN (sc))), (2, .int (iN (ro))), (3, .int (iN ((many : Int))))]) hx hb d_Mo_round_48 hl (by decide) rfl (fun ls hl => ?_)
          refine mo_join (P := fun y2 => x1 ≤ y2 ∧ y2 ≤ 200 ∧ (nd (cN v) : Int) + cX v ≤ y2) (g := fun y2 => F0 m 70 ls ([.int (iN (y2))])) (fun y2 hy2 => ?_) (fun key => ?_)
          · refine lv_istore (lv' := [(6, .int (iN (y2))), (5, .int (iN (y))), (4, .int (iN (x1))), (0, .ref (ad 0)), (1, .int (iN (sc))), (2, .int (iN (ro))), (3, .int (iN ((many : Int))))]) hx hb d_Mo_round_70 hl (by decide) rfl (fun ls hl => ?_)
            refine fm_lconst0 S d_Mo_round_72 ?_
            refine lv_lstore (lv' := [(7, .long (jN (0))), (6, .int (iN (y2))), (5, .int (iN (y))), (4, .int (iN (x1))), (0, .ref (ad 0)), (1, .int (iN (sc))), (2, .int (iN (ro))), (3, .int (iN ((many : Int))))]) hx hb d_Mo_round_73 hl (by decide) rfl (fun ls hl => ?_)
            refine fm_lconst1 S d_Mo_round_75 ?_
            refine lv_lstore (lv' := [(9, .long (jN (1))), (7, .long (jN (0))), (6, .int (iN (y2))), (5, .int (iN (y))), (4, .int (iN (x1))), (0, .ref (ad 0)), (1, .int (iN (sc))), (2, .int (iN (ro))), (3, .int (iN ((many : Int))))]) hx hb d_Mo_round_76 hl (by decide) rfl (fun ls hl => ?_)
            refine lv_aload_n hx hb d_Mo_round_78 rfl (lv_at hl 5 rfl) ?_
            refine fm_iconst S d_Mo_round_79 ?_
            refine mo_putz S hK hm (by omega) k488 d_Mo_round_80 (fun V35 H locs eV35 hm => ?_)
            refine lv_iload hx hb d_Mo_round_83 (lv_at hl 4 rfl) ?_
            refine lv_istore (lv' := [(11, .int (iN (x1))), (9, .long (jN (1))), (7, .long (jN (0))), (6, .int (iN (y2))), (5, .int (iN (y))), (4, .int (iN (x1))), (0, .ref (ad 0)), (1, .int (iN (sc))), (2, .int (iN (ro))), (3, .int (iN ((many : Int))))]) hx hb d_Mo_round_85 hl (by decide) rfl (fun ls hl => ?_)
            obtain ⟨up, hup⟩ : ∃ up : Nat, rUp ro v sc = up := ⟨(rUp ro v sc).toNat, by omega⟩
            have hV1 : ∀ k, k ≠ 22 → V35 k = V k := fun k hk => by rw [eV35, uF_n hk]
            have hst : RnI (uW v sc) up many 0 y 0 1 (V35 22) := by
              rw [hy, hup, eV35, uF_s]
              exact RnI.start _ _ _ (by omega)
            refine L_round (Z := Z) S hK hZo hZ hA M V sc ro v y2 x1 many up hY hvv hsc (by omega) (by omega) hma (by omega) (fun V37 M36 P tn vv cy i H locs ls hM1 hVs hPi hc hl hm => ?_) ((y2 + 1 - x1).toNat + 1) V35 M x1 1 0 y 0 _ _ _ (by omega) (rfl) (hV1) (by omega) (hst) (lv_sub hl [0, 1, 2, 3, 4, 5, 6, 7, 8, 9] rfl) hm
            rw [hM1] at hm
            have hT : rW ro v sc = uW v sc + up := by unfold rW; rw [hup]; rfl
            have hWl : uW v sc < 10 ^ (i - 1) := uW_lt hsc (by omega)
            have hpw : 10 ^ i = 10 ^ (i - 1) * 10 := by rw [← Nat.pow_succ]; congr 1; omega
            have hTl : uW v sc + up < 10 ^ i := by omega
            have hvv2 : vv = ((rW ro v sc % 10 ^ 18 : Nat) : Int) := by
              rw [hT, hc.2.1]
              rcases (show i < 18 ∨ 18 ≤ i by omega) with h | h
              · rw [show min i 18 = i by omega, Nat.mod_eq_of_lt hTl, Nat.mod_eq_of_lt (Nat.lt_of_lt_of_le hTl (Nat.pow_le_pow_right (by decide) (by omega)))]
              · rw [show min i 18 = 18 by omega]
            have hlg : V37 22 = (if 10 ^ many ≤ rW ro v sc then 1 else 0) := by rw [hc.2.2.2, Nat.mod_eq_of_lt hTl, hT]
            refine lv_aload_n hx hb d_Mo_round_200 rfl (lv_at hl 6 rfl) ?_
            refine lv_aload_n hx hb d_Mo_round_201 rfl (lv_at hl 6 rfl) ?_
            refine mo_get 5 S hK hm (by decide) k471 rfl rfl d_Mo_round_202 ?_
            refine fm_iconst S d_Mo_round_205 ?_
            refine mo_iald 4 S hK hm (by decide) (by simp only [moLen]; omega) d_Mo_round_206 ?_
            have h49 := hY.2.2.1
            have h50 := sgn_in v
            have h51 : (0 < sgn v ↔ 0 < v) ∧ (sgn v < 0 ↔ v < 0) := by unfold sgn; (repeat' split) <;> omega
            refine fm_if_ge (tgt := 217) S (by omega) d_Mo_round_207 (by decide) (fun c38 => ?_) (fun c38 => ?_)
            · refine lv_lload hx hb d_Mo_round_217 (lv_at hl 2 rfl) ?_
              refine mo_putl S hK hm k487 d_Mo_round_219 (fun V39 H locs eV39 hm => ?_)
              refine fm_iconst S d_Mo_round_222 ?_
              refine mo_iret S hr hlocks hK hm d_Mo_round_223 ?_
              refine Or.inr ⟨rfl, hex, rfl, fun k h1 h2 => ?_, ?_, ?_⟩
              · rw [eV39, uF_n h1]; exact hVs k h2
              · rw [eV39, uF_n (by decide)]; exact hlg
              · rw [eV39, uF_s, ← hvv2]
                first | (rw [if_pos (by omega)]; omega) | (rw [if_neg (by omega)])
            · refine fm_lconst0 S d_Mo_round_210 ?_
              refine lv_lload hx hb d_Mo_round_211 (lv_at hl 2 rfl) ?_
              refine fm_lsub S d_Mo_round_213 ?_
              refine lv_goto (tgt := 219) hx hb d_Mo_round_214 (by decide) ?_
              refine mo_putl S hK hm k487 d_Mo_round_219 (fun V40 H locs eV40 hm => ?_)
              refine fm_iconst S d_Mo_round_222 ?_
              refine mo_iret S hr hlocks hK hm d_Mo_round_223 ?_
              refine Or.inr ⟨rfl, hex, rfl, fun k h1 h2 => ?_, ?_, ?_⟩
              · rw [eV40, uF_n h1]; exact hVs k h2
              · rw [eV40, uF_n (by decide)]; exact hlg
              · rw [eV40, uF_s, ← hvv2]
                first | (rw [if_pos (by omega)]; omega) | (rw [if_neg (by omega)])
          · refine lv_aload_n hx hb d_Mo_round_50 rfl (lv_at hl 2 rfl) ?_
            refine fm_iconst S d_Mo_round_51 ?_
            refine mo_pi (n := 1) (As := [.int (iN (4))]) (rest := []) S hK hZo hZ hA hm (fun μ sz hM => t_Mo_topOf l D cs Z hZo ad μ V M sz 4 hM (by omega)) (gV k591 k593 ks29 k6 k594) (by decide) (by decide +kernel) rfl hl.1 rfl (Nat.le_of_ble_eq_true rfl) ⟨Nat.le_of_ble_eq_true rfl, Nat.le_of_ble_eq_true rfl⟩ d_Mo_round_52 (fun x42 q41 => ?_)
            refine lv_iload hx hb d_Mo_round_55 (lv_at hl 1 rfl) ?_
            refine fm_icmp_ge (tgt := 65) S (by omega) (by omega) d_Mo_round_57 (by decide) (fun c43 => ?_) (fun c43 => ?_)
            · refine lv_aload_n hx hb d_Mo_round_65 rfl (lv_at hl 2 rfl) ?_
              refine fm_iconst S d_Mo_round_66 ?_
              refine mo_pi (n := 1) (As := [.int (iN (4))]) (rest := []) S hK hZo hZ hA hm (fun μ sz hM => t_Mo_topOf l D cs Z hZo ad μ V M sz 4 hM (by omega)) (gV k591 k593 ks29 k6 k594) (by decide) (by decide +kernel) rfl hl.1 rfl (Nat.le_of_ble_eq_true rfl) ⟨Nat.le_of_ble_eq_true rfl, Nat.le_of_ble_eq_true rfl⟩ d_Mo_round_67 (fun x45 q44 => ?_)
              exact key _ (by omega)
            · refine lv_iload hx hb d_Mo_round_60 (lv_at hl 1 rfl) ?_
              refine lv_goto (tgt := 70) hx hb d_Mo_round_62 (by decide) ?_
              exact key _ (by omega)
        · refine fm_if_eq (tgt := 47) S (by omega) d_Mo_round_40 (by decide) (fun c46 => ?_) (fun c46 => ?_)
          · refine fm_iconst S d_Mo_round_47 ?_
            exact key _ (by omega)
          · refine fm_iconst S d_Mo_round_43 ?_
            refine lv_goto (tgt := 48) hx hb d_Mo_round_44 (by decide) ?_
            exact key _ (by omega)
      · refine fm_iconst S d_Mo_round_31 ?_
        refine mo_iret S hr hlocks hK hm d_Mo_round_32 ?_
        exact Or.inl ⟨rfl, by omega, by omega, rfl, rfl⟩
