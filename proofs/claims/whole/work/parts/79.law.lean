set_option maxHeartbeats 4000000 in
set_option maxRecDepth 100000 in
/-- the law's loop, and its end -/
theorem law_loop {p : Program} {l : Launch} {e : Env} {s : State} {m : MethodId} {below : List Frame} {meth : Method} {c : Code} {D : va_G} {cs : Nat → ClassId} {A : Nat → Prop} (hfl : l.flags = pinnedFlags ++ [noTraceFlag]) (b L : Nat) (xs : Nat → Int32) (hL : L ≤ 2049) (S : CallFix p m c c_Lw_law 8 s #[Value.ref b] wA "ArithmeticFormsLaw") (hr : meth.sig.returnType = ret) (hlocks : meth.locks = false) (hK : va_K D clsA (tysA cs) s) (tT : Nat) (u0 sen : Value) (qS : Nat) (hZ : Zl b L xs tT u0 sen qS A s s.heap) (hA : ∀ q, s.heap.size ≤ q → A q) (hA2 : ∀ q, A q → s.heap.size ≤ q) (x : Nat) (ad : Nat → Nat) (ot : Nat) : ∀ (fu : Nat) (μ : fm_Mu) (σ : Sg) (i : Int) (t : Nat) (H : Heap) (locs : List Loc) (ls : Array Slot), (2100 : Int) - i < (fu : Int) → (i = 4 * (t : Int) + 1 ∧ t ≤ 513) → lwE cs μ x ad ot σ → lv_has ls 8 [(4, .int (iN i)), (3, .ref ot), (2, .ref (ad 0)), (1, .ref x), (0, .ref b)] → fm_W D clsA A s.heap μ H locs → W p l e room_1 s m #[Value.ref b] below meth c H locs (100 + 2 * t) (10000 + 9 * t) (lw_Z below #[Value.ref b] s) (F0 m 33 ls []) := by
  obtain ⟨hx, hb, hml, hown, hts⟩ := id S
  have hbA := hZ.2.2.2
  intro fu
  induction fu with
  | zero =>
    intro μ σ i t H locs ls hn hi hE hl hw
    exfalso; omega
  | succ fu ih =>
    intro μ σ i t H locs ls hn hi hE hl hw
    obtain ⟨kc, kn, kr, wd, lf, da, dl, ra, V, M, O, hS, hM, hI, hot⟩ := hE
    refine lv_iload hx hb d_Lw_law_33 (lv_at hl 0 rfl) ?_
    refine lv_aload_n hx hb d_Lw_law_35 rfl (lv_at hl 4 rfl) ?_
    refine sc_len S hZ.2.2.1 hbA hw d_Lw_law_36 ?_
    refine fm_iconst S d_Lw_law_37 ?_
    refine fm_isub S d_Lw_law_38 ?_
    refine fm_icmp_gt (tgt := 597) S (by omega) (by omega) d_Lw_law_39 (by decide) (fun c1 => ?_) (fun c1 => ?_)
    · refine fm_iconst S d_Lw_law_597 ?_
      refine W.widen (k := 601024) (n := 7293000) (by omega) (by omega) ?_
      refine W.forget (L := locs) (locs := []) (fun q hq => hA2 _ (hw.2.2.2 q hq)) ?_
      have e1 : iN 1 = 1 := by decide
      rw [e1]
      exact lw_ret hx hb hr hlocks d_Lw_law_598
    · refine lv_aload_n hx hb d_Lw_law_42 rfl (lv_at hl 4 rfl) ?_
      refine lv_iload hx hb d_Lw_law_43 (lv_at hl 0 rfl) ?_
      refine sc_ld S hZ.2.2.1 hbA hw (by omega) d_Lw_law_45 ?_
      refine fm_bipush S d_Lw_law_46 (by decide) ?_
      refine lv_iand hx hb d_Lw_law_48 ?_
      obtain ⟨r2, hr2, er2⟩ := iN_ex (iN (xi xs i) &&& iN 15)
      rw [er2]
      rcases (show r2 = 0 ∨ r2 = 1 ∨ r2 = 2 ∨ r2 = 3 ∨ r2 = 4 ∨ r2 = 5 ∨ r2 = 6 ∨ r2 = 7 ∨ r2 = 8 ∨ r2 = 9 ∨ r2 = 10 ∨ (r2 < 0 ∨ 10 < r2) by omega) with c3 | c3 | c3 | c3 | c3 | c3 | c3 | c3 | c3 | c3 | c3 | c3
      · refine lv_tableIn (tgt := 108) hx hb d_Lw_law_49 (by rw [iN_toInt (by omega)]; omega) (by rw [iN_toInt (by omega)]; omega) (by rw [iN_toInt (by omega), c3]; rfl) (by decide) ?_
        refine lv_aload_n hx hb d_Lw_law_108 rfl (lv_at hl 3 rfl) ?_
        refine lv_aload_n hx hb d_Lw_law_109 rfl (lv_at hl 4 rfl) ?_
        refine lv_iload hx hb d_Lw_law_110 (lv_at hl 0 rfl) ?_
        refine fm_iconst S d_Lw_law_112 ?_
        refine fm_iadd S d_Lw_law_113 ?_
        refine sc_ld S hZ.2.2.1 hbA hw (by omega) d_Lw_law_114 ?_
        refine fm_i2l S (xi_in _ _) d_Lw_law_115 ?_
        refine fm_bipush S d_Lw_law_116 (by decide) ?_
        refine lv_lshl hx hb d_Lw_law_118 rfl ?_
        refine lv_aload_n hx hb d_Lw_law_119 rfl (lv_at hl 4 rfl) ?_
        refine lv_iload hx hb d_Lw_law_120 (lv_at hl 0 rfl) ?_
        refine fm_iconst S d_Lw_law_122 ?_
        refine fm_iadd S d_Lw_law_123 ?_
        refine sc_ld S hZ.2.2.1 hbA hw (by omega) d_Lw_law_124 ?_
        refine fm_i2l S (xi_in _ _) d_Lw_law_125 ?_
        refine lv_ldc2 (v := jN 4294967295) hx hb hown (hts _ k691) d_Lw_law_126 ?_
        refine lv_land hx hb d_Lw_law_129 ?_
        refine lv_lor hx hb d_Lw_law_130 ?_
        rw [lgV_e]
        refine lv_aload_n hx hb d_Lw_law_131 rfl (lv_at hl 4 rfl) ?_
        refine lv_iload hx hb d_Lw_law_132 (lv_at hl 0 rfl) ?_
        refine fm_iconst S d_Lw_law_134 ?_
        refine fm_iadd S d_Lw_law_135 ?_
        refine sc_ld S hZ.2.2.1 hbA hw (by omega) d_Lw_law_136 ?_
        refine fm_calli (va_runV (As := [.long (jN ((lgV (xi xs (i + 1)) (xi xs (i + 2))))), .int (iN ((xi xs (i + 3))))]) (rest := []) S (t_AF_value l D cs (Zl b L xs tT u0 sen qS) (Zl_ok b L xs tT u0 sen qS) tT (fun _ _ _ h => h.1) μ _ x kc kn kr wd lf da dl ra σ (lgV (xi xs (i + 1)) (xi xs (i + 2))) (xi xs (i + 3)) hS (lgV_in _ _) (xi_in _ _)) (cwV 2 hts (gV k140 k141 k142 k1 k143) rfl rfl rfl (by decide +kernel) (by decide +kernel)) (fm_preV (Zl_ok b L xs tT u0 sen qS) hK hw hZ hA hS.cx rfl _) rfl rfl hl.1 rfl (lv_room (Nat.le_of_ble_eq_true rfl)) d_Lw_law_137 ⟨by show _ ≤ 601024; omega, by show _ ≤ 7293000; omega⟩) hw hA (fun z4 μ6 H locs q5 hw => ?_)
        obtain ⟨hzz4, ⟨dan7, dln7, ran7, hSn7⟩, hkpn7⟩ := q5
        have hMn7 := hM.kp hkpn7
        have hon7 := hkpn7 _ _ hot rfl
        refine lv_aload_n hx hb d_Lw_law_140 rfl (lv_at hl 2 rfl) ?_
        refine lv_aload_n hx hb d_Lw_law_141 rfl (lv_at hl 4 rfl) ?_
        refine lv_iload hx hb d_Lw_law_142 (lv_at hl 0 rfl) ?_
        refine fm_iconst S d_Lw_law_144 ?_
        refine fm_iadd S d_Lw_law_145 ?_
        refine sc_ld S hZ.2.2.1 hbA hw (by omega) d_Lw_law_146 ?_
        refine fm_i2l S (xi_in _ _) d_Lw_law_147 ?_
        refine fm_bipush S d_Lw_law_148 (by decide) ?_
        refine lv_lshl hx hb d_Lw_law_150 rfl ?_
        refine lv_aload_n hx hb d_Lw_law_151 rfl (lv_at hl 4 rfl) ?_
        refine lv_iload hx hb d_Lw_law_152 (lv_at hl 0 rfl) ?_
        refine fm_iconst S d_Lw_law_154 ?_
        refine fm_iadd S d_Lw_law_155 ?_
        refine sc_ld S hZ.2.2.1 hbA hw (by omega) d_Lw_law_156 ?_
        refine fm_i2l S (xi_in _ _) d_Lw_law_157 ?_
        refine lv_ldc2 (v := jN 4294967295) hx hb hown (hts _ k691) d_Lw_law_158 ?_
        refine lv_land hx hb d_Lw_law_161 ?_
        refine lv_lor hx hb d_Lw_law_162 ?_
        rw [lgV_e]
        refine lv_aload_n hx hb d_Lw_law_163 rfl (lv_at hl 4 rfl) ?_
        refine lv_iload hx hb d_Lw_law_164 (lv_at hl 0 rfl) ?_
        refine fm_iconst S d_Lw_law_166 ?_
        refine fm_iadd S d_Lw_law_167 ?_
        refine sc_ld S hZ.2.2.1 hbA hw (by omega) d_Lw_law_168 ?_
        refine fm_calli (va_runV (As := [.long (jN ((lgV (xi xs (i + 1)) (xi xs (i + 2))))), .int (iN ((xi xs (i + 3))))]) (rest := [.int (iN (z4))]) S (t_Mo_value l D cs (Zl b L xs tT u0 sen qS) (Zl_ok b L xs tT u0 sen qS) ad μ6 V M _ (lgV (xi xs (i + 1)) (xi xs (i + 2))) (xi xs (i + 3)) σ hMn7 (lgV_in _ _) (xi_in _ _) hI) (cwV 2 hts (gV k542 k543 k544 k6 k545) rfl rfl rfl (by decide +kernel) (by decide +kernel)) (fm_preV (Zl_ok b L xs tT u0 sen qS) hK hw hZ hA (show μ6 (ad 0) = some (oE 4 _) from hMn7.2.1) rfl _) rfl rfl hl.1 rfl (lv_room (Nat.le_of_ble_eq_true rfl)) d_Lw_law_169 ⟨by show _ ≤ 601024; omega, by show _ ≤ 7293000; omega⟩) hw hA (fun z8 μ10 H locs q9 hw => ?_)
        obtain ⟨Vn11, Mn11, ⟨hzz8, hIn11, hVn11⟩, hMn11, hOn11⟩ := q9
        have hSn11 := hSn7.fr (kpC_mo hMn7 hOn11)
        have hon11 := ot_mo hMn7 hOn11 hon7
        have hzz : z4 = z8 := hzz4.trans hzz8.symm
        rw [hzz]
        refine fm_icmp_same (tgt := 591) S d_Lw_law_172 (by decide) ?_
        refine W.widen (k := 100 + 2 * (t + 1)) (n := 10000 + 9 * (t + 1)) (by omega) (by omega) ?_
        refine lv_iinc (v := iN (i + 4)) (lv' := [(4, .int (iN ((i + 4)))), (3, .ref ot), (2, .ref (ad 0)), (1, .ref x), (0, .ref b)]) hx hb d_Lw_law_591 hl (k := 0) rfl (iN_add _ _) (by decide) rfl (fun ls hl => ?_)
        refine lv_goto (tgt := 33) hx hb d_Lw_law_594 (by decide) ?_
        exact ih μ10 (sp_value σ (lgV (xi xs (i + 1)) (xi xs (i + 2))) (xi xs (i + 3))).2 (i + 4) (t + 1) _ _ _ (by omega) (by omega) ⟨kc, kn, kr, wd, lf, dan7, dln7, ran7, Vn11, Mn11, _, hSn11, hMn11, hIn11, hon11⟩ (lv_sub hl [0, 1, 2, 3, 4] rfl) hw
      · refine lv_tableIn (tgt := 177) hx hb d_Lw_law_49 (by rw [iN_toInt (by omega)]; omega) (by rw [iN_toInt (by omega)]; omega) (by rw [iN_toInt (by omega), c3]; rfl) (by decide) ?_
        refine lv_aload_n hx hb d_Lw_law_177 rfl (lv_at hl 3 rfl) ?_
        refine lv_aload_n hx hb d_Lw_law_178 rfl (lv_at hl 4 rfl) ?_
        refine lv_iload hx hb d_Lw_law_179 (lv_at hl 0 rfl) ?_
        refine fm_iconst S d_Lw_law_181 ?_
        refine fm_iadd S d_Lw_law_182 ?_
        refine sc_ld S hZ.2.2.1 hbA hw (by omega) d_Lw_law_183 ?_
        refine lv_aload_n hx hb d_Lw_law_184 rfl (lv_at hl 4 rfl) ?_
        refine lv_iload hx hb d_Lw_law_185 (lv_at hl 0 rfl) ?_
        refine fm_iconst S d_Lw_law_187 ?_
        refine fm_iadd S d_Lw_law_188 ?_
        refine sc_ld S hZ.2.2.1 hbA hw (by omega) d_Lw_law_189 ?_
        refine lv_aload_n hx hb d_Lw_law_190 rfl (lv_at hl 4 rfl) ?_
        refine lv_iload hx hb d_Lw_law_191 (lv_at hl 0 rfl) ?_
        refine fm_iconst S d_Lw_law_193 ?_
        refine fm_iadd S d_Lw_law_194 ?_
        refine sc_ld S hZ.2.2.1 hbA hw (by omega) d_Lw_law_195 ?_
        refine fm_calli (va_runV (As := [.int (iN ((xi xs (i + 1)))), .int (iN ((xi xs (i + 2)))), .int (iN ((xi xs (i + 3))))]) (rest := []) S (t_AF_node l D cs (Zl b L xs tT u0 sen qS) (Zl_ok b L xs tT u0 sen qS) tT (fun _ _ _ h => h.1) μ _ x kc kn kr wd lf da dl ra σ (xi xs (i + 1)) (xi xs (i + 2)) (xi xs (i + 3)) hS (xi_in _ _) (xi_in _ _) (xi_in _ _)) (cwV 3 hts (gV k150 k151 k152 k1 k153) rfl rfl rfl (by decide +kernel) (by decide +kernel)) (fm_preV (Zl_ok b L xs tT u0 sen qS) hK hw hZ hA hS.cx rfl _) rfl rfl hl.1 rfl (lv_room (Nat.le_of_ble_eq_true rfl)) d_Lw_law_196 ⟨by show _ ≤ 601024; omega, by show _ ≤ 7293000; omega⟩) hw hA (fun z12 μ14 H locs q13 hw => ?_)
        obtain ⟨hzz12, ⟨dan15, dln15, ran15, hSn15⟩, hkpn15⟩ := q13
        have hMn15 := hM.kp hkpn15
        have hon15 := hkpn15 _ _ hot rfl
        refine lv_aload_n hx hb d_Lw_law_199 rfl (lv_at hl 2 rfl) ?_
        refine lv_aload_n hx hb d_Lw_law_200 rfl (lv_at hl 4 rfl) ?_
        refine lv_iload hx hb d_Lw_law_201 (lv_at hl 0 rfl) ?_
        refine fm_iconst S d_Lw_law_203 ?_
        refine fm_iadd S d_Lw_law_204 ?_
        refine sc_ld S hZ.2.2.1 hbA hw (by omega) d_Lw_law_205 ?_
        refine lv_aload_n hx hb d_Lw_law_206 rfl (lv_at hl 4 rfl) ?_
        refine lv_iload hx hb d_Lw_law_207 (lv_at hl 0 rfl) ?_
        refine fm_iconst S d_Lw_law_209 ?_
        refine fm_iadd S d_Lw_law_210 ?_
        refine sc_ld S hZ.2.2.1 hbA hw (by omega) d_Lw_law_211 ?_
        refine lv_aload_n hx hb d_Lw_law_212 rfl (lv_at hl 4 rfl) ?_
        refine lv_iload hx hb d_Lw_law_213 (lv_at hl 0 rfl) ?_
        refine fm_iconst S d_Lw_law_215 ?_
        refine fm_iadd S d_Lw_law_216 ?_
        refine sc_ld S hZ.2.2.1 hbA hw (by omega) d_Lw_law_217 ?_
        refine fm_calli (va_runV (As := [.int (iN ((xi xs (i + 1)))), .int (iN ((xi xs (i + 2)))), .int (iN ((xi xs (i + 3))))]) (rest := [.int (iN (z12))]) S (t_Mo_node l D cs (Zl b L xs tT u0 sen qS) (Zl_ok b L xs tT u0 sen qS) ad μ14 V M _ (xi xs (i + 1)) (xi xs (i + 2)) (xi xs (i + 3)) σ hMn15 (xi_in _ _) (xi_in _ _) (xi_in _ _) hI) (cwV 3 hts (gV k567 k568 k569 k6 k570) rfl rfl rfl (by decide +kernel) (by decide +kernel)) (fm_preV (Zl_ok b L xs tT u0 sen qS) hK hw hZ hA (show μ14 (ad 0) = some (oE 4 _) from hMn15.2.1) rfl _) rfl rfl hl.1 rfl (lv_room (Nat.le_of_ble_eq_true rfl)) d_Lw_law_218 ⟨by show _ ≤ 601024; omega, by show _ ≤ 7293000; omega⟩) hw hA (fun z16 μ18 H locs q17 hw => ?_)
        obtain ⟨Vn19, Mn19, ⟨hzz16, hIn19, hVn19⟩, hMn19, hOn19⟩ := q17
        have hSn19 := hSn15.fr (kpC_mo hMn15 hOn19)
        have hon19 := ot_mo hMn15 hOn19 hon15
        have hzz : z12 = z16 := hzz12.trans hzz16.symm
        rw [hzz]
        refine fm_icmp_same (tgt := 591) S d_Lw_law_221 (by decide) ?_
        refine W.widen (k := 100 + 2 * (t + 1)) (n := 10000 + 9 * (t + 1)) (by omega) (by omega) ?_
        refine lv_iinc (v := iN (i + 4)) (lv' := [(4, .int (iN ((i + 4)))), (3, .ref ot), (2, .ref (ad 0)), (1, .ref x), (0, .ref b)]) hx hb d_Lw_law_591 hl (k := 0) rfl (iN_add _ _) (by decide) rfl (fun ls hl => ?_)
        refine lv_goto (tgt := 33) hx hb d_Lw_law_594 (by decide) ?_
        exact ih μ18 (sp_node σ (xi xs (i + 1)) (xi xs (i + 2)) (xi xs (i + 3))).2 (i + 4) (t + 1) _ _ _ (by omega) (by omega) ⟨kc, kn, kr, wd, lf, dan15, dln15, ran15, Vn19, Mn19, _, hSn19, hMn19, hIn19, hon19⟩ (lv_sub hl [0, 1, 2, 3, 4] rfl) hw
      · refine lv_tableIn (tgt := 226) hx hb d_Lw_law_49 (by rw [iN_toInt (by omega)]; omega) (by rw [iN_toInt (by omega)]; omega) (by rw [iN_toInt (by omega), c3]; rfl) (by decide) ?_
        refine lv_aload_n hx hb d_Lw_law_226 rfl (lv_at hl 3 rfl) ?_
        refine lv_aload_n hx hb d_Lw_law_227 rfl (lv_at hl 4 rfl) ?_
        refine lv_iload hx hb d_Lw_law_228 (lv_at hl 0 rfl) ?_
        refine fm_iconst S d_Lw_law_230 ?_
        refine fm_iadd S d_Lw_law_231 ?_
        refine sc_ld S hZ.2.2.1 hbA hw (by omega) d_Lw_law_232 ?_
        refine lv_aload_n hx hb d_Lw_law_233 rfl (lv_at hl 4 rfl) ?_
        refine lv_iload hx hb d_Lw_law_234 (lv_at hl 0 rfl) ?_
        refine fm_iconst S d_Lw_law_236 ?_
        refine fm_iadd S d_Lw_law_237 ?_
        refine sc_ld S hZ.2.2.1 hbA hw (by omega) d_Lw_law_238 ?_
        refine lv_aload_n hx hb d_Lw_law_239 rfl (lv_at hl 4 rfl) ?_
        refine lv_iload hx hb d_Lw_law_240 (lv_at hl 0 rfl) ?_
        refine fm_iconst S d_Lw_law_242 ?_
        refine fm_iadd S d_Lw_law_243 ?_
        refine sc_ld S hZ.2.2.1 hbA hw (by omega) d_Lw_law_244 ?_
        refine fm_calli (va_runV (As := [.int (iN ((xi xs (i + 1)))), .int (iN ((xi xs (i + 2)))), .int (iN ((xi xs (i + 3))))]) (rest := []) S (t_AF_receiver l D cs (Zl b L xs tT u0 sen qS) (Zl_ok b L xs tT u0 sen qS) tT (fun _ _ _ h => h.1) μ _ x kc kn kr wd lf da dl ra σ (xi xs (i + 1)) (xi xs (i + 2)) (xi xs (i + 3)) hS (xi_in _ _) (xi_in _ _) (xi_in _ _)) (cwV 3 hts (gV k271 k272 k273 k1 k274) rfl rfl rfl (by decide +kernel) (by decide +kernel)) (fm_preV (Zl_ok b L xs tT u0 sen qS) hK hw hZ hA hS.cx rfl _) rfl rfl hl.1 rfl (lv_room (Nat.le_of_ble_eq_true rfl)) d_Lw_law_245 ⟨by show _ ≤ 601024; omega, by show _ ≤ 7293000; omega⟩) hw hA (fun z20 μ22 H locs q21 hw => ?_)
        obtain ⟨hzz20, ⟨dan23, dln23, ran23, hSn23⟩, hkpn23⟩ := q21
        have hMn23 := hM.kp hkpn23
        have hon23 := hkpn23 _ _ hot rfl
        refine lv_aload_n hx hb d_Lw_law_248 rfl (lv_at hl 2 rfl) ?_
        refine lv_aload_n hx hb d_Lw_law_249 rfl (lv_at hl 4 rfl) ?_
        refine lv_iload hx hb d_Lw_law_250 (lv_at hl 0 rfl) ?_
        refine fm_iconst S d_Lw_law_252 ?_
        refine fm_iadd S d_Lw_law_253 ?_
        refine sc_ld S hZ.2.2.1 hbA hw (by omega) d_Lw_law_254 ?_
        refine lv_aload_n hx hb d_Lw_law_255 rfl (lv_at hl 4 rfl) ?_
        refine lv_iload hx hb d_Lw_law_256 (lv_at hl 0 rfl) ?_
        refine fm_iconst S d_Lw_law_258 ?_
        refine fm_iadd S d_Lw_law_259 ?_
        refine sc_ld S hZ.2.2.1 hbA hw (by omega) d_Lw_law_260 ?_
        refine lv_aload_n hx hb d_Lw_law_261 rfl (lv_at hl 4 rfl) ?_
        refine lv_iload hx hb d_Lw_law_262 (lv_at hl 0 rfl) ?_
        refine fm_iconst S d_Lw_law_264 ?_
        refine fm_iadd S d_Lw_law_265 ?_
        refine sc_ld S hZ.2.2.1 hbA hw (by omega) d_Lw_law_266 ?_
        refine fm_calli (va_runV (As := [.int (iN ((xi xs (i + 1)))), .int (iN ((xi xs (i + 2)))), .int (iN ((xi xs (i + 3))))]) (rest := [.int (iN (z20))]) S (t_Mo_receiver l D cs (Zl b L xs tT u0 sen qS) (Zl_ok b L xs tT u0 sen qS) ad μ22 V M _ (xi xs (i + 1)) (xi xs (i + 2)) (xi xs (i + 3)) σ hMn23 (xi_in _ _) (xi_in _ _) (xi_in _ _) hI) (cwV 3 hts (gV k636 k637 k638 k6 k639) rfl rfl rfl (by decide +kernel) (by decide +kernel)) (fm_preV (Zl_ok b L xs tT u0 sen qS) hK hw hZ hA (show μ22 (ad 0) = some (oE 4 _) from hMn23.2.1) rfl _) rfl rfl hl.1 rfl (lv_room (Nat.le_of_ble_eq_true rfl)) d_Lw_law_267 ⟨by show _ ≤ 601024; omega, by show _ ≤ 7293000; omega⟩) hw hA (fun z24 μ26 H locs q25 hw => ?_)
        obtain ⟨Vn27, Mn27, ⟨hzz24, hIn27, hVn27⟩, hMn27, hOn27⟩ := q25
        have hSn27 := hSn23.fr (kpC_mo hMn23 hOn27)
        have hon27 := ot_mo hMn23 hOn27 hon23
        have hzz : z20 = z24 := hzz20.trans hzz24.symm
        rw [hzz]
        refine fm_icmp_same (tgt := 591) S d_Lw_law_270 (by decide) ?_
        refine W.widen (k := 100 + 2 * (t + 1)) (n := 10000 + 9 * (t + 1)) (by omega) (by omega) ?_
        refine lv_iinc (v := iN (i + 4)) (lv' := [(4, .int (iN ((i + 4)))), (3, .ref ot), (2, .ref (ad 0)), (1, .ref x), (0, .ref b)]) hx hb d_Lw_law_591 hl (k := 0) rfl (iN_add _ _) (by decide) rfl (fun ls hl => ?_)
        refine lv_goto (tgt := 33) hx hb d_Lw_law_594 (by decide) ?_
        exact ih μ26 (sp_receiver σ (xi xs (i + 1)) (xi xs (i + 2)) (xi xs (i + 3))).2 (i + 4) (t + 1) _ _ _ (by omega) (by omega) ⟨kc, kn, kr, wd, lf, dan23, dln23, ran23, Vn27, Mn27, _, hSn27, hMn27, hIn27, hon27⟩ (lv_sub hl [0, 1, 2, 3, 4] rfl) hw
      · refine lv_tableIn (tgt := 275) hx hb d_Lw_law_49 (by rw [iN_toInt (by omega)]; omega) (by rw [iN_toInt (by omega)]; omega) (by rw [iN_toInt (by omega), c3]; rfl) (by decide) ?_
        have hp3 := xi_in xs (i + 3)
        by_cases hp0 : xi xs (i + 3) = 0
        · refine lv_aload_n hx hb d_Lw_law_275 rfl (lv_at hl 3 rfl) ?_
          refine lv_aload_n hx hb d_Lw_law_276 rfl (lv_at hl 4 rfl) ?_
          refine lv_iload hx hb d_Lw_law_277 (lv_at hl 0 rfl) ?_
          refine fm_iconst S d_Lw_law_279 ?_
          refine fm_iadd S d_Lw_law_280 ?_
          refine sc_ld S hZ.2.2.1 hbA hw (by omega) d_Lw_law_281 ?_
          refine lv_aload_n hx hb d_Lw_law_282 rfl (lv_at hl 4 rfl) ?_
          refine lv_iload hx hb d_Lw_law_283 (lv_at hl 0 rfl) ?_
          refine fm_iconst S d_Lw_law_285 ?_
          refine fm_iadd S d_Lw_law_286 ?_
          refine sc_ld S hZ.2.2.1 hbA hw (by omega) d_Lw_law_287 ?_
          refine lv_aload_n hx hb d_Lw_law_288 rfl (lv_at hl 4 rfl) ?_
          refine lv_iload hx hb d_Lw_law_289 (lv_at hl 0 rfl) ?_
          refine fm_iconst S d_Lw_law_291 ?_
          refine fm_iadd S d_Lw_law_292 ?_
          refine sc_ld S hZ.2.2.1 hbA hw (by omega) d_Lw_law_293 ?_
          refine fm_if_eq (tgt := 301) S (by omega) d_Lw_law_294 (by decide) (fun c28 => ?_) (fun c28 => ?_)
          · refine fm_iconst S d_Lw_law_301 ?_
            refine fm_calli (va_runV (As := [.int (iN ((xi xs (i + 1)))), .int (iN ((xi xs (i + 2)))), .int (iN (0))]) (rest := []) S (t_AF_run l D cs (Zl b L xs tT u0 sen qS) (Zl_ok b L xs tT u0 sen qS) tT (fun _ _ _ h => h.1) μ _ x kc kn kr wd lf da dl ra σ (xi xs (i + 1)) (xi xs (i + 2)) 0 hS (xi_in _ _) (xi_in _ _) (Or.inl rfl)) (cwV 3 hts (gV k300 k301 k302 k1 k303) rfl rfl rfl (by decide +kernel) (by decide +kernel)) (fm_preV (Zl_ok b L xs tT u0 sen qS) hK hw hZ hA hS.cx rfl _) rfl rfl hl.1 rfl (lv_room (Nat.le_of_ble_eq_true rfl)) d_Lw_law_302 ⟨by show _ ≤ 601024; omega, by show _ ≤ 7293000; omega⟩) hw hA (fun z29 μ31 H locs q30 hw => ?_)
            obtain ⟨hzz29, ⟨dan32, dln32, ran32, hSn32⟩, hkpn32⟩ := q30
            have hMn32 := hM.kp hkpn32
            have hon32 := hkpn32 _ _ hot rfl
            refine lv_aload_n hx hb d_Lw_law_305 rfl (lv_at hl 2 rfl) ?_
            refine lv_aload_n hx hb d_Lw_law_306 rfl (lv_at hl 4 rfl) ?_
            refine lv_iload hx hb d_Lw_law_307 (lv_at hl 0 rfl) ?_
            refine fm_iconst S d_Lw_law_309 ?_
            refine fm_iadd S d_Lw_law_310 ?_
            refine sc_ld S hZ.2.2.1 hbA hw (by omega) d_Lw_law_311 ?_
            refine lv_aload_n hx hb d_Lw_law_312 rfl (lv_at hl 4 rfl) ?_
            refine lv_iload hx hb d_Lw_law_313 (lv_at hl 0 rfl) ?_
            refine fm_iconst S d_Lw_law_315 ?_
            refine fm_iadd S d_Lw_law_316 ?_
            refine sc_ld S hZ.2.2.1 hbA hw (by omega) d_Lw_law_317 ?_
            refine lv_aload_n hx hb d_Lw_law_318 rfl (lv_at hl 4 rfl) ?_
            refine lv_iload hx hb d_Lw_law_319 (lv_at hl 0 rfl) ?_
            refine fm_iconst S d_Lw_law_321 ?_
            refine fm_iadd S d_Lw_law_322 ?_
            refine sc_ld S hZ.2.2.1 hbA hw (by omega) d_Lw_law_323 ?_
            refine fm_if_eq (tgt := 331) S (by omega) d_Lw_law_324 (by decide) (fun c33 => ?_) (fun c33 => ?_)
            · refine fm_iconst S d_Lw_law_331 ?_
              refine fm_calli (va_runV (As := [.int (iN ((xi xs (i + 1)))), .int (iN ((xi xs (i + 2)))), .int (iN (0))]) (rest := [.int (iN (z29))]) S (t_Mo_run l D cs (Zl b L xs tT u0 sen qS) (Zl_ok b L xs tT u0 sen qS) ad μ31 V M _ (xi xs (i + 1)) (xi xs (i + 2)) 0 σ hMn32 (xi_in _ _) (xi_in _ _) (Or.inl rfl) hI) (cwV 3 hts (gV k651 k652 k653 k6 k654) rfl rfl rfl (by decide +kernel) (by decide +kernel)) (fm_preV (Zl_ok b L xs tT u0 sen qS) hK hw hZ hA (show μ31 (ad 0) = some (oE 4 _) from hMn32.2.1) rfl _) rfl rfl hl.1 rfl (lv_room (Nat.le_of_ble_eq_true rfl)) d_Lw_law_332 ⟨by show _ ≤ 601024; omega, by show _ ≤ 7293000; omega⟩) hw hA (fun z34 μ36 H locs q35 hw => ?_)
              obtain ⟨Vn37, Mn37, ⟨hzz34, hIn37, hVn37⟩, hMn37, hOn37⟩ := q35
              have hSn37 := hSn32.fr (kpC_mo hMn32 hOn37)
              have hon37 := ot_mo hMn32 hOn37 hon32
              have hzz : z29 = z34 := hzz29.trans hzz34.symm
              rw [hzz]
              refine fm_icmp_same (tgt := 591) S d_Lw_law_335 (by decide) ?_
              refine W.widen (k := 100 + 2 * (t + 1)) (n := 10000 + 9 * (t + 1)) (by omega) (by omega) ?_
              refine lv_iinc (v := iN (i + 4)) (lv' := [(4, .int (iN ((i + 4)))), (3, .ref ot), (2, .ref (ad 0)), (1, .ref x), (0, .ref b)]) hx hb d_Lw_law_591 hl (k := 0) rfl (iN_add _ _) (by decide) rfl (fun ls hl => ?_)
              refine lv_goto (tgt := 33) hx hb d_Lw_law_594 (by decide) ?_
              exact ih μ36 (sp_run σ (xi xs (i + 1)) (xi xs (i + 2)) 0).2 (i + 4) (t + 1) _ _ _ (by omega) (by omega) ⟨kc, kn, kr, wd, lf, dan32, dln32, ran32, Vn37, Mn37, _, hSn37, hMn37, hIn37, hon37⟩ (lv_sub hl [0, 1, 2, 3, 4] rfl) hw
            · exfalso; omega
          · exfalso; omega
        · refine lv_aload_n hx hb d_Lw_law_275 rfl (lv_at hl 3 rfl) ?_
          refine lv_aload_n hx hb d_Lw_law_276 rfl (lv_at hl 4 rfl) ?_
          refine lv_iload hx hb d_Lw_law_277 (lv_at hl 0 rfl) ?_
          refine fm_iconst S d_Lw_law_279 ?_
          refine fm_iadd S d_Lw_law_280 ?_
          refine sc_ld S hZ.2.2.1 hbA hw (by omega) d_Lw_law_281 ?_
          refine lv_aload_n hx hb d_Lw_law_282 rfl (lv_at hl 4 rfl) ?_
          refine lv_iload hx hb d_Lw_law_283 (lv_at hl 0 rfl) ?_
          refine fm_iconst S d_Lw_law_285 ?_
          refine fm_iadd S d_Lw_law_286 ?_
          refine sc_ld S hZ.2.2.1 hbA hw (by omega) d_Lw_law_287 ?_
          refine lv_aload_n hx hb d_Lw_law_288 rfl (lv_at hl 4 rfl) ?_
          refine lv_iload hx hb d_Lw_law_289 (lv_at hl 0 rfl) ?_
          refine fm_iconst S d_Lw_law_291 ?_
          refine fm_iadd S d_Lw_law_292 ?_
          refine sc_ld S hZ.2.2.1 hbA hw (by omega) d_Lw_law_293 ?_
          refine fm_if_eq (tgt := 301) S (by omega) d_Lw_law_294 (by decide) (fun c38 => ?_) (fun c38 => ?_)
          · exfalso; omega
          · refine fm_iconst S d_Lw_law_297 ?_
            refine lv_goto (tgt := 302) hx hb d_Lw_law_298 (by decide) ?_
            refine fm_calli (va_runV (As := [.int (iN ((xi xs (i + 1)))), .int (iN ((xi xs (i + 2)))), .int (iN (1))]) (rest := []) S (t_AF_run l D cs (Zl b L xs tT u0 sen qS) (Zl_ok b L xs tT u0 sen qS) tT (fun _ _ _ h => h.1) μ _ x kc kn kr wd lf da dl ra σ (xi xs (i + 1)) (xi xs (i + 2)) 1 hS (xi_in _ _) (xi_in _ _) (Or.inr rfl)) (cwV 3 hts (gV k300 k301 k302 k1 k303) rfl rfl rfl (by decide +kernel) (by decide +kernel)) (fm_preV (Zl_ok b L xs tT u0 sen qS) hK hw hZ hA hS.cx rfl _) rfl rfl hl.1 rfl (lv_room (Nat.le_of_ble_eq_true rfl)) d_Lw_law_302 ⟨by show _ ≤ 601024; omega, by show _ ≤ 7293000; omega⟩) hw hA (fun z39 μ41 H locs q40 hw => ?_)
            obtain ⟨hzz39, ⟨dan42, dln42, ran42, hSn42⟩, hkpn42⟩ := q40
            have hMn42 := hM.kp hkpn42
            have hon42 := hkpn42 _ _ hot rfl
            refine lv_aload_n hx hb d_Lw_law_305 rfl (lv_at hl 2 rfl) ?_
            refine lv_aload_n hx hb d_Lw_law_306 rfl (lv_at hl 4 rfl) ?_
            refine lv_iload hx hb d_Lw_law_307 (lv_at hl 0 rfl) ?_
            refine fm_iconst S d_Lw_law_309 ?_
            refine fm_iadd S d_Lw_law_310 ?_
            refine sc_ld S hZ.2.2.1 hbA hw (by omega) d_Lw_law_311 ?_
            refine lv_aload_n hx hb d_Lw_law_312 rfl (lv_at hl 4 rfl) ?_
            refine lv_iload hx hb d_Lw_law_313 (lv_at hl 0 rfl) ?_
            refine fm_iconst S d_Lw_law_315 ?_
            refine fm_iadd S d_Lw_law_316 ?_
            refine sc_ld S hZ.2.2.1 hbA hw (by omega) d_Lw_law_317 ?_
            refine lv_aload_n hx hb d_Lw_law_318 rfl (lv_at hl 4 rfl) ?_
            refine lv_iload hx hb d_Lw_law_319 (lv_at hl 0 rfl) ?_
            refine fm_iconst S d_Lw_law_321 ?_
            refine fm_iadd S d_Lw_law_322 ?_
            refine sc_ld S hZ.2.2.1 hbA hw (by omega) d_Lw_law_323 ?_
            refine fm_if_eq (tgt := 331) S (by omega) d_Lw_law_324 (by decide) (fun c43 => ?_) (fun c43 => ?_)
            · exfalso; omega
            · refine fm_iconst S d_Lw_law_327 ?_
              refine lv_goto (tgt := 332) hx hb d_Lw_law_328 (by decide) ?_
              refine fm_calli (va_runV (As := [.int (iN ((xi xs (i + 1)))), .int (iN ((xi xs (i + 2)))), .int (iN (1))]) (rest := [.int (iN (z39))]) S (t_Mo_run l D cs (Zl b L xs tT u0 sen qS) (Zl_ok b L xs tT u0 sen qS) ad μ41 V M _ (xi xs (i + 1)) (xi xs (i + 2)) 1 σ hMn42 (xi_in _ _) (xi_in _ _) (Or.inr rfl) hI) (cwV 3 hts (gV k651 k652 k653 k6 k654) rfl rfl rfl (by decide +kernel) (by decide +kernel)) (fm_preV (Zl_ok b L xs tT u0 sen qS) hK hw hZ hA (show μ41 (ad 0) = some (oE 4 _) from hMn42.2.1) rfl _) rfl rfl hl.1 rfl (lv_room (Nat.le_of_ble_eq_true rfl)) d_Lw_law_332 ⟨by show _ ≤ 601024; omega, by show _ ≤ 7293000; omega⟩) hw hA (fun z44 μ46 H locs q45 hw => ?_)
              obtain ⟨Vn47, Mn47, ⟨hzz44, hIn47, hVn47⟩, hMn47, hOn47⟩ := q45
              have hSn47 := hSn42.fr (kpC_mo hMn42 hOn47)
              have hon47 := ot_mo hMn42 hOn47 hon42
              have hzz : z39 = z44 := hzz39.trans hzz44.symm
              rw [hzz]
              refine fm_icmp_same (tgt := 591) S d_Lw_law_335 (by decide) ?_
              refine W.widen (k := 100 + 2 * (t + 1)) (n := 10000 + 9 * (t + 1)) (by omega) (by omega) ?_
              refine lv_iinc (v := iN (i + 4)) (lv' := [(4, .int (iN ((i + 4)))), (3, .ref ot), (2, .ref (ad 0)), (1, .ref x), (0, .ref b)]) hx hb d_Lw_law_591 hl (k := 0) rfl (iN_add _ _) (by decide) rfl (fun ls hl => ?_)
              refine lv_goto (tgt := 33) hx hb d_Lw_law_594 (by decide) ?_
              exact ih μ46 (sp_run σ (xi xs (i + 1)) (xi xs (i + 2)) 1).2 (i + 4) (t + 1) _ _ _ (by omega) (by omega) ⟨kc, kn, kr, wd, lf, dan42, dln42, ran42, Vn47, Mn47, _, hSn47, hMn47, hIn47, hon47⟩ (lv_sub hl [0, 1, 2, 3, 4] rfl) hw
      · refine lv_tableIn (tgt := 340) hx hb d_Lw_law_49 (by rw [iN_toInt (by omega)]; omega) (by rw [iN_toInt (by omega)]; omega) (by rw [iN_toInt (by omega), c3]; rfl) (by decide) ?_
        refine lv_aload_n hx hb d_Lw_law_340 rfl (lv_at hl 3 rfl) ?_
        refine lv_aload_n hx hb d_Lw_law_341 rfl (lv_at hl 4 rfl) ?_
        refine lv_iload hx hb d_Lw_law_342 (lv_at hl 0 rfl) ?_
        refine fm_iconst S d_Lw_law_344 ?_
        refine fm_iadd S d_Lw_law_345 ?_
        refine sc_ld S hZ.2.2.1 hbA hw (by omega) d_Lw_law_346 ?_
        refine fm_callSl (va_runV (As := [.int (iN ((xi xs (i + 1))))]) (rest := []) S (t_AF_stored l D cs (Zl b L xs tT u0 sen qS) (Zl_ok b L xs tT u0 sen qS) tT (fun _ _ _ h => h.1) μ _ x kc kn kr wd lf da dl ra σ (xi xs (i + 1)) hS (xi_in _ _)) (cwV 1 hts (gV k356 k357 k358 k1 k359) rfl rfl rfl (by decide +kernel) (by decide +kernel)) (fm_preV (Zl_ok b L xs tT u0 sen qS) hK hw hZ hA hS.cx rfl _) rfl rfl hl.1 rfl (lv_room (Nat.le_of_ble_eq_true rfl)) d_Lw_law_347 ⟨by show _ ≤ 601024; omega, by show _ ≤ 7293000; omega⟩) (fun z48 hzz48 => ?_)
        refine lv_aload_n hx hb d_Lw_law_350 rfl (lv_at hl 2 rfl) ?_
        refine lv_aload_n hx hb d_Lw_law_351 rfl (lv_at hl 4 rfl) ?_
        refine lv_iload hx hb d_Lw_law_352 (lv_at hl 0 rfl) ?_
        refine fm_iconst S d_Lw_law_354 ?_
        refine fm_iadd S d_Lw_law_355 ?_
        refine sc_ld S hZ.2.2.1 hbA hw (by omega) d_Lw_law_356 ?_
        refine fm_calll (va_runV (As := [.int (iN ((xi xs (i + 1))))]) (rest := [.long (jN (z48))]) S (t_Mo_stored l D cs (Zl b L xs tT u0 sen qS) (Zl_ok b L xs tT u0 sen qS) ad μ V M _ (xi xs (i + 1)) σ hM (xi_in _ _) hI) (cwV 1 hts (gV k675 k676 k677 k6 k678) rfl rfl rfl (by decide +kernel) (by decide +kernel)) (fm_preV (Zl_ok b L xs tT u0 sen qS) hK hw hZ hA (show μ (ad 0) = some (oE 4 _) from hM.2.1) rfl _) rfl rfl hl.1 rfl (lv_room (Nat.le_of_ble_eq_true rfl)) d_Lw_law_357 ⟨by show _ ≤ 601024; omega, by show _ ≤ 7293000; omega⟩) hw hA (fun z50 μ52 H locs q51 hw => ?_)
        obtain ⟨Vn53, Mn53, ⟨hzz50, hIn53, hVn53⟩, hMn53, hOn53⟩ := q51
        have hSn53 := hS.fr (kpC_mo hM hOn53)
        have hon53 := ot_mo hM hOn53 hot
        have hzz : z48 = z50 := hzz48.trans hzz50.symm
        rw [hzz]
        refine fm_lcmp_same S d_Lw_law_360 ?_
        refine fm_if_eq (tgt := 591) S (by omega) d_Lw_law_361 (by decide) (fun c54 => ?_) (fun c54 => ?_)
        · refine W.widen (k := 100 + 2 * (t + 1)) (n := 10000 + 9 * (t + 1)) (by omega) (by omega) ?_
          refine lv_iinc (v := iN (i + 4)) (lv' := [(4, .int (iN ((i + 4)))), (3, .ref ot), (2, .ref (ad 0)), (1, .ref x), (0, .ref b)]) hx hb d_Lw_law_591 hl (k := 0) rfl (iN_add _ _) (by decide) rfl (fun ls hl => ?_)
          refine lv_goto (tgt := 33) hx hb d_Lw_law_594 (by decide) ?_
          exact ih μ52 σ (i + 4) (t + 1) _ _ _ (by omega) (by omega) ⟨kc, kn, kr, wd, lf, da, dl, ra, Vn53, Mn53, _, hSn53, hMn53, hIn53, hon53⟩ (lv_sub hl [0, 1, 2, 3, 4] rfl) hw
        · exact absurd c54 (by decide)
      · refine lv_tableIn (tgt := 366) hx hb d_Lw_law_49 (by rw [iN_toInt (by omega)]; omega) (by rw [iN_toInt (by omega)]; omega) (by rw [iN_toInt (by omega), c3]; rfl) (by decide) ?_
        refine lv_aload_n hx hb d_Lw_law_366 rfl (lv_at hl 3 rfl) ?_
        refine lv_aload_n hx hb d_Lw_law_367 rfl (lv_at hl 4 rfl) ?_
        refine lv_iload hx hb d_Lw_law_368 (lv_at hl 0 rfl) ?_
        refine fm_iconst S d_Lw_law_370 ?_
        refine fm_iadd S d_Lw_law_371 ?_
        refine sc_ld S hZ.2.2.1 hbA hw (by omega) d_Lw_law_372 ?_
        refine lv_aload_n hx hb d_Lw_law_373 rfl (lv_at hl 4 rfl) ?_
        refine lv_iload hx hb d_Lw_law_374 (lv_at hl 0 rfl) ?_
        refine fm_iconst S d_Lw_law_376 ?_
        refine fm_iadd S d_Lw_law_377 ?_
        refine sc_ld S hZ.2.2.1 hbA hw (by omega) d_Lw_law_378 ?_
        refine fm_i2l S (xi_in _ _) d_Lw_law_379 ?_
        refine fm_bipush S d_Lw_law_380 (by decide) ?_
        refine lv_lshl hx hb d_Lw_law_382 rfl ?_
        refine lv_aload_n hx hb d_Lw_law_383 rfl (lv_at hl 4 rfl) ?_
        refine lv_iload hx hb d_Lw_law_384 (lv_at hl 0 rfl) ?_
        refine fm_iconst S d_Lw_law_386 ?_
        refine fm_iadd S d_Lw_law_387 ?_
        refine sc_ld S hZ.2.2.1 hbA hw (by omega) d_Lw_law_388 ?_
        refine fm_i2l S (xi_in _ _) d_Lw_law_389 ?_
        refine lv_ldc2 (v := jN 4294967295) hx hb hown (hts _ k691) d_Lw_law_390 ?_
        refine lv_land hx hb d_Lw_law_393 ?_
        refine lv_lor hx hb d_Lw_law_394 ?_
        rw [lgV_e]
        refine fm_calli (va_runV (As := [.int (iN ((xi xs (i + 1)))), .long (jN ((lgV (xi xs (i + 2)) (xi xs (i + 3)))))]) (rest := []) S (t_AF_set l D cs (Zl b L xs tT u0 sen qS) (Zl_ok b L xs tT u0 sen qS) tT (fun _ _ _ h => h.1) μ _ x kc kn kr wd lf da dl ra σ (xi xs (i + 1)) (lgV (xi xs (i + 2)) (xi xs (i + 3))) hS (xi_in _ _) (lgV_in _ _)) (cwV 2 hts (gV k360 k361 k362 k1 k363) rfl rfl rfl (by decide +kernel) (by decide +kernel)) (fm_preV (Zl_ok b L xs tT u0 sen qS) hK hw hZ hA hS.cx rfl _) rfl rfl hl.1 rfl (lv_room (Nat.le_of_ble_eq_true rfl)) d_Lw_law_395 ⟨by show _ ≤ 601024; omega, by show _ ≤ 7293000; omega⟩) hw hA (fun z55 μ57 H locs q56 hw => ?_)
        obtain ⟨hzz55, ⟨dan58, dln58, ran58, hSn58⟩, hkpn58⟩ := q56
        have hMn58 := hM.kp hkpn58
        have hon58 := hkpn58 _ _ hot rfl
        refine lv_aload_n hx hb d_Lw_law_398 rfl (lv_at hl 2 rfl) ?_
        refine lv_aload_n hx hb d_Lw_law_399 rfl (lv_at hl 4 rfl) ?_
        refine lv_iload hx hb d_Lw_law_400 (lv_at hl 0 rfl) ?_
        refine fm_iconst S d_Lw_law_402 ?_
        refine fm_iadd S d_Lw_law_403 ?_
        refine sc_ld S hZ.2.2.1 hbA hw (by omega) d_Lw_law_404 ?_
        refine lv_aload_n hx hb d_Lw_law_405 rfl (lv_at hl 4 rfl) ?_
        refine lv_iload hx hb d_Lw_law_406 (lv_at hl 0 rfl) ?_
        refine fm_iconst S d_Lw_law_408 ?_
        refine fm_iadd S d_Lw_law_409 ?_
        refine sc_ld S hZ.2.2.1 hbA hw (by omega) d_Lw_law_410 ?_
        refine fm_i2l S (xi_in _ _) d_Lw_law_411 ?_
        refine fm_bipush S d_Lw_law_412 (by decide) ?_
        refine lv_lshl hx hb d_Lw_law_414 rfl ?_
        refine lv_aload_n hx hb d_Lw_law_415 rfl (lv_at hl 4 rfl) ?_
        refine lv_iload hx hb d_Lw_law_416 (lv_at hl 0 rfl) ?_
        refine fm_iconst S d_Lw_law_418 ?_
        refine fm_iadd S d_Lw_law_419 ?_
        refine sc_ld S hZ.2.2.1 hbA hw (by omega) d_Lw_law_420 ?_
        refine fm_i2l S (xi_in _ _) d_Lw_law_421 ?_
        refine lv_ldc2 (v := jN 4294967295) hx hb hown (hts _ k691) d_Lw_law_422 ?_
        refine lv_land hx hb d_Lw_law_425 ?_
        refine lv_lor hx hb d_Lw_law_426 ?_
        rw [lgV_e]
        refine fm_calli (va_runV (As := [.int (iN ((xi xs (i + 1)))), .long (jN ((lgV (xi xs (i + 2)) (xi xs (i + 3)))))]) (rest := [.int (iN (z55))]) S (t_Mo_set l D cs (Zl b L xs tT u0 sen qS) (Zl_ok b L xs tT u0 sen qS) ad μ57 V M _ (xi xs (i + 1)) (lgV (xi xs (i + 2)) (xi xs (i + 3))) σ hMn58 (xi_in _ _) (lgV_in _ _) hI) (cwV 2 hts (gV k640 k641 k642 k6 k643) rfl rfl rfl (by decide +kernel) (by decide +kernel)) (fm_preV (Zl_ok b L xs tT u0 sen qS) hK hw hZ hA (show μ57 (ad 0) = some (oE 4 _) from hMn58.2.1) rfl _) rfl rfl hl.1 rfl (lv_room (Nat.le_of_ble_eq_true rfl)) d_Lw_law_427 ⟨by show _ ≤ 601024; omega, by show _ ≤ 7293000; omega⟩) hw hA (fun z59 μ61 H locs q60 hw => ?_)
        obtain ⟨Vn62, Mn62, ⟨hzz59, hIn62, hVn62⟩, hMn62, hOn62⟩ := q60
        have hSn62 := hSn58.fr (kpC_mo hMn58 hOn62)
        have hon62 := ot_mo hMn58 hOn62 hon58
        have hzz : z55 = z59 := hzz55.trans hzz59.symm
        rw [hzz]
        refine fm_icmp_same (tgt := 591) S d_Lw_law_430 (by decide) ?_
        refine W.widen (k := 100 + 2 * (t + 1)) (n := 10000 + 9 * (t + 1)) (by omega) (by omega) ?_
        refine lv_iinc (v := iN (i + 4)) (lv' := [(4, .int (iN ((i + 4)))), (3, .ref ot), (2, .ref (ad 0)), (1, .ref x), (0, .ref b)]) hx hb d_Lw_law_591 hl (k := 0) rfl (iN_add _ _) (by decide) rfl (fun ls hl => ?_)
        refine lv_goto (tgt := 33) hx hb d_Lw_law_594 (by decide) ?_
        exact ih μ61 (sp_set σ (xi xs (i + 1)) (lgV (xi xs (i + 2)) (xi xs (i + 3)))).2 (i + 4) (t + 1) _ _ _ (by omega) (by omega) ⟨kc, kn, kr, wd, lf, dan58, dln58, ran58, Vn62, Mn62, _, hSn62, hMn62, hIn62, hon62⟩ (lv_sub hl [0, 1, 2, 3, 4] rfl) hw
      · refine lv_tableIn (tgt := 435) hx hb d_Lw_law_49 (by rw [iN_toInt (by omega)]; omega) (by rw [iN_toInt (by omega)]; omega) (by rw [iN_toInt (by omega), c3]; rfl) (by decide) ?_
        refine lv_aload_n hx hb d_Lw_law_435 rfl (lv_at hl 3 rfl) ?_
        refine lv_aload_n hx hb d_Lw_law_436 rfl (lv_at hl 4 rfl) ?_
        refine lv_iload hx hb d_Lw_law_437 (lv_at hl 0 rfl) ?_
        refine fm_iconst S d_Lw_law_439 ?_
        refine fm_iadd S d_Lw_law_440 ?_
        refine sc_ld S hZ.2.2.1 hbA hw (by omega) d_Lw_law_441 ?_
        refine fm_callSi (va_runV (As := [.int (iN ((xi xs (i + 1))))]) (rest := []) S (t_AF_error l D cs (Zl b L xs tT u0 sen qS) (Zl_ok b L xs tT u0 sen qS) tT (fun _ _ _ h => h.1) μ _ x kc kn kr wd lf da dl ra σ (xi xs (i + 1)) hS (xi_in _ _)) (cwV 1 hts (gV k364 k365 k366 k1 k367) rfl rfl rfl (by decide +kernel) (by decide +kernel)) (fm_preV (Zl_ok b L xs tT u0 sen qS) hK hw hZ hA hS.cx rfl _) rfl rfl hl.1 rfl (lv_room (Nat.le_of_ble_eq_true rfl)) d_Lw_law_442 ⟨by show _ ≤ 601024; omega, by show _ ≤ 7293000; omega⟩) (fun z63 hzz63 => ?_)
        refine lv_aload_n hx hb d_Lw_law_445 rfl (lv_at hl 2 rfl) ?_
        refine lv_aload_n hx hb d_Lw_law_446 rfl (lv_at hl 4 rfl) ?_
        refine lv_iload hx hb d_Lw_law_447 (lv_at hl 0 rfl) ?_
        refine fm_iconst S d_Lw_law_449 ?_
        refine fm_iadd S d_Lw_law_450 ?_
        refine sc_ld S hZ.2.2.1 hbA hw (by omega) d_Lw_law_451 ?_
        refine fm_calli (va_runV (As := [.int (iN ((xi xs (i + 1))))]) (rest := [.int (iN (z63))]) S (t_Mo_error l D cs (Zl b L xs tT u0 sen qS) (Zl_ok b L xs tT u0 sen qS) ad μ V M _ (xi xs (i + 1)) σ hM (xi_in _ _) hI) (cwV 1 hts (gV k679 k680 k681 k6 k682) rfl rfl rfl (by decide +kernel) (by decide +kernel)) (fm_preV (Zl_ok b L xs tT u0 sen qS) hK hw hZ hA (show μ (ad 0) = some (oE 4 _) from hM.2.1) rfl _) rfl rfl hl.1 rfl (lv_room (Nat.le_of_ble_eq_true rfl)) d_Lw_law_452 ⟨by show _ ≤ 601024; omega, by show _ ≤ 7293000; omega⟩) hw hA (fun z65 μ67 H locs q66 hw => ?_)
        obtain ⟨Vn68, Mn68, ⟨hzz65, hIn68, hVn68⟩, hMn68, hOn68⟩ := q66
        have hSn68 := hS.fr (kpC_mo hM hOn68)
        have hon68 := ot_mo hM hOn68 hot
        have hzz : z63 = z65 := hzz63.trans hzz65.symm
        rw [hzz]
        refine fm_icmp_same (tgt := 591) S d_Lw_law_455 (by decide) ?_
        refine W.widen (k := 100 + 2 * (t + 1)) (n := 10000 + 9 * (t + 1)) (by omega) (by omega) ?_
        refine lv_iinc (v := iN (i + 4)) (lv' := [(4, .int (iN ((i + 4)))), (3, .ref ot), (2, .ref (ad 0)), (1, .ref x), (0, .ref b)]) hx hb d_Lw_law_591 hl (k := 0) rfl (iN_add _ _) (by decide) rfl (fun ls hl => ?_)
        refine lv_goto (tgt := 33) hx hb d_Lw_law_594 (by decide) ?_
        exact ih μ67 σ (i + 4) (t + 1) _ _ _ (by omega) (by omega) ⟨kc, kn, kr, wd, lf, da, dl, ra, Vn68, Mn68, _, hSn68, hMn68, hIn68, hon68⟩ (lv_sub hl [0, 1, 2, 3, 4] rfl) hw
      · refine lv_tableIn (tgt := 460) hx hb d_Lw_law_49 (by rw [iN_toInt (by omega)]; omega) (by rw [iN_toInt (by omega)]; omega) (by rw [iN_toInt (by omega), c3]; rfl) (by decide) ?_
        refine lv_aload_n hx hb d_Lw_law_460 rfl (lv_at hl 3 rfl) ?_
        refine lv_aload_n hx hb d_Lw_law_461 rfl (lv_at hl 4 rfl) ?_
        refine lv_iload hx hb d_Lw_law_462 (lv_at hl 0 rfl) ?_
        refine fm_iconst S d_Lw_law_464 ?_
        refine fm_iadd S d_Lw_law_465 ?_
        refine sc_ld S hZ.2.2.1 hbA hw (by omega) d_Lw_law_466 ?_
        refine fm_callSl (va_runV (As := [.int (iN ((xi xs (i + 1))))]) (rest := []) S (t_AF_rest l D cs (Zl b L xs tT u0 sen qS) (Zl_ok b L xs tT u0 sen qS) tT (fun _ _ _ h => h.1) μ _ x kc kn kr wd lf da dl ra σ (xi xs (i + 1)) hS (xi_in _ _)) (cwV 1 hts (gV k368 k369 k370 k1 k371) rfl rfl rfl (by decide +kernel) (by decide +kernel)) (fm_preV (Zl_ok b L xs tT u0 sen qS) hK hw hZ hA hS.cx rfl _) rfl rfl hl.1 rfl (lv_room (Nat.le_of_ble_eq_true rfl)) d_Lw_law_467 ⟨by show _ ≤ 601024; omega, by show _ ≤ 7293000; omega⟩) (fun z69 hzz69 => ?_)
        refine lv_aload_n hx hb d_Lw_law_470 rfl (lv_at hl 2 rfl) ?_
        refine lv_aload_n hx hb d_Lw_law_471 rfl (lv_at hl 4 rfl) ?_
        refine lv_iload hx hb d_Lw_law_472 (lv_at hl 0 rfl) ?_
        refine fm_iconst S d_Lw_law_474 ?_
        refine fm_iadd S d_Lw_law_475 ?_
        refine sc_ld S hZ.2.2.1 hbA hw (by omega) d_Lw_law_476 ?_
        refine fm_calll (va_runV (As := [.int (iN ((xi xs (i + 1))))]) (rest := [.long (jN (z69))]) S (t_Mo_rest l D cs (Zl b L xs tT u0 sen qS) (Zl_ok b L xs tT u0 sen qS) ad μ V M _ (xi xs (i + 1)) σ hM (xi_in _ _) hI) (cwV 1 hts (gV k683 k684 k685 k6 k686) rfl rfl rfl (by decide +kernel) (by decide +kernel)) (fm_preV (Zl_ok b L xs tT u0 sen qS) hK hw hZ hA (show μ (ad 0) = some (oE 4 _) from hM.2.1) rfl _) rfl rfl hl.1 rfl (lv_room (Nat.le_of_ble_eq_true rfl)) d_Lw_law_477 ⟨by show _ ≤ 601024; omega, by show _ ≤ 7293000; omega⟩) hw hA (fun z71 μ73 H locs q72 hw => ?_)
        obtain ⟨Vn74, Mn74, ⟨hzz71, hIn74, hVn74⟩, hMn74, hOn74⟩ := q72
        have hSn74 := hS.fr (kpC_mo hM hOn74)
        have hon74 := ot_mo hM hOn74 hot
        have hzz : z69 = z71 := hzz69.trans hzz71.symm
        rw [hzz]
        refine fm_lcmp_same S d_Lw_law_480 ?_
        refine fm_if_eq (tgt := 591) S (by omega) d_Lw_law_481 (by decide) (fun c75 => ?_) (fun c75 => ?_)
        · refine W.widen (k := 100 + 2 * (t + 1)) (n := 10000 + 9 * (t + 1)) (by omega) (by omega) ?_
          refine lv_iinc (v := iN (i + 4)) (lv' := [(4, .int (iN ((i + 4)))), (3, .ref ot), (2, .ref (ad 0)), (1, .ref x), (0, .ref b)]) hx hb d_Lw_law_591 hl (k := 0) rfl (iN_add _ _) (by decide) rfl (fun ls hl => ?_)
          refine lv_goto (tgt := 33) hx hb d_Lw_law_594 (by decide) ?_
          exact ih μ73 σ (i + 4) (t + 1) _ _ _ (by omega) (by omega) ⟨kc, kn, kr, wd, lf, da, dl, ra, Vn74, Mn74, _, hSn74, hMn74, hIn74, hon74⟩ (lv_sub hl [0, 1, 2, 3, 4] rfl) hw
        · exact absurd c75 (by decide)
      · refine lv_tableIn (tgt := 486) hx hb d_Lw_law_49 (by rw [iN_toInt (by omega)]; omega) (by rw [iN_toInt (by omega)]; omega) (by rw [iN_toInt (by omega), c3]; rfl) (by decide) ?_
        refine lv_aload_n hx hb d_Lw_law_486 rfl (lv_at hl 3 rfl) ?_
        refine lv_aload_n hx hb d_Lw_law_487 rfl (lv_at hl 4 rfl) ?_
        refine lv_iload hx hb d_Lw_law_488 (lv_at hl 0 rfl) ?_
        refine fm_iconst S d_Lw_law_490 ?_
        refine fm_iadd S d_Lw_law_491 ?_
        refine sc_ld S hZ.2.2.1 hbA hw (by omega) d_Lw_law_492 ?_
        refine lv_aload_n hx hb d_Lw_law_493 rfl (lv_at hl 4 rfl) ?_
        refine lv_iload hx hb d_Lw_law_494 (lv_at hl 0 rfl) ?_
        refine fm_iconst S d_Lw_law_496 ?_
        refine fm_iadd S d_Lw_law_497 ?_
        refine sc_ld S hZ.2.2.1 hbA hw (by omega) d_Lw_law_498 ?_
        refine lv_aload_n hx hb d_Lw_law_499 rfl (lv_at hl 1 rfl) ?_
        refine fm_calli (cl_runSW (n := 4) (As := [.ref x, .int (iN ((xi xs (i + 1)))), .int (iN ((xi xs (i + 2)))), .ref ot]) (rest := []) S (t_Lw_exact l D cs (Zl b L xs tT u0 sen qS) (Zl_ok b L xs tT u0 sen qS) tT (fun _ _ _ h => h.1) u0 sen qS (fun _ _ _ h => h.2.1) hfl μ _ x kc kn kr wd lf da dl ra σ (xi xs (i + 1)) (xi xs (i + 2)) ot O hS (xi_in _ _) (xi_in _ _) hot) k385 k383 k384 k0 rfl rfl ⟨by decide +kernel, by decide +kernel⟩ (by decide +kernel) (fm_pre (Zl_ok b L xs tT u0 sen qS) hK hw hZ hA _) rfl rfl hl.1 rfl (lv_room (Nat.le_of_ble_eq_true rfl)) d_Lw_law_500 ⟨by show _ ≤ 601024; omega, by show _ ≤ 7293000; omega⟩) hw hA (fun z76 μ78 H locs q77 hw => ?_)
        rcases q77 with ⟨hs0, hz9, O9, hq9, hOv, hO9⟩ | ⟨hs1, hz9, hmu⟩
        · subst hz9
          have hS9 := hS.fr (kpC_ot hot hO9)
          have hM9 := hM.ot hot hO9
          refine lv_istore (lv' := [(5, .int (iN (0))), (4, .int (iN (i))), (3, .ref ot), (2, .ref (ad 0)), (1, .ref x), (0, .ref b)]) hx hb d_Lw_law_503 hl (by decide) rfl (fun ls hl => ?_)
          refine lv_aload_n hx hb d_Lw_law_505 rfl (lv_at hl 3 rfl) ?_
          refine lv_aload_n hx hb d_Lw_law_506 rfl (lv_at hl 5 rfl) ?_
          refine lv_iload hx hb d_Lw_law_507 (lv_at hl 1 rfl) ?_
          refine fm_iconst S d_Lw_law_509 ?_
          refine fm_iadd S d_Lw_law_510 ?_
          refine sc_ld S hZ.2.2.1 hbA hw (by omega) d_Lw_law_511 ?_
          refine lv_aload_n hx hb d_Lw_law_512 rfl (lv_at hl 5 rfl) ?_
          refine lv_iload hx hb d_Lw_law_513 (lv_at hl 1 rfl) ?_
          refine fm_iconst S d_Lw_law_515 ?_
          refine fm_iadd S d_Lw_law_516 ?_
          refine sc_ld S hZ.2.2.1 hbA hw (by omega) d_Lw_law_517 ?_
          refine fm_calll (va_runV (As := [.int (iN ((xi xs (i + 1)))), .int (iN ((xi xs (i + 2))))]) (rest := []) S (t_Mo_exact l D cs (Zl b L xs tT u0 sen qS) (Zl_ok b L xs tT u0 sen qS) ad μ78 V M _ (xi xs (i + 1)) (xi xs (i + 2)) σ hM9 (xi_in _ _) (xi_in _ _) hI) (cwV 2 hts (gV k631 k632 k633 k6 k634) rfl rfl rfl (by decide +kernel) (by decide +kernel)) (fm_preV (Zl_ok b L xs tT u0 sen qS) hK hw hZ hA (show μ78 (ad 0) = some (oE 4 _) from hM9.2.1) rfl _) rfl rfl hl.1 rfl (lv_room (Nat.le_of_ble_eq_true rfl)) d_Lw_law_518 ⟨by show _ ≤ 601024; omega, by show _ ≤ 7293000; omega⟩) hw hA (fun z80 μ82 H locs q81 hw => ?_)
          obtain ⟨Vn83, Mn83, ⟨hzz80, hIn83, hVn83⟩, hMn83, hOn83⟩ := q81
          have hSn83 := hS9.fr (kpC_mo hM9 hOn83)
          have hon83 := ot_mo hM9 hOn83 hq9
          refine lv_lstore (lv' := [(6, .long (jN (z80))), (5, .int (iN (0))), (4, .int (iN (i))), (3, .ref ot), (2, .ref (ad 0)), (1, .ref x), (0, .ref b)]) hx hb d_Lw_law_521 hl (by decide) rfl (fun ls hl => ?_)
          refine lv_aload_n hx hb d_Lw_law_523 rfl (lv_at hl 4 rfl) ?_
          refine fm_callSi (va_runV (As := []) (rest := []) S (t_Mo_thrown l D cs (Zl b L xs tT u0 sen qS) (Zl_ok b L xs tT u0 sen qS) ad μ82 Vn83 Mn83 _ hMn83) (cwV 0 hts (gV k538 k539 k540 k6 k541) rfl rfl rfl (by decide +kernel) (by decide +kernel)) (fm_preV (Zl_ok b L xs tT u0 sen qS) hK hw hZ hA (show μ82 (ad 0) = some (oE 4 _) from hMn83.2.1) rfl _) rfl rfl hl.1 rfl (lv_room (Nat.le_of_ble_eq_true rfl)) d_Lw_law_524 ⟨by show _ ≤ 601024; omega, by show _ ≤ 7293000; omega⟩) (fun z84 hzz84 => ?_)
          have hzt : z84 = 0 := by rw [hzz84, hVn83]; exact hs0
          subst hzt
          refine lv_iload hx hb d_Lw_law_527 (lv_at hl 1 rfl) ?_
          refine fm_icmp_eq (tgt := 534) S (by omega) (by omega) d_Lw_law_529 (by decide) (fun c86 => ?_) (fun c86 => ?_)
          · refine lv_iload hx hb d_Lw_law_534 (lv_at hl 1 rfl) ?_
            refine fm_if_ne (tgt := 550) S (by omega) d_Lw_law_536 (by decide) (fun c87 => ?_) (fun c87 => ?_)
            · exact absurd c87 (by decide)
            · refine lv_aload_n hx hb d_Lw_law_539 rfl (lv_at hl 3 rfl) ?_
              refine fm_iconst S d_Lw_law_540 ?_
              refine cl_lald S hK hw hon83 (by decide) d_Lw_law_541 ?_
              refine lv_lload hx hb d_Lw_law_542 (lv_at hl 0 rfl) ?_
              have hzz : (O9 0) = z80 := hOv.trans hzz80.symm
              rw [hzz]
              refine fm_lcmp_same S d_Lw_law_544 ?_
              refine fm_if_eq (tgt := 550) S (by omega) d_Lw_law_545 (by decide) (fun c88 => ?_) (fun c88 => ?_)
              · refine lv_goto (tgt := 591) hx hb d_Lw_law_550 (by decide) ?_
                refine W.widen (k := 100 + 2 * (t + 1)) (n := 10000 + 9 * (t + 1)) (by omega) (by omega) ?_
                refine lv_iinc (v := iN (i + 4)) (lv' := [(4, .int (iN ((i + 4)))), (6, .long (jN (z80))), (5, .int (iN (0))), (3, .ref ot), (2, .ref (ad 0)), (1, .ref x), (0, .ref b)]) hx hb d_Lw_law_591 hl (k := 2) rfl (iN_add _ _) (by decide) rfl (fun ls hl => ?_)
                refine lv_goto (tgt := 33) hx hb d_Lw_law_594 (by decide) ?_
                exact ih μ82 σ (i + 4) (t + 1) _ _ _ (by omega) (by omega) ⟨kc, kn, kr, wd, lf, da, dl, ra, Vn83, Mn83, _, hSn83, hMn83, hIn83, hon83⟩ (lv_sub hl [0, 3, 4, 5, 6] rfl) hw
              · exact absurd c88 (by decide)
          · exact absurd c86 (by decide)
        · subst hz9
          rw [hmu] at hw
          refine lv_istore (lv' := [(5, .int (iN (1))), (4, .int (iN (i))), (3, .ref ot), (2, .ref (ad 0)), (1, .ref x), (0, .ref b)]) hx hb d_Lw_law_503 hl (by decide) rfl (fun ls hl => ?_)
          refine lv_aload_n hx hb d_Lw_law_505 rfl (lv_at hl 3 rfl) ?_
          refine lv_aload_n hx hb d_Lw_law_506 rfl (lv_at hl 5 rfl) ?_
          refine lv_iload hx hb d_Lw_law_507 (lv_at hl 1 rfl) ?_
          refine fm_iconst S d_Lw_law_509 ?_
          refine fm_iadd S d_Lw_law_510 ?_
          refine sc_ld S hZ.2.2.1 hbA hw (by omega) d_Lw_law_511 ?_
          refine lv_aload_n hx hb d_Lw_law_512 rfl (lv_at hl 5 rfl) ?_
          refine lv_iload hx hb d_Lw_law_513 (lv_at hl 1 rfl) ?_
          refine fm_iconst S d_Lw_law_515 ?_
          refine fm_iadd S d_Lw_law_516 ?_
          refine sc_ld S hZ.2.2.1 hbA hw (by omega) d_Lw_law_517 ?_
          refine fm_calll (va_runV (As := [.int (iN ((xi xs (i + 1)))), .int (iN ((xi xs (i + 2))))]) (rest := []) S (t_Mo_exact l D cs (Zl b L xs tT u0 sen qS) (Zl_ok b L xs tT u0 sen qS) ad μ V M _ (xi xs (i + 1)) (xi xs (i + 2)) σ hM (xi_in _ _) (xi_in _ _) hI) (cwV 2 hts (gV k631 k632 k633 k6 k634) rfl rfl rfl (by decide +kernel) (by decide +kernel)) (fm_preV (Zl_ok b L xs tT u0 sen qS) hK hw hZ hA (show μ (ad 0) = some (oE 4 _) from hM.2.1) rfl _) rfl rfl hl.1 rfl (lv_room (Nat.le_of_ble_eq_true rfl)) d_Lw_law_518 ⟨by show _ ≤ 601024; omega, by show _ ≤ 7293000; omega⟩) hw hA (fun z89 μ91 H locs q90 hw => ?_)
          obtain ⟨Vn92, Mn92, ⟨hzz89, hIn92, hVn92⟩, hMn92, hOn92⟩ := q90
          have hSn92 := hS.fr (kpC_mo hM hOn92)
          have hon92 := ot_mo hM hOn92 hot
          refine lv_lstore (lv' := [(6, .long (jN (z89))), (5, .int (iN (1))), (4, .int (iN (i))), (3, .ref ot), (2, .ref (ad 0)), (1, .ref x), (0, .ref b)]) hx hb d_Lw_law_521 hl (by decide) rfl (fun ls hl => ?_)
          refine lv_aload_n hx hb d_Lw_law_523 rfl (lv_at hl 4 rfl) ?_
          refine fm_callSi (va_runV (As := []) (rest := []) S (t_Mo_thrown l D cs (Zl b L xs tT u0 sen qS) (Zl_ok b L xs tT u0 sen qS) ad μ91 Vn92 Mn92 _ hMn92) (cwV 0 hts (gV k538 k539 k540 k6 k541) rfl rfl rfl (by decide +kernel) (by decide +kernel)) (fm_preV (Zl_ok b L xs tT u0 sen qS) hK hw hZ hA (show μ91 (ad 0) = some (oE 4 _) from hMn92.2.1) rfl _) rfl rfl hl.1 rfl (lv_room (Nat.le_of_ble_eq_true rfl)) d_Lw_law_524 ⟨by show _ ≤ 601024; omega, by show _ ≤ 7293000; omega⟩) (fun z93 hzz93 => ?_)
          have hzt : z93 = 1 := by rw [hzz93, hVn92]; exact hs1
          subst hzt
          refine lv_iload hx hb d_Lw_law_527 (lv_at hl 1 rfl) ?_
          refine fm_icmp_eq (tgt := 534) S (by omega) (by omega) d_Lw_law_529 (by decide) (fun c95 => ?_) (fun c95 => ?_)
          · refine lv_iload hx hb d_Lw_law_534 (lv_at hl 1 rfl) ?_
            refine fm_if_ne (tgt := 550) S (by omega) d_Lw_law_536 (by decide) (fun c96 => ?_) (fun c96 => ?_)
            · refine lv_goto (tgt := 591) hx hb d_Lw_law_550 (by decide) ?_
              refine W.widen (k := 100 + 2 * (t + 1)) (n := 10000 + 9 * (t + 1)) (by omega) (by omega) ?_
              refine lv_iinc (v := iN (i + 4)) (lv' := [(4, .int (iN ((i + 4)))), (6, .long (jN (z89))), (5, .int (iN (1))), (3, .ref ot), (2, .ref (ad 0)), (1, .ref x), (0, .ref b)]) hx hb d_Lw_law_591 hl (k := 2) rfl (iN_add _ _) (by decide) rfl (fun ls hl => ?_)
              refine lv_goto (tgt := 33) hx hb d_Lw_law_594 (by decide) ?_
              exact ih μ91 σ (i + 4) (t + 1) _ _ _ (by omega) (by omega) ⟨kc, kn, kr, wd, lf, da, dl, ra, Vn92, Mn92, _, hSn92, hMn92, hIn92, hon92⟩ (lv_sub hl [0, 3, 4, 5, 6] rfl) hw
            · exact absurd c96 (by decide)
          · exact absurd c95 (by decide)
      · refine lv_tableIn (tgt := 553) hx hb d_Lw_law_49 (by rw [iN_toInt (by omega)]; omega) (by rw [iN_toInt (by omega)]; omega) (by rw [iN_toInt (by omega), c3]; rfl) (by decide) ?_
        refine lv_aload_n hx hb d_Lw_law_553 rfl (lv_at hl 3 rfl) ?_
        refine lv_aload_n hx hb d_Lw_law_554 rfl (lv_at hl 4 rfl) ?_
        refine lv_iload hx hb d_Lw_law_555 (lv_at hl 0 rfl) ?_
        refine fm_iconst S d_Lw_law_557 ?_
        refine fm_iadd S d_Lw_law_558 ?_
        refine sc_ld S hZ.2.2.1 hbA hw (by omega) d_Lw_law_559 ?_
        refine fm_callSi (va_runV (As := [.int (iN ((xi xs (i + 1))))]) (rest := []) S (t_AF_raises l D cs (Zl b L xs tT u0 sen qS) (Zl_ok b L xs tT u0 sen qS) tT (fun _ _ _ h => h.1) μ _ x kc kn kr wd lf da dl ra σ (xi xs (i + 1)) hS (xi_in _ _)) (cwV 1 hts (gV k372 k373 k374 k1 k375) rfl rfl rfl (by decide +kernel) (by decide +kernel)) (fm_preV (Zl_ok b L xs tT u0 sen qS) hK hw hZ hA hS.cx rfl _) rfl rfl hl.1 rfl (lv_room (Nat.le_of_ble_eq_true rfl)) d_Lw_law_560 ⟨by show _ ≤ 601024; omega, by show _ ≤ 7293000; omega⟩) (fun z97 hzz97 => ?_)
        refine lv_aload_n hx hb d_Lw_law_563 rfl (lv_at hl 2 rfl) ?_
        refine lv_aload_n hx hb d_Lw_law_564 rfl (lv_at hl 4 rfl) ?_
        refine lv_iload hx hb d_Lw_law_565 (lv_at hl 0 rfl) ?_
        refine fm_iconst S d_Lw_law_567 ?_
        refine fm_iadd S d_Lw_law_568 ?_
        refine sc_ld S hZ.2.2.1 hbA hw (by omega) d_Lw_law_569 ?_
        refine fm_calli (va_runV (As := [.int (iN ((xi xs (i + 1))))]) (rest := [.int (iN (z97))]) S (t_Mo_raises l D cs (Zl b L xs tT u0 sen qS) (Zl_ok b L xs tT u0 sen qS) ad μ V M _ (xi xs (i + 1)) σ hM (xi_in _ _) hI) (cwV 1 hts (gV k627 k628 k629 k6 k630) rfl rfl rfl (by decide +kernel) (by decide +kernel)) (fm_preV (Zl_ok b L xs tT u0 sen qS) hK hw hZ hA (show μ (ad 0) = some (oE 4 _) from hM.2.1) rfl _) rfl rfl hl.1 rfl (lv_room (Nat.le_of_ble_eq_true rfl)) d_Lw_law_570 ⟨by show _ ≤ 601024; omega, by show _ ≤ 7293000; omega⟩) hw hA (fun z99 μ101 H locs q100 hw => ?_)
        obtain ⟨Vn102, Mn102, ⟨hzz99, hIn102, hVn102⟩, hMn102, hOn102⟩ := q100
        have hSn102 := hS.fr (kpC_mo hM hOn102)
        have hon102 := ot_mo hM hOn102 hot
        have hzz : z97 = z99 := hzz97.trans hzz99.symm
        rw [hzz]
        refine fm_icmp_same (tgt := 591) S d_Lw_law_573 (by decide) ?_
        refine W.widen (k := 100 + 2 * (t + 1)) (n := 10000 + 9 * (t + 1)) (by omega) (by omega) ?_
        refine lv_iinc (v := iN (i + 4)) (lv' := [(4, .int (iN ((i + 4)))), (3, .ref ot), (2, .ref (ad 0)), (1, .ref x), (0, .ref b)]) hx hb d_Lw_law_591 hl (k := 0) rfl (iN_add _ _) (by decide) rfl (fun ls hl => ?_)
        refine lv_goto (tgt := 33) hx hb d_Lw_law_594 (by decide) ?_
        exact ih μ101 σ (i + 4) (t + 1) _ _ _ (by omega) (by omega) ⟨kc, kn, kr, wd, lf, da, dl, ra, Vn102, Mn102, _, hSn102, hMn102, hIn102, hon102⟩ (lv_sub hl [0, 1, 2, 3, 4] rfl) hw
      · refine lv_tableIn (tgt := 578) hx hb d_Lw_law_49 (by rw [iN_toInt (by omega)]; omega) (by rw [iN_toInt (by omega)]; omega) (by rw [iN_toInt (by omega), c3]; rfl) (by decide) ?_
        refine lv_aload_n hx hb d_Lw_law_578 rfl (lv_at hl 3 rfl) ?_
        refine fm_callSi (va_runV (As := []) (rest := []) S (t_AF_raised l D cs (Zl b L xs tT u0 sen qS) (Zl_ok b L xs tT u0 sen qS) tT (fun _ _ _ h => h.1) μ _ x kc kn kr wd lf da dl ra σ  hS ) (cwV 0 hts (gV k376 k377 k378 k1 k379) rfl rfl rfl (by decide +kernel) (by decide +kernel)) (fm_preV (Zl_ok b L xs tT u0 sen qS) hK hw hZ hA hS.cx rfl _) rfl rfl hl.1 rfl (lv_room (Nat.le_of_ble_eq_true rfl)) d_Lw_law_579 ⟨by show _ ≤ 601024; omega, by show _ ≤ 7293000; omega⟩) (fun z103 hzz103 => ?_)
        refine lv_aload_n hx hb d_Lw_law_582 rfl (lv_at hl 2 rfl) ?_
        refine fm_calli (va_runV (As := []) (rest := [.int (iN (z103))]) S (t_Mo_raised l D cs (Zl b L xs tT u0 sen qS) (Zl_ok b L xs tT u0 sen qS) ad μ V M _  σ hM  hI) (cwV 0 hts (gV k687 k688 k689 k6 k690) rfl rfl rfl (by decide +kernel) (by decide +kernel)) (fm_preV (Zl_ok b L xs tT u0 sen qS) hK hw hZ hA (show μ (ad 0) = some (oE 4 _) from hM.2.1) rfl _) rfl rfl hl.1 rfl (lv_room (Nat.le_of_ble_eq_true rfl)) d_Lw_law_583 ⟨by show _ ≤ 601024; omega, by show _ ≤ 7293000; omega⟩) hw hA (fun z105 μ107 H locs q106 hw => ?_)
        obtain ⟨Vn108, Mn108, ⟨hzz105, hIn108, hVn108⟩, hMn108, hOn108⟩ := q106
        have hSn108 := hS.fr (kpC_mo hM hOn108)
        have hon108 := ot_mo hM hOn108 hot
        have hzz : z103 = z105 := hzz103.trans hzz105.symm
        rw [hzz]
        refine fm_icmp_same (tgt := 591) S d_Lw_law_586 (by decide) ?_
        refine W.widen (k := 100 + 2 * (t + 1)) (n := 10000 + 9 * (t + 1)) (by omega) (by omega) ?_
        refine lv_iinc (v := iN (i + 4)) (lv' := [(4, .int (iN ((i + 4)))), (3, .ref ot), (2, .ref (ad 0)), (1, .ref x), (0, .ref b)]) hx hb d_Lw_law_591 hl (k := 0) rfl (iN_add _ _) (by decide) rfl (fun ls hl => ?_)
        refine lv_goto (tgt := 33) hx hb d_Lw_law_594 (by decide) ?_
        exact ih μ107 σ (i + 4) (t + 1) _ _ _ (by omega) (by omega) ⟨kc, kn, kr, wd, lf, da, dl, ra, Vn108, Mn108, _, hSn108, hMn108, hIn108, hon108⟩ (lv_sub hl [0, 1, 2, 3, 4] rfl) hw
      · refine lv_tableOut (tgt := 591) hx hb d_Lw_law_49 (by rw [iN_toInt (by omega)]; omega) (by decide) ?_
        refine W.widen (k := 100 + 2 * (t + 1)) (n := 10000 + 9 * (t + 1)) (by omega) (by omega) ?_
        refine lv_iinc (v := iN (i + 4)) (lv' := [(4, .int (iN ((i + 4)))), (3, .ref ot), (2, .ref (ad 0)), (1, .ref x), (0, .ref b)]) hx hb d_Lw_law_591 hl (k := 0) rfl (iN_add _ _) (by decide) rfl (fun ls hl => ?_)
        refine lv_goto (tgt := 33) hx hb d_Lw_law_594 (by decide) ?_
        exact ih μ σ (i + 4) (t + 1) _ _ _ (by omega) (by omega) ⟨kc, kn, kr, wd, lf, da, dl, ra, V, M, _, hS, hM, hI, hot⟩ (lv_sub hl [0, 1, 2, 3, 4] rfl) hw
