set_option maxHeartbeats 4000000 in
set_option maxRecDepth 100000 in
/-- L_add -/
theorem L_add {p : Program} {l : Launch} {e : Env} {s : State} {m : MethodId} {args : Array Value} {below : List Frame} {meth : Method} {c : Code} {Q : State → Prop} {D : va_G} {cs : Nat → ClassId} {Z : (Nat → Prop) → State → Heap → Prop} {ad : Nat → Nat} {μ0 : fm_Mu} {A : Nat → Prop}  (S : CallFix p m c c_Mo_add 10 s args wA "ArithmeticFormsModel") (hK : va_K D clsA (tysA cs) s) (hZo : fm_Zok Z) (hZ : Z A s s.heap) (hA : ∀ q, s.heap.size ≤ q → A q) (V : Nat → Int) (M0 : Nat → Int → Int) (low high sm big less : Int) (nB NB nL NL : Nat) (xB sB xL sL σ : Int) (hab : 0 ≤ big ∧ big < 2 ∧ 0 ≤ less ∧ less < 2) (hgB : Rg M0 big nB NB xB sB) (hgL : Rg M0 less nL NL xL sL) (hbd : nB ≤ 320 ∧ nL ≤ 320 ∧ low ≤ xB ∧ low ≤ xL ∧ -1000 ≤ low ∧ low ≤ high ∧ high ≤ 1000 ∧ xB ≤ 1000 ∧ xL ≤ 1000 ∧ high - low ≤ 320) (VB VL : Nat) (hVB : VB = NB * 10 ^ (xB - low).toNat) (hVL : VL = NL * 10 ^ (xL - low).toNat) (hsm : (sm = 1 ∧ σ = 1) ∨ (sm = 0 ∧ σ = -1)) (kk263 : ∀ (M : Nat → Int → Int) (P : Int) (cy : Int) (i : Nat) (H : Heap) (locs : List Loc) (ls : Array Slot), (P = high) → (P = low + i) → (AdI M0 M i cy σ VB VL) → lv_has ls 10 [(8, .int (iN (P))), (7, .int (iN (cy))), (0, .ref (ad 0)), (1, .int (iN (low))), (2, .int (iN (high))), (3, .int (iN (sm))), (5, .int (iN (big))), (6, .int (iN (less)))] → moW D A s.heap μ0 cs ad V M H locs → W p l e ({ frames := 2, cells := 0, slots := 0, locals := 49 }) s m args below meth c H locs 0 0 Q (F0 m 263 ls [])) : ∀ (fu : Nat) (M : Nat → Int → Int) (P : Int) (cy : Int) (i : Nat) (H : Heap) (locs : List Loc) (ls : Array Slot), high - P < (fu : Int) → (P = low + i ∧ P ≤ high) → (AdI M0 M i cy σ VB VL) → lv_has ls 10 [(8, .int (iN (P))), (7, .int (iN (cy))), (0, .ref (ad 0)), (1, .int (iN (low))), (2, .int (iN (high))), (3, .int (iN (sm))), (5, .int (iN (big))), (6, .int (iN (less)))] → moW D A s.heap μ0 cs ad V M H locs → W p l e ({ frames := 2, cells := 0, slots := 0, locals := 49 }) s m args below meth c H locs 0 0 Q (F0 m 168 ls []) := by
  obtain ⟨hx, hb, hml, hown, hts⟩ := id S
  intro fu
  induction fu with
  | zero =>
    intro M P cy i H locs ls hn hP hc hl hm
    exfalso; omega
  | succ fu ih =>
    intro M P cy i H locs ls hn hP hc hl hm
    refine lv_iload hx hb d_Mo_add_168 (lv_at hl 0 rfl) ?_
    refine lv_iload_n hx hb d_Mo_add_170 rfl (lv_at hl 4 rfl) ?_
    refine fm_icmp_ge (tgt := 263) S (by omega) (by omega) d_Mo_add_171 (by decide) (fun c1 => ?_) (fun c1 => ?_)
    · exact kk263 M P cy i _ _ _ (by omega) (by omega) (hc) (lv_sub hl [0, 1, 2, 3, 4, 5, 6, 7] rfl) hm
    · have hi2 : (P - low).toNat = i := by omega
      have hm1 := Nat.mod_lt (VB / 10 ^ i) (show 10 > 0 by decide)
      have hm2 := Nat.mod_lt (VL / 10 ^ i) (show 10 > 0 by decide)
      have hc4 := hc.2.2.2.1
      have hc5 := hc.2.2.2.2.1
      refine lv_aload_n hx hb d_Mo_add_174 rfl (lv_at hl 2 rfl) ?_
      refine lv_iload hx hb d_Mo_add_175 (lv_at hl 6 rfl) ?_
      refine lv_iload hx hb d_Mo_add_177 (lv_at hl 0 rfl) ?_
      refine mo_pi (n := 2) (As := [.int (iN (big)), .int (iN (P))]) (rest := []) S hK hZo hZ hA hm (fun μ sz hM => t_Mo_digitAt l D cs Z hZo ad μ V M sz big P nB NB xB sB hM (by omega) (hc.1.rg (by omega) (by omega) hgB) (by omega)) (gV k599 k601 ks31 k6 k602) (by decide) (by decide +kernel) rfl hl.1 rfl (Nat.le_of_ble_eq_true rfl) ⟨Nat.le_of_ble_eq_true rfl, Nat.le_of_ble_eq_true rfl⟩ d_Mo_add_179 (fun x3 q2 => ?_)
      rw [dgt_sh hbd.2.2.1 (by omega), ← hVB, hi2] at q2
      refine lv_iload_n hx hb d_Mo_add_182 rfl (lv_at hl 5 rfl) ?_
      refine fm_if_eq (tgt := 197) S (by omega) d_Mo_add_183 (by decide) (fun c4 => ?_) (fun c4 => ?_)
      · refine fm_iconst S d_Mo_add_197 ?_
        refine lv_aload_n hx hb d_Mo_add_198 rfl (lv_at hl 2 rfl) ?_
        refine lv_iload hx hb d_Mo_add_199 (lv_at hl 7 rfl) ?_
        refine lv_iload hx hb d_Mo_add_201 (lv_at hl 0 rfl) ?_
        refine mo_pi (n := 2) (As := [.int (iN (less)), .int (iN (P))]) (rest := [.int (iN (0)), .int (iN (x3))]) S hK hZo hZ hA hm (fun μ sz hM => t_Mo_digitAt l D cs Z hZo ad μ V M sz less P nL NL xL sL hM (by omega) (hc.1.rg (by omega) (by omega) hgL) (by omega)) (gV k599 k601 ks31 k6 k602) (by decide) (by decide +kernel) rfl hl.1 rfl (Nat.le_of_ble_eq_true rfl) ⟨Nat.le_of_ble_eq_true rfl, Nat.le_of_ble_eq_true rfl⟩ d_Mo_add_203 (fun x6 q5 => ?_)
        rw [dgt_sh hbd.2.2.2.1 (by omega), ← hVL, hi2] at q5
        refine fm_isub S d_Mo_add_206 ?_
        refine fm_iadd S d_Mo_add_207 ?_
        refine lv_iload hx hb d_Mo_add_208 (lv_at hl 1 rfl) ?_
        refine fm_iadd S d_Mo_add_210 ?_
        refine fm_topi (fun x7 hx7 => ?_)
        refine lv_istore (lv' := [(9, .int (iN (x7))), (8, .int (iN (P))), (7, .int (iN (cy))), (0, .ref (ad 0)), (1, .int (iN (low))), (2, .int (iN (high))), (3, .int (iN (sm))), (5, .int (iN (big))), (6, .int (iN (less)))]) hx hb d_Mo_add_211 hl (by decide) rfl (fun ls hl => ?_)
        have hd9 : x7 = ((VB / 10 ^ i % 10 : Nat) : Int) + σ * ((VL / 10 ^ i % 10 : Nat) : Int) + cy := by rcases hsm with ⟨h1, h2⟩ | ⟨h1, h2⟩ <;> rw [h2] <;> omega
        have hdb : -10 ≤ x7 ∧ x7 ≤ 19 := by omega
        refine mo_join (P := fun y => (x7 < 0 ∧ y = -1) ∨ (9 < x7 ∧ y = 1) ∨ (0 ≤ x7 ∧ x7 ≤ 9 ∧ y = 0)) (g := fun y => F0 m 234 ls ([.int (iN (y))])) (fun y hy => ?_) (fun key => ?_)
        · refine lv_istore (lv' := [(7, .int (iN (y))), (9, .int (iN (x7))), (8, .int (iN (P))), (0, .ref (ad 0)), (1, .int (iN (low))), (2, .int (iN (high))), (3, .int (iN (sm))), (5, .int (iN (big))), (6, .int (iN (less)))]) hx hb d_Mo_add_234 hl (by decide) rfl (fun ls hl => ?_)
          refine lv_aload_n hx hb d_Mo_add_236 rfl (lv_at hl 3 rfl) ?_
          refine mo_get 2 S hK hm (by decide) k468 rfl rfl d_Mo_add_237 ?_
          refine fm_sipush S d_Mo_add_240 (by decide) ?_
          refine lv_iload hx hb d_Mo_add_243 (lv_at hl 2 rfl) ?_
          refine fm_iadd S d_Mo_add_245 ?_
          refine lv_iload_n hx hb d_Mo_add_246 rfl (lv_at hl 4 rfl) ?_
          refine fm_isub S d_Mo_add_247 ?_
          refine lv_iload hx hb d_Mo_add_248 (lv_at hl 1 rfl) ?_
          refine fm_bipush S d_Mo_add_250 (by decide) ?_
          refine lv_iload hx hb d_Mo_add_252 (lv_at hl 0 rfl) ?_
          refine fm_imul S d_Mo_add_254 ?_
          refine fm_isub S d_Mo_add_255 ?_
          refine mo_iast 1 S hK hm (by decide) (by simp only [moLen]; omega) d_Mo_add_256 (fun M8 H locs eM8 hm => ?_)
          refine lv_iinc (v := iN ((P + 1))) (lv' := [(8, .int (iN ((P + 1)))), (7, .int (iN (y))), (9, .int (iN (x7))), (0, .ref (ad 0)), (1, .int (iN (low))), (2, .int (iN (high))), (3, .int (iN (sm))), (5, .int (iN (big))), (6, .int (iN (less)))]) hx hb d_Mo_add_257 hl (k := 2) rfl (iN_add _ _) (by decide) rfl (fun ls hl => ?_)
          refine lv_goto (tgt := 168) hx hb d_Mo_add_260 (by decide) ?_
          exact ih M8 (P + 1) y (i + 1) _ _ _ (by omega) (by omega) (hc.step (by omega) (by omega) hd9 (by omega) hy eM8) (lv_sub hl [0, 1, 3, 4, 5, 6, 7, 8] rfl) hm
        · refine lv_iload hx hb d_Mo_add_213 (lv_at hl 0 rfl) ?_
          refine fm_if_ge (tgt := 222) S (by omega) d_Mo_add_215 (by decide) (fun c9 => ?_) (fun c9 => ?_)
          · refine lv_iload hx hb d_Mo_add_222 (lv_at hl 0 rfl) ?_
            refine fm_bipush S d_Mo_add_224 (by decide) ?_
            refine fm_icmp_le (tgt := 233) S (by omega) (by omega) d_Mo_add_226 (by decide) (fun c10 => ?_) (fun c10 => ?_)
            · refine fm_iconst S d_Mo_add_233 ?_
              exact key _ (by omega)
            · refine fm_iconst S d_Mo_add_229 ?_
              refine lv_goto (tgt := 234) hx hb d_Mo_add_230 (by decide) ?_
              exact key _ (by omega)
          · refine fm_iconst S d_Mo_add_218 ?_
            refine lv_goto (tgt := 234) hx hb d_Mo_add_219 (by decide) ?_
            exact key _ (by omega)
      · refine lv_aload_n hx hb d_Mo_add_186 rfl (lv_at hl 2 rfl) ?_
        refine lv_iload hx hb d_Mo_add_187 (lv_at hl 7 rfl) ?_
        refine lv_iload hx hb d_Mo_add_189 (lv_at hl 0 rfl) ?_
        refine mo_pi (n := 2) (As := [.int (iN (less)), .int (iN (P))]) (rest := [.int (iN (x3))]) S hK hZo hZ hA hm (fun μ sz hM => t_Mo_digitAt l D cs Z hZo ad μ V M sz less P nL NL xL sL hM (by omega) (hc.1.rg (by omega) (by omega) hgL) (by omega)) (gV k599 k601 ks31 k6 k602) (by decide) (by decide +kernel) rfl hl.1 rfl (Nat.le_of_ble_eq_true rfl) ⟨Nat.le_of_ble_eq_true rfl, Nat.le_of_ble_eq_true rfl⟩ d_Mo_add_191 (fun x12 q11 => ?_)
        rw [dgt_sh hbd.2.2.2.1 (by omega), ← hVL, hi2] at q11
        refine lv_goto (tgt := 207) hx hb d_Mo_add_194 (by decide) ?_
        refine fm_iadd S d_Mo_add_207 ?_
        refine lv_iload hx hb d_Mo_add_208 (lv_at hl 1 rfl) ?_
        refine fm_iadd S d_Mo_add_210 ?_
        refine fm_topi (fun x13 hx13 => ?_)
        refine lv_istore (lv' := [(9, .int (iN (x13))), (8, .int (iN (P))), (7, .int (iN (cy))), (0, .ref (ad 0)), (1, .int (iN (low))), (2, .int (iN (high))), (3, .int (iN (sm))), (5, .int (iN (big))), (6, .int (iN (less)))]) hx hb d_Mo_add_211 hl (by decide) rfl (fun ls hl => ?_)
        have hd9 : x13 = ((VB / 10 ^ i % 10 : Nat) : Int) + σ * ((VL / 10 ^ i % 10 : Nat) : Int) + cy := by rcases hsm with ⟨h1, h2⟩ | ⟨h1, h2⟩ <;> rw [h2] <;> omega
        have hdb : -10 ≤ x13 ∧ x13 ≤ 19 := by omega
        refine mo_join (P := fun y => (x13 < 0 ∧ y = -1) ∨ (9 < x13 ∧ y = 1) ∨ (0 ≤ x13 ∧ x13 ≤ 9 ∧ y = 0)) (g := fun y => F0 m 234 ls ([.int (iN (y))])) (fun y hy => ?_) (fun key => ?_)
        · refine lv_istore (lv' := [(7, .int (iN (y))), (9, .int (iN (x13))), (8, .int (iN (P))), (0, .ref (ad 0)), (1, .int (iN (low))), (2, .int (iN (high))), (3, .int (iN (sm))), (5, .int (iN (big))), (6, .int (iN (less)))]) hx hb d_Mo_add_234 hl (by decide) rfl (fun ls hl => ?_)
          refine lv_aload_n hx hb d_Mo_add_236 rfl (lv_at hl 3 rfl) ?_
          refine mo_get 2 S hK hm (by decide) k468 rfl rfl d_Mo_add_237 ?_
          refine fm_sipush S d_Mo_add_240 (by decide) ?_
          refine lv_iload hx hb d_Mo_add_243 (lv_at hl 2 rfl) ?_
          refine fm_iadd S d_Mo_add_245 ?_
          refine lv_iload_n hx hb d_Mo_add_246 rfl (lv_at hl 4 rfl) ?_
          refine fm_isub S d_Mo_add_247 ?_
          refine lv_iload hx hb d_Mo_add_248 (lv_at hl 1 rfl) ?_
          refine fm_bipush S d_Mo_add_250 (by decide) ?_
          refine lv_iload hx hb d_Mo_add_252 (lv_at hl 0 rfl) ?_
          refine fm_imul S d_Mo_add_254 ?_
          refine fm_isub S d_Mo_add_255 ?_
          refine mo_iast 1 S hK hm (by decide) (by simp only [moLen]; omega) d_Mo_add_256 (fun M14 H locs eM14 hm => ?_)
          refine lv_iinc (v := iN ((P + 1))) (lv' := [(8, .int (iN ((P + 1)))), (7, .int (iN (y))), (9, .int (iN (x13))), (0, .ref (ad 0)), (1, .int (iN (low))), (2, .int (iN (high))), (3, .int (iN (sm))), (5, .int (iN (big))), (6, .int (iN (less)))]) hx hb d_Mo_add_257 hl (k := 2) rfl (iN_add _ _) (by decide) rfl (fun ls hl => ?_)
          refine lv_goto (tgt := 168) hx hb d_Mo_add_260 (by decide) ?_
          exact ih M14 (P + 1) y (i + 1) _ _ _ (by omega) (by omega) (hc.step (by omega) (by omega) hd9 (by omega) hy eM14) (lv_sub hl [0, 1, 3, 4, 5, 6, 7, 8] rfl) hm
        · refine lv_iload hx hb d_Mo_add_213 (lv_at hl 0 rfl) ?_
          refine fm_if_ge (tgt := 222) S (by omega) d_Mo_add_215 (by decide) (fun c15 => ?_) (fun c15 => ?_)
          · refine lv_iload hx hb d_Mo_add_222 (lv_at hl 0 rfl) ?_
            refine fm_bipush S d_Mo_add_224 (by decide) ?_
            refine fm_icmp_le (tgt := 233) S (by omega) (by omega) d_Mo_add_226 (by decide) (fun c16 => ?_) (fun c16 => ?_)
            · refine fm_iconst S d_Mo_add_233 ?_
              exact key _ (by omega)
            · refine fm_iconst S d_Mo_add_229 ?_
              refine lv_goto (tgt := 234) hx hb d_Mo_add_230 (by decide) ?_
              exact key _ (by omega)
          · refine fm_iconst S d_Mo_add_218 ?_
            refine lv_goto (tgt := 234) hx hb d_Mo_add_219 (by decide) ?_
            exact key _ (by omega)

set_option maxHeartbeats 4000000 in
set_option maxRecDepth 100000 in
/-- add() -/
theorem t_Mo_add (l : Launch) (D : va_G) (cs : Nat → ClassId) (Z : (Nat → Prop) → State → Heap → Prop) (hZo : fm_Zok Z) (ad : Nat → Nat) (μ : fm_Mu) (V : Nat → Int) (M : Nat → Int → Int) (sz : Nat) (most : Nat) (na : Nat) (NA : Nat) (nb : Nat) (NB : Nat) (xa : Int) (sa : Int) (xb : Int) (sb : Int) (hM : moS cs μ ad V M) (hga : Rg M 0 na NA xa sa) (hgb : Rg M 1 nb NB xb sb) (hbd : na ≤ 100 ∧ nb ≤ 100 ∧ -150 ≤ xa ∧ -150 ≤ xb ∧ xa + na ≤ 120 ∧ xb + nb ≤ 120) (hsa : na ≠ 0 → sa = 1 ∨ sa = -1) (hsb : nb ≠ 0 → sb = 1 ∨ sb = -1) (hsz : -1 ≤ sa ∧ sa ≤ 1 ∧ -1 ≤ sb ∧ sb ≤ 1) (hpr : V 1 = (most : Int) ∧ 1 ≤ most ∧ most ≤ 31) : Met l y_Mo_add (Cond.code y_Mo_add c_Mo_add 10 (some .int) :: wA) ({ frames := 2, cells := 0, slots := 0, locals := 49 }) (fm_Pc D clsA (tysA cs) Z μ sz [.ref (ad 0)]) (moQi D cs ad μ sz (fun z V' M' => V' = V ∧ Fr M M' 2 ∧ ∃ (N : Nat) (x sg : Int), (N ≠ 0 → sg = 1 ∨ sg = -1) ∧ vI sg N x = vI sa NA xa + vI sb NB xb ∧ -150 ≤ x ∧ cutOk M' 2 most N x sg z)) 0 0 (fm_A μ sz) := by
  refine mo_of hM (by decide +kernel) (Nat.le_of_ble_eq_true rfl) (fun p e s m below meth c S hr hlocks hsz hm hK hZ hA ls hl => ?_)
  subst hsz
  obtain ⟨hx, hb, hml, hown, hts⟩ := id S
  have hl : lv_has ls 10 [(0, .ref (ad 0))] := hl
  have e20 := hga.1
  have e21 := hgb.1
  have e30 := hga.2.1
  have e31 := hgb.2.1
  have e40 := hga.2.2.1
  have e41 := hgb.2.2.1
  refine lv_aload_n hx hb d_Mo_add_0 rfl (lv_at hl 0 rfl) ?_
  refine mo_get 3 S hK hm (by decide) k469 rfl rfl d_Mo_add_1 ?_
  refine fm_iconst S d_Mo_add_4 ?_
  refine mo_iald 2 S hK hm (by decide) (by simp only [moLen]; omega) d_Mo_add_5 ?_
  refine fm_if_eq (tgt := 18) S (by omega) d_Mo_add_6 (by decide) (fun c1 => ?_) (fun c1 => ?_)
  · refine lv_aload_n hx hb d_Mo_add_18 rfl (lv_at hl 0 rfl) ?_
    refine mo_join (P := fun y => (y = 1 ∧ M 2 0 = 0) ∨ (y = 0 ∧ M 2 0 ≠ 0)) (g := fun y => F0 m 33 ls ([.int (iN (y)), .ref (ad 0)])) (fun y hy => ?_) (fun key => ?_)
    · have hz0 : (y = 1 ∧ na = 0) ∨ (y = 0 ∧ nb = 0) := by omega
      rcases hz0 with ⟨hy1, hz1⟩ | ⟨hy1, hz1⟩
      · subst hy1
        have hN0 : NA = 0 := by have h := hga.lt; rw [hz1] at h; simp at h; exact h
        refine fm_iconst S d_Mo_add_33 ?_
        refine mo_cvS (n := 2) (As := [.int (iN (1)), .int (iN (2))]) (rest := []) S hK hZo hZ hA hm (fun μ sz hM => t_Mo_copy l D cs Z hZo ad μ V M sz 1 2 nb NB xb sb hM hgb (by omega)) (gV k587 k589 ks28 k6 k590) (by decide) (by decide +kernel) rfl hl.1 rfl (Nat.le_of_ble_eq_true rfl) ⟨Nat.le_of_ble_eq_true rfl, Nat.le_of_ble_eq_true rfl⟩ d_Mo_add_34 (fun M3 H locs q2 hm => ?_)
        obtain ⟨frM3, rgM3⟩ := q2
        refine lv_aload_n hx hb d_Mo_add_37 rfl (lv_at hl 0 rfl) ?_
        refine fm_iconst S d_Mo_add_38 ?_
        refine lv_aload_n hx hb d_Mo_add_39 rfl (lv_at hl 0 rfl) ?_
        refine mo_get 1 S hK hm (by decide) k467 rfl rfl d_Mo_add_40 ?_
        refine mo_ciS (n := 2) (As := [.int (iN (2)), .int (iN ((V 1)))]) (rest := []) S hK hZo hZ hA hm (fun μ sz hM => t_Mo_cut l D cs Z hZo ad μ V M3 sz 2 (V 1) most nb NB xb sb hM (by omega) (by omega) (by omega) (by omega) rgM3) (gV k555 k557 ks21 k6 k558) (by decide) (by decide +kernel) rfl hl.1 rfl (Nat.le_of_ble_eq_true rfl) ⟨Nat.le_of_ble_eq_true rfl, Nat.le_of_ble_eq_true rfl⟩ d_Mo_add_43 (fun x6 M5 H locs q4 hm => ?_)
        obtain ⟨frM5, cuM5⟩ := q4
        refine mo_iret S hr hlocks hK hm d_Mo_add_46 ?_
        refine ⟨rfl, frM3.tr frM5, NB, xb, sb, fun h => ?_, ?_, by omega, cuM5⟩
        · exact hsb (fun h2 => h (by have h3 := hgb.lt; rw [h2] at h3; simp at h3; exact h3))
        · rw [hN0]; unfold vI; simp
      · subst hy1
        have hN0 : NB = 0 := by have h := hgb.lt; rw [hz1] at h; simp at h; exact h
        refine fm_iconst S d_Mo_add_33 ?_
        refine mo_cvS (n := 2) (As := [.int (iN (0)), .int (iN (2))]) (rest := []) S hK hZo hZ hA hm (fun μ sz hM => t_Mo_copy l D cs Z hZo ad μ V M sz 0 2 na NA xa sa hM hga (by omega)) (gV k587 k589 ks28 k6 k590) (by decide) (by decide +kernel) rfl hl.1 rfl (Nat.le_of_ble_eq_true rfl) ⟨Nat.le_of_ble_eq_true rfl, Nat.le_of_ble_eq_true rfl⟩ d_Mo_add_34 (fun M8 H locs q7 hm => ?_)
        obtain ⟨frM8, rgM8⟩ := q7
        refine lv_aload_n hx hb d_Mo_add_37 rfl (lv_at hl 0 rfl) ?_
        refine fm_iconst S d_Mo_add_38 ?_
        refine lv_aload_n hx hb d_Mo_add_39 rfl (lv_at hl 0 rfl) ?_
        refine mo_get 1 S hK hm (by decide) k467 rfl rfl d_Mo_add_40 ?_
        refine mo_ciS (n := 2) (As := [.int (iN (2)), .int (iN ((V 1)))]) (rest := []) S hK hZo hZ hA hm (fun μ sz hM => t_Mo_cut l D cs Z hZo ad μ V M8 sz 2 (V 1) most na NA xa sa hM (by omega) (by omega) (by omega) (by omega) rgM8) (gV k555 k557 ks21 k6 k558) (by decide) (by decide +kernel) rfl hl.1 rfl (Nat.le_of_ble_eq_true rfl) ⟨Nat.le_of_ble_eq_true rfl, Nat.le_of_ble_eq_true rfl⟩ d_Mo_add_43 (fun x11 M10 H locs q9 hm => ?_)
        obtain ⟨frM10, cuM10⟩ := q9
        refine mo_iret S hr hlocks hK hm d_Mo_add_46 ?_
        refine ⟨rfl, frM8.tr frM10, NA, xa, sa, fun h => ?_, ?_, by omega, cuM10⟩
        · exact hsa (fun h2 => h (by have h3 := hga.lt; rw [h2] at h3; simp at h3; exact h3))
        · rw [hN0]; unfold vI; simp
    · refine lv_aload_n hx hb d_Mo_add_19 rfl (lv_at hl 0 rfl) ?_
      refine mo_get 3 S hK hm (by decide) k469 rfl rfl d_Mo_add_20 ?_
      refine fm_iconst S d_Mo_add_23 ?_
      refine mo_iald 2 S hK hm (by decide) (by simp only [moLen]; omega) d_Mo_add_24 ?_
      refine fm_if_ne (tgt := 32) S (by omega) d_Mo_add_25 (by decide) (fun c12 => ?_) (fun c12 => ?_)
      · refine fm_iconst S d_Mo_add_32 ?_
        exact key _ (by omega)
      · refine fm_iconst S d_Mo_add_28 ?_
        refine lv_goto (tgt := 33) hx hb d_Mo_add_29 (by decide) ?_
        exact key _ (by omega)
  · refine lv_aload_n hx hb d_Mo_add_9 rfl (lv_at hl 0 rfl) ?_
    refine mo_get 3 S hK hm (by decide) k469 rfl rfl d_Mo_add_10 ?_
    refine fm_iconst S d_Mo_add_13 ?_
    refine mo_iald 2 S hK hm (by decide) (by simp only [moLen]; omega) d_Mo_add_14 ?_
    refine fm_if_ne (tgt := 47) S (by omega) d_Mo_add_15 (by decide) (fun c13 => ?_) (fun c13 => ?_)
    · have hna : na ≠ 0 := by omega
      have hnb : nb ≠ 0 := by omega
      refine mo_join (P := fun y => (xa ≤ xb ∧ y = xa) ∨ (xb ≤ xa ∧ y = xb)) (g := fun y => F0 m 77 ls ([.int (iN (y))])) (fun y hy => ?_) (fun key => ?_)
      · obtain ⟨low, hlow⟩ : ∃ z, z = y := ⟨_, rfl⟩
        rw [← hlow]
        rw [← hlow] at hy
        refine lv_istore_n (lv' := [(1, .int (iN (low))), (0, .ref (ad 0))]) hx hb d_Mo_add_77 rfl hl (by decide) rfl (fun ls hl => ?_)
        refine mo_join (P := fun y => (xb + nb ≤ xa + na ∧ y = xa + na) ∨ (xa + na ≤ xb + nb ∧ y = xb + nb)) (g := fun y => F0 m 104 ls ([.int (iN (y))])) (fun y hy2 => ?_) (fun key => ?_)
        · refine fm_iconst S d_Mo_add_104 ?_
          refine fm_iadd S d_Mo_add_105 ?_
          refine fm_topi (fun high hhigh => ?_)
          refine lv_istore_n (lv' := [(2, .int (iN (high))), (1, .int (iN (low))), (0, .ref (ad 0))]) hx hb d_Mo_add_106 rfl hl (by decide) rfl (fun ls hl => ?_)
          obtain ⟨h, hh⟩ : ∃ h : Nat, high - low = h := ⟨(high - low).toNat, by omega⟩
          obtain ⟨VA, hVA⟩ : ∃ z : Nat, z = NA * 10 ^ (xa - low).toNat := ⟨_, rfl⟩
          obtain ⟨VB, hVB⟩ : ∃ z : Nat, z = NB * 10 ^ (xb - low).toNat := ⟨_, rfl⟩
          have hA1 : VA < 10 ^ (h - 1) := by rw [hVA]; exact sc_lt hga.lt (by omega) (by omega)
          have hB1 : VB < 10 ^ (h - 1) := by rw [hVB]; exact sc_lt hgb.lt (by omega) (by omega)
          have hpw : 10 ^ h = 10 ^ (h - 1) * 10 := by rw [← Nat.pow_succ]; congr 1; omega
          have hlt : VA < 10 ^ (high - low).toNat ∧ VB < 10 ^ (high - low).toNat := by rw [show (high - low).toNat = h by omega]; omega
          refine mo_join (P := fun sm => (sm = 1 ∧ sa = sb) ∨ (sm = 0 ∧ sa ≠ sb)) (g := fun sm => F0 m 127 ls ([.int (iN (sm))])) (fun sm hsm => ?_) (fun key => ?_)
          · refine lv_istore_n (lv' := [(3, .int (iN (sm))), (2, .int (iN (high))), (1, .int (iN (low))), (0, .ref (ad 0))]) hx hb d_Mo_add_127 rfl hl (by decide) rfl (fun ls hl => ?_)
            refine lv_aload_n hx hb d_Mo_add_128 rfl (lv_at hl 3 rfl) ?_
            refine fm_iconst S d_Mo_add_129 ?_
            refine fm_iconst S d_Mo_add_130 ?_
            refine lv_iload_n hx hb d_Mo_add_131 rfl (lv_at hl 2 rfl) ?_
            refine lv_iload_n hx hb d_Mo_add_132 rfl (lv_at hl 1 rfl) ?_
            refine mo_ciS (n := 4) (As := [.int (iN (0)), .int (iN (1)), .int (iN (low)), .int (iN (high))]) (rest := []) S hK hZo hZ hA hm (fun μ sz hM => t_Mo_order l D cs Z hZo ad μ V M sz 0 1 low high na NA nb NB xa sa xb sb VA VB hM (by omega) hga hgb (by omega) (by omega) hVA hVB hlt) (gV k595 k597 ks30 k6 k598) (by decide) (by decide +kernel) rfl hl.1 rfl (Nat.le_of_ble_eq_true rfl) ⟨Nat.le_of_ble_eq_true rfl, Nat.le_of_ble_eq_true rfl⟩ d_Mo_add_133 (fun x16 M15 H locs q14 hm => ?_)
            rw [q14.1] at hm
            obtain ⟨ho1, ho2, ho3, ho4, ho5⟩ := q14.2
            refine lv_istore (lv' := [(4, .int (iN (x16))), (3, .int (iN (sm))), (2, .int (iN (high))), (1, .int (iN (low))), (0, .ref (ad 0))]) hx hb d_Mo_add_136 hl (by decide) rfl (fun ls hl => ?_)
            rcases (show x16 < 0 ∨ 0 ≤ x16 by omega) with hc | hc
            · refine lv_iload hx hb d_Mo_add_138 (lv_at hl 0 rfl) ?_
              refine fm_if_ge (tgt := 147) S (by omega) d_Mo_add_140 (by decide) (fun c17 => ?_) (fun c17 => ?_)
              · exfalso; omega
              · refine fm_iconst S d_Mo_add_143 ?_
                refine lv_goto (tgt := 148) hx hb d_Mo_add_144 (by decide) ?_
                refine lv_istore (lv' := [(5, .int (iN (1))), (4, .int (iN (x16))), (3, .int (iN (sm))), (2, .int (iN (high))), (1, .int (iN (low))), (0, .ref (ad 0))]) hx hb d_Mo_add_148 hl (by decide) rfl (fun ls hl => ?_)
                refine lv_iload hx hb d_Mo_add_150 (lv_at hl 1 rfl) ?_
                refine fm_if_ge (tgt := 159) S (by omega) d_Mo_add_152 (by decide) (fun c18 => ?_) (fun c18 => ?_)
                · exfalso; omega
                · refine fm_iconst S d_Mo_add_155 ?_
                  refine lv_goto (tgt := 160) hx hb d_Mo_add_156 (by decide) ?_
                  refine lv_istore (lv' := [(6, .int (iN (0))), (5, .int (iN (1))), (4, .int (iN (x16))), (3, .int (iN (sm))), (2, .int (iN (high))), (1, .int (iN (low))), (0, .ref (ad 0))]) hx hb d_Mo_add_160 hl (by decide) rfl (fun ls hl => ?_)
                  refine fm_iconst S d_Mo_add_162 ?_
                  refine lv_istore (lv' := [(7, .int (iN (0))), (6, .int (iN (0))), (5, .int (iN (1))), (4, .int (iN (x16))), (3, .int (iN (sm))), (2, .int (iN (high))), (1, .int (iN (low))), (0, .ref (ad 0))]) hx hb d_Mo_add_163 hl (by decide) rfl (fun ls hl => ?_)
                  refine lv_iload_n hx hb d_Mo_add_165 rfl (lv_at hl 6 rfl) ?_
                  refine lv_istore (lv' := [(8, .int (iN (low))), (7, .int (iN (0))), (6, .int (iN (0))), (5, .int (iN (1))), (4, .int (iN (x16))), (3, .int (iN (sm))), (2, .int (iN (high))), (1, .int (iN (low))), (0, .ref (ad 0))]) hx hb d_Mo_add_166 hl (by decide) rfl (fun ls hl => ?_)
                  obtain ⟨σ, hσ⟩ : ∃ σ : Int, (sm = 1 ∧ σ = 1) ∨ (sm = 0 ∧ σ = -1) := (by rcases hsm with h1 | h1; exact ⟨1, Or.inl ⟨h1.1, rfl⟩⟩; exact ⟨-1, Or.inr ⟨h1.1, rfl⟩⟩)
                  refine L_add (Z := Z) S hK hZo hZ hA V M low high sm 1 0 nb NB na NA xb sb xa sa σ (by omega) hgb hga (by omega) VB VA hVB hVA hσ (fun M19 P cy i H locs ls hP hPi hA9 hl hm => ?_) (h + 1) M low 0 0 _ _ _ (by omega) (by omega) (AdI.start M σ VB VA) (lv_sub hl [0, 1, 8, 7, 6, 5, 3, 2] rfl) hm
                  have hih : i = h := by omega
                  subst hih
                  obtain ⟨T, hT⟩ : ∃ T : Nat, (T : Int) = VB + σ * VA := by
                    rcases hσ with h1 | h1
                    · exact ⟨VB + VA, by rw [h1.2]; omega⟩
                    · exact ⟨VB - VA, by rw [h1.2]; omega⟩
                  have hTl : T < 10 ^ i := by rcases hσ with h1 | h1 <;> rw [h1.2] at hT <;> omega
                  refine lv_aload_n hx hb d_Mo_add_263 rfl (lv_at hl 2 rfl) ?_
                  refine mo_get 3 S hK hm (by decide) k469 rfl rfl d_Mo_add_264 ?_
                  refine fm_iconst S d_Mo_add_267 ?_
                  refine lv_iload_n hx hb d_Mo_add_268 rfl (lv_at hl 4 rfl) ?_
                  refine lv_iload_n hx hb d_Mo_add_269 rfl (lv_at hl 3 rfl) ?_
                  refine fm_isub S d_Mo_add_270 ?_
                  refine mo_iast 2 S hK hm (by decide) (by simp only [moLen]; omega) d_Mo_add_271 (fun M20 H locs eM20 hm => ?_)
                  refine lv_aload_n hx hb d_Mo_add_272 rfl (lv_at hl 2 rfl) ?_
                  refine mo_get 4 S hK hm (by decide) k470 rfl rfl d_Mo_add_273 ?_
                  refine fm_iconst S d_Mo_add_276 ?_
                  refine lv_iload_n hx hb d_Mo_add_277 rfl (lv_at hl 3 rfl) ?_
                  refine mo_iast 3 S hK hm (by decide) (by simp only [moLen]; omega) d_Mo_add_278 (fun M21 H locs eM21 hm => ?_)
                  refine lv_aload_n hx hb d_Mo_add_279 rfl (lv_at hl 2 rfl) ?_
                  refine mo_get 5 S hK hm (by decide) k471 rfl rfl d_Mo_add_280 ?_
                  refine fm_iconst S d_Mo_add_283 ?_
                  refine lv_aload_n hx hb d_Mo_add_284 rfl (lv_at hl 2 rfl) ?_
                  refine mo_get 5 S hK hm (by decide) k471 rfl rfl d_Mo_add_285 ?_
                  refine lv_iload hx hb d_Mo_add_288 (lv_at hl 6 rfl) ?_
                  refine mo_iald 4 S hK hm (by decide) (by simp only [moLen]; omega) d_Mo_add_290 ?_
                  refine mo_iast 4 S hK hm (by decide) (by simp only [moLen]; omega) d_Mo_add_291 (fun M22 H locs eM22 hm => ?_)
                  obtain ⟨frS, rgS⟩ := AdI.fin (M3 := M22) (low := low) (sg := sb) hA9 (by omega) (by omega) hT hTl (by rw [eM20, hh]) eM21 (by rw [eM22]; congr 1; rw [eM21, setA_n (by decide), eM20, setA_n (by decide), hA9.2.1.2.2]; exact hgb.2.2.1)
                  refine lv_aload_n hx hb d_Mo_add_292 rfl (lv_at hl 2 rfl) ?_
                  refine fm_iconst S d_Mo_add_293 ?_
                  refine lv_aload_n hx hb d_Mo_add_294 rfl (lv_at hl 2 rfl) ?_
                  refine mo_get 1 S hK hm (by decide) k467 rfl rfl d_Mo_add_295 ?_
                  refine mo_ciS (n := 2) (As := [.int (iN (2)), .int (iN ((V 1)))]) (rest := []) S hK hZo hZ hA hm (fun μ sz hM => t_Mo_cut l D cs Z hZo ad μ V M22 sz 2 (V 1) most i T low sb hM (by omega) (by omega) (by omega) (by omega) rgS) (gV k555 k557 ks21 k6 k558) (by decide) (by decide +kernel) rfl hl.1 rfl (Nat.le_of_ble_eq_true rfl) ⟨Nat.le_of_ble_eq_true rfl, Nat.le_of_ble_eq_true rfl⟩ d_Mo_add_298 (fun x25 M24 H locs q23 hm => ?_)
                  obtain ⟨frM24, cuM24⟩ := q23
                  refine mo_iret S hr hlocks hK hm d_Mo_add_301 ?_
                  refine ⟨rfl, frS.tr frM24, T, low, sb, fun _ => hsb hnb, ?_, by omega, cuM24⟩
                  rw [vI_sc (N := NA) (x := xa) (low := low) (by omega) (by omega), vI_sc (N := NB) (x := xb) (low := low) (by omega) (by omega), ← hVA, ← hVB, ← Int.add_mul]
                  unfold vI
                  congr 1
                  rw [hT]
                  have h7 := hsa hna
                  have h8 := hsb hnb
                  rcases hσ with ⟨h1, h2⟩ | ⟨h1, h2⟩
                  · rw [h2, show sb = sa by omega, Int.one_mul, Int.mul_add]
                    omega
                  · rw [h2, show sa = -sb by omega, Int.neg_mul, Int.one_mul, ← Int.sub_eq_add_neg, Int.mul_sub, Int.neg_mul]
                    omega
            · refine lv_iload hx hb d_Mo_add_138 (lv_at hl 0 rfl) ?_
              refine fm_if_ge (tgt := 147) S (by omega) d_Mo_add_140 (by decide) (fun c26 => ?_) (fun c26 => ?_)
              · refine fm_iconst S d_Mo_add_147 ?_
                refine lv_istore (lv' := [(5, .int (iN (0))), (4, .int (iN (x16))), (3, .int (iN (sm))), (2, .int (iN (high))), (1, .int (iN (low))), (0, .ref (ad 0))]) hx hb d_Mo_add_148 hl (by decide) rfl (fun ls hl => ?_)
                refine lv_iload hx hb d_Mo_add_150 (lv_at hl 1 rfl) ?_
                refine fm_if_ge (tgt := 159) S (by omega) d_Mo_add_152 (by decide) (fun c27 => ?_) (fun c27 => ?_)
                · refine fm_iconst S d_Mo_add_159 ?_
                  refine lv_istore (lv' := [(6, .int (iN (1))), (5, .int (iN (0))), (4, .int (iN (x16))), (3, .int (iN (sm))), (2, .int (iN (high))), (1, .int (iN (low))), (0, .ref (ad 0))]) hx hb d_Mo_add_160 hl (by decide) rfl (fun ls hl => ?_)
                  refine fm_iconst S d_Mo_add_162 ?_
                  refine lv_istore (lv' := [(7, .int (iN (0))), (6, .int (iN (1))), (5, .int (iN (0))), (4, .int (iN (x16))), (3, .int (iN (sm))), (2, .int (iN (high))), (1, .int (iN (low))), (0, .ref (ad 0))]) hx hb d_Mo_add_163 hl (by decide) rfl (fun ls hl => ?_)
                  refine lv_iload_n hx hb d_Mo_add_165 rfl (lv_at hl 6 rfl) ?_
                  refine lv_istore (lv' := [(8, .int (iN (low))), (7, .int (iN (0))), (6, .int (iN (1))), (5, .int (iN (0))), (4, .int (iN (x16))), (3, .int (iN (sm))), (2, .int (iN (high))), (1, .int (iN (low))), (0, .ref (ad 0))]) hx hb d_Mo_add_166 hl (by decide) rfl (fun ls hl => ?_)
                  obtain ⟨σ, hσ⟩ : ∃ σ : Int, (sm = 1 ∧ σ = 1) ∨ (sm = 0 ∧ σ = -1) := (by rcases hsm with h1 | h1; exact ⟨1, Or.inl ⟨h1.1, rfl⟩⟩; exact ⟨-1, Or.inr ⟨h1.1, rfl⟩⟩)
                  refine L_add (Z := Z) S hK hZo hZ hA V M low high sm 0 1 na NA nb NB xa sa xb sb σ (by omega) hga hgb (by omega) VA VB hVA hVB hσ (fun M28 P cy i H locs ls hP hPi hA9 hl hm => ?_) (h + 1) M low 0 0 _ _ _ (by omega) (by omega) (AdI.start M σ VA VB) (lv_sub hl [0, 1, 8, 7, 6, 5, 3, 2] rfl) hm
                  have hih : i = h := by omega
                  subst hih
                  obtain ⟨T, hT⟩ : ∃ T : Nat, (T : Int) = VA + σ * VB := by
                    rcases hσ with h1 | h1
                    · exact ⟨VA + VB, by rw [h1.2]; omega⟩
                    · exact ⟨VA - VB, by rw [h1.2]; omega⟩
                  have hTl : T < 10 ^ i := by rcases hσ with h1 | h1 <;> rw [h1.2] at hT <;> omega
                  refine lv_aload_n hx hb d_Mo_add_263 rfl (lv_at hl 2 rfl) ?_
                  refine mo_get 3 S hK hm (by decide) k469 rfl rfl d_Mo_add_264 ?_
                  refine fm_iconst S d_Mo_add_267 ?_
                  refine lv_iload_n hx hb d_Mo_add_268 rfl (lv_at hl 4 rfl) ?_
                  refine lv_iload_n hx hb d_Mo_add_269 rfl (lv_at hl 3 rfl) ?_
                  refine fm_isub S d_Mo_add_270 ?_
                  refine mo_iast 2 S hK hm (by decide) (by simp only [moLen]; omega) d_Mo_add_271 (fun M29 H locs eM29 hm => ?_)
                  refine lv_aload_n hx hb d_Mo_add_272 rfl (lv_at hl 2 rfl) ?_
                  refine mo_get 4 S hK hm (by decide) k470 rfl rfl d_Mo_add_273 ?_
                  refine fm_iconst S d_Mo_add_276 ?_
                  refine lv_iload_n hx hb d_Mo_add_277 rfl (lv_at hl 3 rfl) ?_
                  refine mo_iast 3 S hK hm (by decide) (by simp only [moLen]; omega) d_Mo_add_278 (fun M30 H locs eM30 hm => ?_)
                  refine lv_aload_n hx hb d_Mo_add_279 rfl (lv_at hl 2 rfl) ?_
                  refine mo_get 5 S hK hm (by decide) k471 rfl rfl d_Mo_add_280 ?_
                  refine fm_iconst S d_Mo_add_283 ?_
                  refine lv_aload_n hx hb d_Mo_add_284 rfl (lv_at hl 2 rfl) ?_
                  refine mo_get 5 S hK hm (by decide) k471 rfl rfl d_Mo_add_285 ?_
                  refine lv_iload hx hb d_Mo_add_288 (lv_at hl 6 rfl) ?_
                  refine mo_iald 4 S hK hm (by decide) (by simp only [moLen]; omega) d_Mo_add_290 ?_
                  refine mo_iast 4 S hK hm (by decide) (by simp only [moLen]; omega) d_Mo_add_291 (fun M31 H locs eM31 hm => ?_)
                  obtain ⟨frS, rgS⟩ := AdI.fin (M3 := M31) (low := low) (sg := sa) hA9 (by omega) (by omega) hT hTl (by rw [eM29, hh]) eM30 (by rw [eM31]; congr 1; rw [eM30, setA_n (by decide), eM29, setA_n (by decide), hA9.2.1.2.2]; exact hga.2.2.1)
                  refine lv_aload_n hx hb d_Mo_add_292 rfl (lv_at hl 2 rfl) ?_
                  refine fm_iconst S d_Mo_add_293 ?_
                  refine lv_aload_n hx hb d_Mo_add_294 rfl (lv_at hl 2 rfl) ?_
                  refine mo_get 1 S hK hm (by decide) k467 rfl rfl d_Mo_add_295 ?_
                  refine mo_ciS (n := 2) (As := [.int (iN (2)), .int (iN ((V 1)))]) (rest := []) S hK hZo hZ hA hm (fun μ sz hM => t_Mo_cut l D cs Z hZo ad μ V M31 sz 2 (V 1) most i T low sa hM (by omega) (by omega) (by omega) (by omega) rgS) (gV k555 k557 ks21 k6 k558) (by decide) (by decide +kernel) rfl hl.1 rfl (Nat.le_of_ble_eq_true rfl) ⟨Nat.le_of_ble_eq_true rfl, Nat.le_of_ble_eq_true rfl⟩ d_Mo_add_298 (fun x34 M33 H locs q32 hm => ?_)
                  obtain ⟨frM33, cuM33⟩ := q32
                  refine mo_iret S hr hlocks hK hm d_Mo_add_301 ?_
                  refine ⟨rfl, frS.tr frM33, T, low, sa, fun _ => hsa hna, ?_, by omega, cuM33⟩
                  rw [vI_sc (N := NA) (x := xa) (low := low) (by omega) (by omega), vI_sc (N := NB) (x := xb) (low := low) (by omega) (by omega), ← hVA, ← hVB, ← Int.add_mul]
                  unfold vI
                  congr 1
                  rw [hT]
                  have h7 := hsa hna
                  have h8 := hsb hnb
                  rcases hσ with ⟨h1, h2⟩ | ⟨h1, h2⟩
                  · rw [h2, show sb = sa by omega, Int.one_mul, Int.mul_add]
                  · rw [h2, show sb = -sa by omega, Int.neg_mul, Int.one_mul, ← Int.sub_eq_add_neg, Int.mul_sub, Int.neg_mul]
                    omega
                · exfalso; omega
              · exfalso; omega
          · refine lv_aload_n hx hb d_Mo_add_107 rfl (lv_at hl 2 rfl) ?_
            refine mo_get 5 S hK hm (by decide) k471 rfl rfl d_Mo_add_108 ?_
            refine fm_iconst S d_Mo_add_111 ?_
            refine mo_iald 4 S hK hm (by decide) (by simp only [moLen]; omega) d_Mo_add_112 ?_
            refine lv_aload_n hx hb d_Mo_add_113 rfl (lv_at hl 2 rfl) ?_
            refine mo_get 5 S hK hm (by decide) k471 rfl rfl d_Mo_add_114 ?_
            refine fm_iconst S d_Mo_add_117 ?_
            refine mo_iald 4 S hK hm (by decide) (by simp only [moLen]; omega) d_Mo_add_118 ?_
            refine fm_icmp_ne (tgt := 126) S (by omega) (by omega) d_Mo_add_119 (by decide) (fun c35 => ?_) (fun c35 => ?_)
            · refine fm_iconst S d_Mo_add_126 ?_
              exact key _ (by omega)
            · refine fm_iconst S d_Mo_add_122 ?_
              refine lv_goto (tgt := 127) hx hb d_Mo_add_123 (by decide) ?_
              exact key _ (by omega)
        · refine lv_aload_n hx hb d_Mo_add_78 rfl (lv_at hl 1 rfl) ?_
          refine fm_iconst S d_Mo_add_79 ?_
          refine mo_pi (n := 1) (As := [.int (iN (0))]) (rest := []) S hK hZo hZ hA hm (fun μ sz hM => t_Mo_topOf l D cs Z hZo ad μ V M sz 0 hM (by omega)) (gV k591 k593 ks29 k6 k594) (by decide) (by decide +kernel) rfl hl.1 rfl (Nat.le_of_ble_eq_true rfl) ⟨Nat.le_of_ble_eq_true rfl, Nat.le_of_ble_eq_true rfl⟩ d_Mo_add_80 (fun x37 q36 => ?_)
          refine lv_aload_n hx hb d_Mo_add_83 rfl (lv_at hl 1 rfl) ?_
          refine fm_iconst S d_Mo_add_84 ?_
          refine mo_pi (n := 1) (As := [.int (iN (1))]) (rest := [.int (iN (x37))]) S hK hZo hZ hA hm (fun μ sz hM => t_Mo_topOf l D cs Z hZo ad μ V M sz 1 hM (by omega)) (gV k591 k593 ks29 k6 k594) (by decide) (by decide +kernel) rfl hl.1 rfl (Nat.le_of_ble_eq_true rfl) ⟨Nat.le_of_ble_eq_true rfl, Nat.le_of_ble_eq_true rfl⟩ d_Mo_add_85 (fun x39 q38 => ?_)
          refine fm_icmp_le (tgt := 99) S (by omega) (by omega) d_Mo_add_88 (by decide) (fun c40 => ?_) (fun c40 => ?_)
          · refine lv_aload_n hx hb d_Mo_add_99 rfl (lv_at hl 1 rfl) ?_
            refine fm_iconst S d_Mo_add_100 ?_
            refine mo_pi (n := 1) (As := [.int (iN (1))]) (rest := []) S hK hZo hZ hA hm (fun μ sz hM => t_Mo_topOf l D cs Z hZo ad μ V M sz 1 hM (by omega)) (gV k591 k593 ks29 k6 k594) (by decide) (by decide +kernel) rfl hl.1 rfl (Nat.le_of_ble_eq_true rfl) ⟨Nat.le_of_ble_eq_true rfl, Nat.le_of_ble_eq_true rfl⟩ d_Mo_add_101 (fun x42 q41 => ?_)
            exact key _ (by omega)
          · refine lv_aload_n hx hb d_Mo_add_91 rfl (lv_at hl 1 rfl) ?_
            refine fm_iconst S d_Mo_add_92 ?_
            refine mo_pi (n := 1) (As := [.int (iN (0))]) (rest := []) S hK hZo hZ hA hm (fun μ sz hM => t_Mo_topOf l D cs Z hZo ad μ V M sz 0 hM (by omega)) (gV k591 k593 ks29 k6 k594) (by decide) (by decide +kernel) rfl hl.1 rfl (Nat.le_of_ble_eq_true rfl) ⟨Nat.le_of_ble_eq_true rfl, Nat.le_of_ble_eq_true rfl⟩ d_Mo_add_93 (fun x44 q43 => ?_)
            refine lv_goto (tgt := 104) hx hb d_Mo_add_96 (by decide) ?_
            exact key _ (by omega)
      · refine lv_aload_n hx hb d_Mo_add_47 rfl (lv_at hl 0 rfl) ?_
        refine mo_get 4 S hK hm (by decide) k470 rfl rfl d_Mo_add_48 ?_
        refine fm_iconst S d_Mo_add_51 ?_
        refine mo_iald 3 S hK hm (by decide) (by simp only [moLen]; omega) d_Mo_add_52 ?_
        refine lv_aload_n hx hb d_Mo_add_53 rfl (lv_at hl 0 rfl) ?_
        refine mo_get 4 S hK hm (by decide) k470 rfl rfl d_Mo_add_54 ?_
        refine fm_iconst S d_Mo_add_57 ?_
        refine mo_iald 3 S hK hm (by decide) (by simp only [moLen]; omega) d_Mo_add_58 ?_
        refine fm_icmp_ge (tgt := 71) S (by omega) (by omega) d_Mo_add_59 (by decide) (fun c45 => ?_) (fun c45 => ?_)
        · refine lv_aload_n hx hb d_Mo_add_71 rfl (lv_at hl 0 rfl) ?_
          refine mo_get 4 S hK hm (by decide) k470 rfl rfl d_Mo_add_72 ?_
          refine fm_iconst S d_Mo_add_75 ?_
          refine mo_iald 3 S hK hm (by decide) (by simp only [moLen]; omega) d_Mo_add_76 ?_
          exact key _ (by omega)
        · refine lv_aload_n hx hb d_Mo_add_62 rfl (lv_at hl 0 rfl) ?_
          refine mo_get 4 S hK hm (by decide) k470 rfl rfl d_Mo_add_63 ?_
          refine fm_iconst S d_Mo_add_66 ?_
          refine mo_iald 3 S hK hm (by decide) (by simp only [moLen]; omega) d_Mo_add_67 ?_
          refine lv_goto (tgt := 77) hx hb d_Mo_add_68 (by decide) ?_
          exact key _ (by omega)
    · refine lv_aload_n hx hb d_Mo_add_18 rfl (lv_at hl 0 rfl) ?_
      refine mo_join (P := fun y => (y = 1 ∧ M 2 0 = 0) ∨ (y = 0 ∧ M 2 0 ≠ 0)) (g := fun y => F0 m 33 ls ([.int (iN (y)), .ref (ad 0)])) (fun y hy => ?_) (fun key => ?_)
      · have hz0 : (y = 1 ∧ na = 0) ∨ (y = 0 ∧ nb = 0) := by omega
        rcases hz0 with ⟨hy1, hz1⟩ | ⟨hy1, hz1⟩
        · subst hy1
          have hN0 : NA = 0 := by have h := hga.lt; rw [hz1] at h; simp at h; exact h
          refine fm_iconst S d_Mo_add_33 ?_
          refine mo_cvS (n := 2) (As := [.int (iN (1)), .int (iN (2))]) (rest := []) S hK hZo hZ hA hm (fun μ sz hM => t_Mo_copy l D cs Z hZo ad μ V M sz 1 2 nb NB xb sb hM hgb (by omega)) (gV k587 k589 ks28 k6 k590) (by decide) (by decide +kernel) rfl hl.1 rfl (Nat.le_of_ble_eq_true rfl) ⟨Nat.le_of_ble_eq_true rfl, Nat.le_of_ble_eq_true rfl⟩ d_Mo_add_34 (fun M47 H locs q46 hm => ?_)
          obtain ⟨frM47, rgM47⟩ := q46
          refine lv_aload_n hx hb d_Mo_add_37 rfl (lv_at hl 0 rfl) ?_
          refine fm_iconst S d_Mo_add_38 ?_
          refine lv_aload_n hx hb d_Mo_add_39 rfl (lv_at hl 0 rfl) ?_
          refine mo_get 1 S hK hm (by decide) k467 rfl rfl d_Mo_add_40 ?_
          refine mo_ciS (n := 2) (As := [.int (iN (2)), .int (iN ((V 1)))]) (rest := []) S hK hZo hZ hA hm (fun μ sz hM => t_Mo_cut l D cs Z hZo ad μ V M47 sz 2 (V 1) most nb NB xb sb hM (by omega) (by omega) (by omega) (by omega) rgM47) (gV k555 k557 ks21 k6 k558) (by decide) (by decide +kernel) rfl hl.1 rfl (Nat.le_of_ble_eq_true rfl) ⟨Nat.le_of_ble_eq_true rfl, Nat.le_of_ble_eq_true rfl⟩ d_Mo_add_43 (fun x50 M49 H locs q48 hm => ?_)
          obtain ⟨frM49, cuM49⟩ := q48
          refine mo_iret S hr hlocks hK hm d_Mo_add_46 ?_
          refine ⟨rfl, frM47.tr frM49, NB, xb, sb, fun h => ?_, ?_, by omega, cuM49⟩
          · exact hsb (fun h2 => h (by have h3 := hgb.lt; rw [h2] at h3; simp at h3; exact h3))
          · rw [hN0]; unfold vI; simp
        · subst hy1
          have hN0 : NB = 0 := by have h := hgb.lt; rw [hz1] at h; simp at h; exact h
          refine fm_iconst S d_Mo_add_33 ?_
          refine mo_cvS (n := 2) (As := [.int (iN (0)), .int (iN (2))]) (rest := []) S hK hZo hZ hA hm (fun μ sz hM => t_Mo_copy l D cs Z hZo ad μ V M sz 0 2 na NA xa sa hM hga (by omega)) (gV k587 k589 ks28 k6 k590) (by decide) (by decide +kernel) rfl hl.1 rfl (Nat.le_of_ble_eq_true rfl) ⟨Nat.le_of_ble_eq_true rfl, Nat.le_of_ble_eq_true rfl⟩ d_Mo_add_34 (fun M52 H locs q51 hm => ?_)
          obtain ⟨frM52, rgM52⟩ := q51
          refine lv_aload_n hx hb d_Mo_add_37 rfl (lv_at hl 0 rfl) ?_
          refine fm_iconst S d_Mo_add_38 ?_
          refine lv_aload_n hx hb d_Mo_add_39 rfl (lv_at hl 0 rfl) ?_
          refine mo_get 1 S hK hm (by decide) k467 rfl rfl d_Mo_add_40 ?_
          refine mo_ciS (n := 2) (As := [.int (iN (2)), .int (iN ((V 1)))]) (rest := []) S hK hZo hZ hA hm (fun μ sz hM => t_Mo_cut l D cs Z hZo ad μ V M52 sz 2 (V 1) most na NA xa sa hM (by omega) (by omega) (by omega) (by omega) rgM52) (gV k555 k557 ks21 k6 k558) (by decide) (by decide +kernel) rfl hl.1 rfl (Nat.le_of_ble_eq_true rfl) ⟨Nat.le_of_ble_eq_true rfl, Nat.le_of_ble_eq_true rfl⟩ d_Mo_add_43 (fun x55 M54 H locs q53 hm => ?_)
          obtain ⟨frM54, cuM54⟩ := q53
          refine mo_iret S hr hlocks hK hm d_Mo_add_46 ?_
          refine ⟨rfl, frM52.tr frM54, NA, xa, sa, fun h => ?_, ?_, by omega, cuM54⟩
          · exact hsa (fun h2 => h (by have h3 := hga.lt; rw [h2] at h3; simp at h3; exact h3))
          · rw [hN0]; unfold vI; simp
      · refine lv_aload_n hx hb d_Mo_add_19 rfl (lv_at hl 0 rfl) ?_
        refine mo_get 3 S hK hm (by decide) k469 rfl rfl d_Mo_add_20 ?_
        refine fm_iconst S d_Mo_add_23 ?_
        refine mo_iald 2 S hK hm (by decide) (by simp only [moLen]; omega) d_Mo_add_24 ?_
        refine fm_if_ne (tgt := 32) S (by omega) d_Mo_add_25 (by decide) (fun c56 => ?_) (fun c56 => ?_)
        · refine fm_iconst S d_Mo_add_32 ?_
          exact key _ (by omega)
        · refine fm_iconst S d_Mo_add_28 ?_
          refine lv_goto (tgt := 33) hx hb d_Mo_add_29 (by decide) ?_
          exact key _ (by omega)
