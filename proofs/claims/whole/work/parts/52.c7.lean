def pS (F : Int → Int) : Nat → Int
  | 0 => 0
  | n + 1 => pS F n + F n * 10 ^ (8 * (3 - n))
theorem pS_4 (F : Int → Int) : pS F 4 = L4 F := by
  unfold L4
  show 0 + F ((0 : Nat) : Int) * 10 ^ (8 * (3 - 0)) + F ((1 : Nat) : Int) * 10 ^ (8 * (3 - 1)) + F ((2 : Nat) : Int) * 10 ^ (8 * (3 - 2)) + F ((3 : Nat) : Int) * 10 ^ (8 * (3 - 3)) = _
  have e0 : (10 : Int) ^ (8 * (3 - 0)) = 1000000000000000000000000 := by decide
  have e1 : (10 : Int) ^ (8 * (3 - 1)) = 10000000000000000 := by decide
  have e2 : (10 : Int) ^ (8 * (3 - 2)) = 100000000 := by decide
  have e3 : (10 : Int) ^ (8 * (3 - 3)) = 1 := by decide
  rw [e0, e1, e2, e3]
  show 0 + F 0 * 1000000000000000000000000 + F 1 * 10000000000000000 + F 2 * 100000000 + F 3 * 1 = _
  omega
def PlI (G0 G F : Int → Int) (fac hg : Int) (fi : Int) (i : Nat) : Prop := wv G 30 = wv G0 30 + fac * hg * 10 ^ (8 * (25 - fi)).toNat * pS F i ∧ ∀ q : Int, 0 ≤ q → q < 30 → -(i * 100000000) ≤ G q - G0 q ∧ G q - G0 q ≤ i * 100000000
theorem PlI.step {G0 G G1 G2 F : Int → Int} {fac lw hg fi : Int} {i : Nat} (h : PlI G0 G F fac hg fi i) (hi : i < 4) (hf : 0 ≤ fi ∧ fi ≤ 25) (hfac : fac = 1 ∨ fac = -1) (hlh : hg * lw = 100000000) (hlw : 0 < lw) (hhg : 0 < hg) (hFi : 0 ≤ F i ∧ F i < 100000000) (e1 : G1 = uI G (fi + i) (G (fi + i) + fac * (F i / lw))) (e2 : G2 = uI G1 (fi + i + 1) (G1 (fi + i + 1) + fac * (F i % lw * hg))) : PlI G0 G2 F fac hg fi (i + 1) := by
  obtain ⟨h1, h2⟩ := h
  have k := Int.mul_ediv_add_emod (F i) lw
  have k1 := Int.emod_nonneg (F i) (show lw ≠ 0 by omega)
  have k2 := Int.emod_lt_of_pos (F i) hlw
  have k3 := Int.ediv_nonneg hFi.1 (show 0 ≤ lw by omega)
  have k4 := Int.ediv_le_self lw hFi.1
  have k5 := Int.mul_nonneg k1 (show 0 ≤ hg by omega)
  have k6 : F i % lw * hg ≤ (lw - 1) * hg := Int.mul_le_mul_of_nonneg_right (by omega) (by omega)
  rw [Int.sub_mul, Int.mul_comm lw hg, hlh] at k6
  refine ⟨?_, fun q a b => ?_⟩
  · rw [wv_up 30 (by omega) e2, wv_up 30 (by omega) e1, h1]
    rw [show G (fi + i) + fac * (F i / lw) - G (fi + i) = fac * (F i / lw) by omega, show G1 (fi + i + 1) + fac * (F i % lw * hg) - G1 (fi + i + 1) = fac * (F i % lw * hg) by omega]
    show _ = wv G0 30 + fac * hg * 10 ^ (8 * (25 - fi)).toNat * (pS F i + F i * 10 ^ (8 * (3 - i)))
    rw [show (8 * (((30 : Nat) : Int) - 1 - (fi + i))).toNat = 8 + ((8 * (25 - fi)).toNat + 8 * (3 - i)) by omega, show (8 * (((30 : Nat) : Int) - 1 - (fi + i + 1))).toNat = (8 * (25 - fi)).toNat + 8 * (3 - i) by omega]
    generalize hA : (10 : Int) ^ (8 * (25 - fi)).toNat = A
    generalize hB : (10 : Int) ^ (8 * (3 - i)) = B
    have e8 : (10 : Int) ^ (8 + ((8 * (25 - fi)).toNat + 8 * (3 - i))) = hg * lw * (A * B) := by rw [Int.pow_add, Int.pow_add, hA, hB, hlh]; rfl
    rw [e8, Int.pow_add, hA, hB, Int.mul_add]
    have main : fac * (F i / lw) * (hg * lw * (A * B)) + fac * (F i % lw * hg) * (A * B) = fac * hg * A * (F i * B) := by
      have m1 : fac * (F i / lw) * (hg * lw * (A * B)) = fac * hg * A * B * (lw * (F i / lw)) := by
        ac_rfl
      have m2 : fac * (F i % lw * hg) * (A * B) = fac * hg * A * B * (F i % lw) := by
        ac_rfl
      rw [m1, m2, ← Int.mul_add, k]
      ac_rfl
    omega
  · have h3 := h2 q a b
    have f1 : -(100000000 : Int) ≤ fac * (F i / lw) ∧ fac * (F i / lw) ≤ 100000000 := by rcases hfac with e | e <;> rw [e] <;> omega
    have f2 : -(100000000 : Int) ≤ fac * (F i % lw * hg) ∧ fac * (F i % lw * hg) ≤ 100000000 := by rcases hfac with e | e <;> rw [e] <;> omega
    by_cases q1 : q = fi + i + 1
    · rw [q1, e2, uI_s, e1, uI_n (by omega), ← q1]; omega
    · by_cases q2 : q = fi + i
      · rw [e2, uI_n q1, q2, e1, uI_s, ← q2]; omega
      · rw [e2, uI_n q1, e1, uI_n q2]; omega
def xX (v : Int) : Nat := mN v * 10 ^ (tp v + 105).toNat
theorem xX_abs {v : Int} (h : dB v) : v.natAbs = xX v * 10 ^ 164 := by
  have := h.t
  unfold xX
  rw [abs_l h, show (tp v + 269).toNat = (tp v + 105).toNat + 164 by omega, Nat.pow_add, Nat.mul_assoc]
theorem xX_lt {v : Int} (h : dB v) : xX v < 10 ^ 236 := by
  have := h.t
  unfold xX
  calc mN v * 10 ^ (tp v + 105).toNat < 10 ^ 32 * 10 ^ (tp v + 105).toNat := Nat.mul_lt_mul_of_pos_right (mN_lt h) (p10N _)
    _ = 10 ^ (32 + (tp v + 105).toNat) := by rw [Nat.pow_add]
    _ ≤ _ := Nat.pow_le_pow_right (by decide) (by omega)
theorem pl_fin {G0 G F : Int → Int} {fac hg fi sk v : Int} (h : PlI G0 G F fac hg fi 4) (hd : dF F v) (hv : dB v) (hsk : sk = 103 - tp v) (hfi : fi = sk / 8) (hhg : hg = 10 ^ (8 - sk % 8).toNat) : wv G 30 = wv G0 30 + fac * (xX v : Int) ∧ ∀ q : Int, 0 ≤ q → q < 30 → -400000000 ≤ G q - G0 q ∧ G q - G0 q ≤ 400000000 := by
  have ht := hv.t
  refine ⟨?_, fun q a b => by have := h.2 q a b; omega⟩
  rw [h.1, pS_4, hd.2, hhg]
  unfold xX
  rw [Int.natCast_mul, p10c, Int.mul_assoc fac, ← Int.pow_add, show (8 - sk % 8).toNat + (8 * (25 - fi)).toNat = (tp v + 105).toNat by omega, Int.mul_assoc, Int.mul_comm (10 ^ (tp v + 105).toNat)]

set_option maxHeartbeats 4000000 in
set_option maxRecDepth 100000 in
/-- K_pl -/
theorem K_pl {p : Program} {l : Launch} {e : Env} {s : State} {m : MethodId} {args : Array Value} {below : List Frame} {meth : Method} {c : Code} {Q : State → Prop} {D : va_G} {cs : Nat → ClassId} {Z : (Nat → Prop) → State → Heap → Prop} {A : Nat → Prop}  (S : CallFix p m c c_Ca_place 10 s args wA "ArithmeticForms$Calculator") (hK : va_K D clsA (tysA cs) s) (hZo : fm_Zok Z) (tT : Nat) (hZc : ∀ A U H, Z A U H → Zc tT A U H) (hZ : Z A s s.heap) (hA : ∀ q, s.heap.size ≤ q → A q) (μ0 : fm_Mu) (k w lf on P : Nat) (G : Int → Int) (h a : Nat) (co v : Int) (F : Int → Int) (fac hg lw fi sk : Int) (hd : dF F v) (hfac : fac = 1 ∨ fac = -1) (hlh : hg * lw = 100000000) (hlb : 0 < lw ∧ lw ≤ 100000000 ∧ 0 < hg) (hfi : 0 ≤ fi ∧ fi ≤ 25) (kk117 : ∀ (μ1 : fm_Mu) (i : Int) (n : Nat) (G1 : Int → Int) (H : Heap) (locs : List Loc) (ls : Array Slot), (n = 4) → (PlI G G1 F fac hg fi n) → (μ1 k = some (oE 1 [.int (iN ((P : Int))), .ref w, .ref lf, .ref on])) → (μ1 w = some (lE cs 30 G1)) → (μ1 h = some (oE 2 [.int (iN (co)), .int (iN ((sgn v))), .int (iN ((tp v))), .int (iN ((nd (cN v) : Int))), .ref a])) → (μ1 a = some (lE cs 4 F)) → fm_O μ0 μ1 [w] → lv_has ls 10 [(9, .int (iN (i))), (7, .long (jN (hg))), (5, .long (jN (lw))), (4, .int (iN (fi))), (3, .int (iN (sk))), (0, .ref k), (1, .ref h), (2, .int (iN (fac)))] → fm_W D clsA A s.heap μ1 H locs → W p l e ({ frames := 1, cells := 0, slots := 0, locals := 20 }) s m args below meth c H locs 0 0 Q (F0 m 117 ls [])) : ∀ (fu : Nat) (μ1 : fm_Mu) (i : Int) (n : Nat) (G1 : Int → Int) (H : Heap) (locs : List Loc) (ls : Array Slot), 10 - i < (fu : Int) → (i = n ∧ n ≤ 4) → (PlI G G1 F fac hg fi n) → (μ1 k = some (oE 1 [.int (iN ((P : Int))), .ref w, .ref lf, .ref on])) → (μ1 w = some (lE cs 30 G1)) → (μ1 h = some (oE 2 [.int (iN (co)), .int (iN ((sgn v))), .int (iN ((tp v))), .int (iN ((nd (cN v) : Int))), .ref a])) → (μ1 a = some (lE cs 4 F)) → fm_O μ0 μ1 [w] → lv_has ls 10 [(9, .int (iN (i))), (7, .long (jN (hg))), (5, .long (jN (lw))), (4, .int (iN (fi))), (3, .int (iN (sk))), (0, .ref k), (1, .ref h), (2, .int (iN (fac)))] → fm_W D clsA A s.heap μ1 H locs → W p l e ({ frames := 1, cells := 0, slots := 0, locals := 20 }) s m args below meth c H locs 0 0 Q (F0 m 48 ls []) := by
  obtain ⟨hx, hb, hml, hown, hts⟩ := id S
  have hzc := hZc _ _ _ hZ
  intro fu
  induction fu with
  | zero =>
    intro μ1 i n G1 H locs ls hn hi hPl c_k c_w c_h c_a hO0 hl hw
    exfalso; omega
  | succ fu ih =>
    intro μ1 i n G1 H locs ls hn hi hPl c_k c_w c_h c_a hO0 hl hw
    refine lv_iload hx hb d_Ca_place_48 (lv_at hl 0 rfl) ?_
    refine fm_iconst S d_Ca_place_50 ?_
    refine fm_icmp_ge (tgt := 117) S (by omega) (by omega) d_Ca_place_51 (by decide) (fun c1 => ?_) (fun c1 => ?_)
    · exact kk117 μ1 i n G1 _ _ _ (by omega) (hPl) c_k c_w c_h c_a hO0 (lv_sub hl [0, 1, 2, 3, 4, 5, 6, 7] rfl) hw
    · have hf := hd.1 i (by omega) (by omega)
      have hdv := Int.ediv_nonneg hf.1 (show 0 ≤ lw by omega)
      refine lv_aload_n hx hb d_Ca_place_54 rfl (lv_at hl 5 rfl) ?_
      refine fm_get S hK hw c_k i_Ca rfl 1 (by decide) (hts _ k100) (fun _ h => h) rfl d_Ca_place_55 ?_
      refine lv_iload hx hb d_Ca_place_58 (lv_at hl 3 rfl) ?_
      refine lv_iload hx hb d_Ca_place_60 (lv_at hl 0 rfl) ?_
      refine fm_iadd S d_Ca_place_62 ?_
      refine lv_dup2_11 hx hb d_Ca_place_63 rfl rfl ?_
      refine cl_lald S hK hw c_w (by omega) d_Ca_place_64 ?_
      refine lv_iload_n hx hb d_Ca_place_65 rfl (lv_at hl 7 rfl) ?_
      refine fm_i2l S (by omega) d_Ca_place_66 ?_
      refine lv_aload_n hx hb d_Ca_place_67 rfl (lv_at hl 6 rfl) ?_
      refine fm_get S hK hw c_h i_De rfl 4 (by decide) (hts _ k45) (fun _ h => h) rfl d_Ca_place_68 ?_
      refine lv_iload hx hb d_Ca_place_71 (lv_at hl 0 rfl) ?_
      refine cl_lald S hK hw c_a (by omega) d_Ca_place_73 ?_
      refine lv_lload hx hb d_Ca_place_74 (lv_at hl 2 rfl) ?_
      refine fm_ldivN S (by omega) d_Ca_place_76 ?_
      refine fm_lmul S d_Ca_place_77 ?_
      refine fm_ladd S d_Ca_place_78 ?_
      refine cl_last S hK hw c_w (by omega) d_Ca_place_79 (fun F2 μ3 H locs eF2 hw hq hO => ?_)
      have k_k : μ3 k = some (oE 1 [.int (iN ((P : Int))), .ref w, .ref lf, .ref on]) := hO.at (nmc (fm_kn c_k c_w rfl) nm0) c_k
      have k_h : μ3 h = some (oE 2 [.int (iN (co)), .int (iN ((sgn v))), .int (iN ((tp v))), .int (iN ((nd (cN v) : Int))), .ref a]) := hO.at (nmc (fm_kn c_h c_w rfl) nm0) c_h
      have k_a : μ3 a = some (lE cs 4 F) := hO.at (nmc (fm_kn c_a c_w rfl) nm0) c_a
      have k_w : μ3 w = some (lE cs 30 F2) := hq
      have hO0 := hO0.tr1 hO (by simp)
      clear c_k c_w c_h c_a
      have c_k := k_k; clear k_k
      have c_h := k_h; clear k_h
      have c_a := k_a; clear k_a
      have c_w := k_w; clear k_w
      clear hq hO
      refine lv_aload_n hx hb d_Ca_place_80 rfl (lv_at hl 5 rfl) ?_
      refine fm_get S hK hw c_k i_Ca rfl 1 (by decide) (hts _ k100) (fun _ h => h) rfl d_Ca_place_81 ?_
      refine lv_iload hx hb d_Ca_place_84 (lv_at hl 3 rfl) ?_
      refine lv_iload hx hb d_Ca_place_86 (lv_at hl 0 rfl) ?_
      refine fm_iadd S d_Ca_place_88 ?_
      refine fm_iconst S d_Ca_place_89 ?_
      refine fm_iadd S d_Ca_place_90 ?_
      refine lv_dup2_11 hx hb d_Ca_place_91 rfl rfl ?_
      refine cl_lald S hK hw c_w (by omega) d_Ca_place_92 ?_
      refine lv_iload_n hx hb d_Ca_place_93 rfl (lv_at hl 7 rfl) ?_
      refine fm_i2l S (by omega) d_Ca_place_94 ?_
      refine lv_aload_n hx hb d_Ca_place_95 rfl (lv_at hl 6 rfl) ?_
      refine fm_get S hK hw c_h i_De rfl 4 (by decide) (hts _ k45) (fun _ h => h) rfl d_Ca_place_96 ?_
      refine lv_iload hx hb d_Ca_place_99 (lv_at hl 0 rfl) ?_
      refine cl_lald S hK hw c_a (by omega) d_Ca_place_101 ?_
      refine lv_lload hx hb d_Ca_place_102 (lv_at hl 2 rfl) ?_
      refine fm_lremN S (by omega) d_Ca_place_104 ?_
      refine lv_lload hx hb d_Ca_place_105 (lv_at hl 1 rfl) ?_
      refine fm_lmul S d_Ca_place_107 ?_
      refine fm_lmul S d_Ca_place_108 ?_
      refine fm_ladd S d_Ca_place_109 ?_
      refine cl_last S hK hw c_w (by omega) d_Ca_place_110 (fun F4 μ5 H locs eF4 hw hq hO => ?_)
      have k_k : μ5 k = some (oE 1 [.int (iN ((P : Int))), .ref w, .ref lf, .ref on]) := hO.at (nmc (fm_kn c_k c_w rfl) nm0) c_k
      have k_h : μ5 h = some (oE 2 [.int (iN (co)), .int (iN ((sgn v))), .int (iN ((tp v))), .int (iN ((nd (cN v) : Int))), .ref a]) := hO.at (nmc (fm_kn c_h c_w rfl) nm0) c_h
      have k_a : μ5 a = some (lE cs 4 F) := hO.at (nmc (fm_kn c_a c_w rfl) nm0) c_a
      have k_w : μ5 w = some (lE cs 30 F4) := hq
      have hO0 := hO0.tr1 hO (by simp)
      clear c_k c_h c_a c_w
      have c_k := k_k; clear k_k
      have c_h := k_h; clear k_h
      have c_a := k_a; clear k_a
      have c_w := k_w; clear k_w
      clear hq hO
      refine lv_iinc (v := iN ((i + 1))) (lv' := [(9, .int (iN ((i + 1)))), (7, .long (jN (hg))), (5, .long (jN (lw))), (4, .int (iN (fi))), (3, .int (iN (sk))), (0, .ref k), (1, .ref h), (2, .int (iN (fac)))]) hx hb d_Ca_place_111 hl (k := 0) rfl (iN_add _ _) (by decide) rfl (fun ls hl => ?_)
      refine lv_goto (tgt := 48) hx hb d_Ca_place_114 (by decide) ?_
      exact ih μ5 (i + 1) (n + 1) F4 _ _ _ (by omega) (by omega) (hPl.step (G1 := F2) (G2 := F4) (by omega) (by omega) hfac hlh (by omega) (by omega) (by rw [← hi.1]; exact hf) (by rw [← hi.1]; exact eF2) (by rw [← hi.1]; exact eF4)) c_k c_w c_h c_a hO0 (lv_sub hl [0, 1, 2, 3, 4, 5, 6, 7] rfl) hw

set_option maxHeartbeats 4000000 in
set_option maxRecDepth 100000 in
/-- place(d, fac) -/
theorem t_Ca_place (l : Launch) (D : va_G) (cs : Nat → ClassId) (Z : (Nat → Prop) → State → Heap → Prop) (hZo : fm_Zok Z) (tT : Nat) (hZc : ∀ A U H, Z A U H → Zc tT A U H) (μ : fm_Mu) (sz : Nat) (k : Nat) (w : Nat) (lf : Nat) (on : Nat) (P : Nat) (G : Int → Int) (h : Nat) (a : Nat) (co : Int) (v : Int) (F : Int → Int) (fac : Int) (hd : dF F v) (hv : dB v) (hfac : fac = 1 ∨ fac = -1) (c_k : μ k = some (oE 1 [.int (iN ((P : Int))), .ref w, .ref lf, .ref on])) (c_w : μ w = some (lE cs 30 G)) (c_h : μ h = some (oE 2 [.int (iN (co)), .int (iN ((sgn v))), .int (iN ((tp v))), .int (iN ((nd (cN v) : Int))), .ref a])) (c_a : μ a = some (lE cs 4 F)) : Met l y_Ca_place (Cond.code y_Ca_place c_Ca_place 10 none :: wA) ({ frames := 1, cells := 0, slots := 0, locals := 20 }) (fm_Pc D clsA (tysA cs) Z μ sz [.ref k, .ref h, .int (iN (fac))]) (fm_Qv D clsA (tysA cs) μ sz (fun μ' => ∃ G' : Int → Int, μ' w = some (lE cs 30 G') ∧ wv G' 30 = wv G 30 + fac * (xX v : Int) ∧ (∀ q : Int, 0 ≤ q → q < 30 → -400000000 ≤ G' q - G q ∧ G' q - G q ≤ 400000000) ∧ fm_O μ μ' [w])) 0 0 (fm_A μ sz) := by
  refine cl_of (by decide +kernel) (Nat.le_of_ble_eq_true rfl) (fun p e s m below meth c S hr hlocks hnm hsz hw hK hZ hA ls hl => ?_)
  subst hsz
  replace S : CallFix p m c c_Ca_place 10 s _ wA "ArithmeticForms$Calculator" := S
  obtain ⟨hx, hb, hml, hown, hts⟩ := id S
  have hzc := hZc _ _ _ hZ
  have hO0 : fm_O μ μ [w] := fm_O.rf
  have hl : lv_has ls 10 [(0, .ref k), (1, .ref h), (2, .int (iN (fac)))] := hl
  have htp := hv.t
  refine fm_bipush S d_Ca_place_0 (by decide) ?_
  refine lv_aload_n hx hb d_Ca_place_2 rfl (lv_at hl 1 rfl) ?_
  refine fm_get S hK hw c_h i_De rfl 2 (by decide) (hts _ k40) (fun _ h => h) rfl d_Ca_place_3 ?_
  refine fm_isub S d_Ca_place_6 ?_
  refine fm_topi (fun x1 hx1 => ?_)
  refine lv_istore_n (lv' := [(3, .int (iN (x1))), (0, .ref k), (1, .ref h), (2, .int (iN (fac)))]) hx hb d_Ca_place_7 rfl hl (by decide) rfl (fun ls hl => ?_)
  refine lv_iload_n hx hb d_Ca_place_8 rfl (lv_at hl 0 rfl) ?_
  refine fm_bipush S d_Ca_place_9 (by decide) ?_
  refine fm_idivN S (by omega) d_Ca_place_11 ?_
  refine fm_topi (fun x2 hx2 => ?_)
  refine lv_istore (lv' := [(4, .int (iN (x2))), (3, .int (iN (x1))), (0, .ref k), (1, .ref h), (2, .int (iN (fac)))]) hx hb d_Ca_place_12 hl (by decide) rfl (fun ls hl => ?_)
  refine lv_iload_n hx hb d_Ca_place_14 rfl (lv_at hl 1 rfl) ?_
  refine fm_if_lt (tgt := 27) S (by omega) d_Ca_place_15 (by decide) (fun c3 => ?_) (fun c3 => ?_)
  · exfalso; omega
  · refine lv_iload hx hb d_Ca_place_18 (lv_at hl 0 rfl) ?_
    refine fm_iconst S d_Ca_place_20 ?_
    refine fm_iadd S d_Ca_place_21 ?_
    refine fm_bipush S d_Ca_place_22 (by decide) ?_
    refine fm_icmp_lt (tgt := 28) S (by omega) (by omega) d_Ca_place_24 (by decide) (fun c4 => ?_) (fun c4 => ?_)
    · refine lv_iload_n hx hb d_Ca_place_28 rfl (lv_at hl 1 rfl) ?_
      refine fm_bipush S d_Ca_place_29 (by decide) ?_
      refine fm_iremN S (by omega) d_Ca_place_31 ?_
      refine fm_callSl (va_runSN (As := [.int (iN ((x1 % 8)))]) (rest := []) S (t_AF_ten l D cs Z hZo tT hZc μ _ (x1 % 8) (by omega)) ⟨cwNA 1 hts k85 rfl rfl hzc.2.2.1.2.2.2.1 k1 (by decide +kernel) (by decide), hts _ k84, trivial⟩ (fm_pre hZo hK hw hZ hA _) rfl rfl hl.1 rfl (lv_room (Nat.le_of_ble_eq_true rfl)) d_Ca_place_32 ⟨Nat.le_of_ble_eq_true rfl, Nat.le_of_ble_eq_true rfl⟩) (fun x6 q5 => ?_)
      have hlt := tenV_in (k := x1 % 8)
      have hle := tenV_e (k := x1 % 8) (by omega) (by omega)
      refine lv_lstore (lv' := [(5, .long (jN (x6))), (4, .int (iN (x2))), (3, .int (iN (x1))), (0, .ref k), (1, .ref h), (2, .int (iN (fac)))]) hx hb d_Ca_place_35 hl (by decide) rfl (fun ls hl => ?_)
      refine lv_ldc2 (v := jN 100000000) hx hb hown (hts _ k211) d_Ca_place_37 ?_
      refine lv_lload hx hb d_Ca_place_40 (lv_at hl 0 rfl) ?_
      refine fm_ldivN S (by omega) d_Ca_place_42 ?_
      have hlq : x6 = 10 ^ (x1 % 8).toNat := by rw [q5, hle]
      have hh8 : (100000000 : Int) = 10 ^ (8 - x1 % 8).toNat * x6 := by rw [hlq, ← Int.pow_add, show (8 - x1 % 8).toNat + (x1 % 8).toNat = 8 by omega]; rfl
      have hhq : 100000000 / x6 = 10 ^ (8 - x1 % 8).toNat := by rw [hh8]; exact Int.mul_ediv_cancel _ (by omega)
      have hhp := p10 (8 - x1 % 8).toNat
      have hlb := bd_le (7 - x1 % 8) 0
      have hlr : bd (7 - x1 % 8) 0 = x6 := by rw [hlq]; unfold bd; congr 1; omega
      refine fm_topl (fun x7 hx7 => ?_)
      refine lv_lstore (lv' := [(7, .long (jN (x7))), (5, .long (jN (x6))), (4, .int (iN (x2))), (3, .int (iN (x1))), (0, .ref k), (1, .ref h), (2, .int (iN (fac)))]) hx hb d_Ca_place_43 hl (by decide) rfl (fun ls hl => ?_)
      refine fm_iconst S d_Ca_place_45 ?_
      refine lv_istore (lv' := [(9, .int (iN (0))), (7, .long (jN (x7))), (5, .long (jN (x6))), (4, .int (iN (x2))), (3, .int (iN (x1))), (0, .ref k), (1, .ref h), (2, .int (iN (fac)))]) hx hb d_Ca_place_46 hl (by decide) rfl (fun ls hl => ?_)
      rw [hhq] at hx7
      refine K_pl (Z := Z) S hK hZo tT hZc hZ hA μ k w lf on P G h a co v F fac x7 x6 x2 x1 hd hfac (by rw [hx7]; exact hh8.symm) (by omega) (by omega) (fun μ8 i n G1 H locs ls hn4 hPl c_k c_w c_h c_a hO0 hl hw => ?_) (20) μ 0 0 G _ _ _ (by omega) (by omega) (⟨by show _ = _ + _ * 0; omega, fun q a b => by omega⟩) c_k c_w c_h c_a hO0 (lv_sub hl [0, 1, 2, 3, 4, 5, 6, 7] rfl) hw
      refine fm_vret S hr hlocks hK hw d_Ca_place_117 ?_
      subst hn4
      obtain ⟨g1, g2⟩ := pl_fin hPl hd hv hx1 hx2 hx7
      exact ⟨G1, c_w, g1, g2, hO0⟩
    · exfalso; omega

def opW (ca cb : Int) (r : Int × Int) : Int × Int := if ca ≠ 0 then (ca, 0) else if cb ≠ 0 then (cb, 0) else r
theorem opW_0 (r : Int × Int) : opW 0 0 r = r := by unfold opW; simp
theorem opW_r {ca cb : Int} {r : Int × Int} (h : ¬ (ca = 0 ∧ cb = 0)) : opW ca cb r = (if ca ≠ 0 then ca else cb, 0) := by
  unfold opW
  by_cases h1 : ca = 0
  · rw [if_neg (by omega), if_pos (by omega), if_neg (by omega)]
  · rw [if_pos h1, if_pos h1]
theorem fin_mul {P T : Nat} {x s : Int} (k : Nat) : fin P (T * 10 ^ k) (x - k) s = fin P T x s := by
  unfold fin
  rw [cuz_mul, cuv_mul]
theorem add_fin {P T : Nat} {r sg : Int} (h : r.natAbs = T * 10 ^ 164) (hs : T ≠ 0 → sg = sgn r) : fin P T (103 - 239) sg = fin P r.natAbs (-300) (sgn r) := by
  by_cases h0 : T = 0
  · subst h0
    rw [h, Nat.zero_mul, fin_0, fin_0]
  · rw [h, hs h0, show (-300 : Int) = (103 - 239) - ((164 : Nat) : Int) by decide, fin_mul]
theorem sgn_cases (v : Int) : (v < 0 ∧ sgn v = -1) ∨ (v = 0 ∧ sgn v = 0) ∨ (0 < v ∧ sgn v = 1) := by
  unfold sgn
  rcases Int.lt_trichotomy v 0 with h | h | h
  · exact Or.inl ⟨h, by rw [if_pos h]⟩
  · exact Or.inr (Or.inl ⟨h, by rw [if_neg (by omega), if_neg (by omega)]⟩)
  · exact Or.inr (Or.inr ⟨h, by rw [if_neg (by omega), if_pos h]⟩)
theorem add_ok {va vb fac ot f2 sg : Int} {big small : Nat} {T : Nat} (ha : dB va) (hb : dB vb) (hfac : fac = 1 ∨ fac = -1) (ho : ot = sgn vb * fac) (hcase : (va.natAbs < vb.natAbs ∧ sg = ot ∧ big = xX vb ∧ small = xX va) ∨ (¬ va.natAbs < vb.natAbs ∧ sg = sgn va ∧ big = xX va ∧ small = xX vb)) (hf : (sgn va = ot ∧ f2 = 1) ∨ (sgn va ≠ ot ∧ f2 = -1)) (hT : (T : Int) = (big : Int) + f2 * (small : Int)) : (va + fac * vb).natAbs = T * 10 ^ 164 ∧ (T ≠ 0 → sg = sgn (va + fac * vb)) := by
  have A := xX_abs ha
  have B := xX_abs hb
  have hp : (10 : Nat) ^ 164 ≠ 0 := Nat.pos_iff_ne_zero.mp (p10N 164)
  have key : ∀ t : Int, t = (T : Int) * ((10 ^ 164 : Nat) : Int) → t = (T * 10 ^ 164 : Nat) := fun t h => by rw [h, Int.natCast_mul]
  have e : (T : Int) * ((10 ^ 164 : Nat) : Int) = ((big * 10 ^ 164 : Nat) : Int) + f2 * ((small * 10 ^ 164 : Nat) : Int) := by
    rw [hT, Int.natCast_mul, Int.natCast_mul, Int.add_mul, Int.mul_assoc]
  have hT0 : (T ≠ 0) → ((T : Int) * ((10 ^ 164 : Nat) : Int) ≠ 0) := fun h q => by
    rcases Int.mul_eq_zero.mp q with q1 | q1
    · omega
    · exact hp (by exact_mod_cast q1)
  have cA := sgn_cases va
  have cB := sgn_cases vb
  have cR := sgn_cases (va + fac * vb)
  generalize (10 : Nat) ^ 164 = W at *
  rcases hcase with ⟨h1, h2, h3, h4⟩ | ⟨h1, h2, h3, h4⟩
  · rw [h3, h4, ← A, ← B] at e
    generalize (T : Int) * (W : Int) = TW at *
    have hk := key TW rfl
    rcases hfac with hfac | hfac <;> subst hfac <;> rcases hf with ⟨g1, g2⟩ | ⟨g1, g2⟩ <;> subst g2 <;> refine ⟨by omega, fun q => ?_⟩ <;> have hq := hT0 q <;> omega
  · rw [h3, h4, ← A, ← B] at e
    generalize (T : Int) * (W : Int) = TW at *
    have hk := key TW rfl
    rcases hfac with hfac | hfac <;> subst hfac <;> rcases hf with ⟨g1, g2⟩ | ⟨g1, g2⟩ <;> subst g2 <;> refine ⟨by omega, fun q => ?_⟩ <;> have hq := hT0 q <;> omega

set_option maxHeartbeats 4000000 in
set_option maxRecDepth 100000 in
/-- add(into, a, b, fac) -/
theorem t_Ca_add (l : Launch) (D : va_G) (cs : Nat → ClassId) (Z : (Nat → Prop) → State → Heap → Prop) (hZo : fm_Zok Z) (tT : Nat) (hZc : ∀ A U H, Z A U H → Zc tT A U H) (μ : fm_Mu) (sz : Nat) (k : Nat) (w : Nat) (lf : Nat) (on : Nat) (P : Nat) (G : Int → Int) (h : Nat) (a : Nat) (co : Int) (sg : Int) (tq : Int) (ct : Int) (F : Int → Int) (ga : Nat) (la : Nat) (ca : Int) (va : Int) (FA : Int → Int) (gb : Nat) (lb : Nat) (cb : Int) (vb : Int) (FB : Int → Int) (fac : Int) (hca : inI ca) (hcb : inI cb) (hda : dF FA va) (hva : dB va) (hdb : dF FB vb) (hvb : dB vb) (hP : 1 ≤ P ∧ P ≤ 31) (hfac : fac = 1 ∨ fac = -1) (c_k : μ k = some (oE 1 [.int (iN ((P : Int))), .ref w, .ref lf, .ref on])) (c_w : μ w = some (lE cs 30 G)) (c_h : μ h = some (oE 2 [.int (iN (co)), .int (iN (sg)), .int (iN (tq)), .int (iN (ct)), .ref a])) (c_a : μ a = some (lE cs 4 F)) (c_ga : μ ga = some (oE 2 [.int (iN (ca)), .int (iN ((sgn va))), .int (iN ((tp va))), .int (iN ((nd (cN va) : Int))), .ref la])) (c_la : μ la = some (lE cs 4 FA)) (c_gb : μ gb = some (oE 2 [.int (iN (cb)), .int (iN ((sgn vb))), .int (iN ((tp vb))), .int (iN ((nd (cN vb) : Int))), .ref lb])) (c_lb : μ lb = some (lE cs 4 FB)) : Met l y_Ca_add (Cond.code y_Ca_add c_Ca_add 7 none :: wA) ({ frames := 4, cells := 0, slots := 0, locals := 98 }) (fm_Pc D clsA (tysA cs) Z μ sz [.ref k, .ref h, .ref ga, .ref gb, .int (iN (fac))]) (fm_Qv D clsA (tysA cs) μ sz (fun μ' => Dc cs μ' h a (opW ca cb (sAdd P va (fac * vb))).1 (opW ca cb (sAdd P va (fac * vb))).2 ∧ (∃ G' : Int → Int, μ' w = some (lE cs 30 G')) ∧ fm_O μ μ' [h, a, w])) 0 0 (fm_A μ sz) := by
  refine cl_of (by decide +kernel) (Nat.le_of_ble_eq_true rfl) (fun p e s m below meth c S hr hlocks hnm hsz hw hK hZ hA ls hl => ?_)
  subst hsz
  replace S : CallFix p m c c_Ca_add 7 s _ wA "ArithmeticForms$Calculator" := S
  obtain ⟨hx, hb, hml, hown, hts⟩ := id S
  have hzc := hZc _ _ _ hZ
  have hO0 : fm_O μ μ [h, a, w] := fm_O.rf
  have hl : lv_has ls 7 [(0, .ref k), (1, .ref h), (2, .ref ga), (3, .ref gb), (4, .int (iN (fac)))] := hl
  refine lv_aload_n hx hb d_Ca_add_0 rfl (lv_at hl 1 rfl) ?_
  refine lv_aload_n hx hb d_Ca_add_1 rfl (lv_at hl 2 rfl) ?_
  refine lv_aload_n hx hb d_Ca_add_2 rfl (lv_at hl 3 rfl) ?_
  refine fm_calli (va_runS (As := [.ref h, .ref ga, .ref gb]) (rest := []) S (t_Ca_passOn l D cs Z hZo tT hZc μ _ h a co sg tq ct F ga la ca va FA gb lb cb vb FB (by omega) (by omega) c_h c_a c_ga c_la c_gb c_lb) (va_cwS 3 hts (gS k166 k167 k3 k168) rfl rfl rfl (by decide +kernel) (by decide)) (fm_pre hZo hK hw hZ hA _) rfl rfl hl.1 rfl (lv_room (Nat.le_of_ble_eq_true rfl)) d_Ca_add_3 ⟨Nat.le_of_ble_eq_true rfl, Nat.le_of_ble_eq_true rfl⟩) hw hA (fun x2 μ3 H locs q1 hw => ?_)
  rcases q1 with ⟨hz, hc1, hc2, hmu⟩ | ⟨hz, hc1, hDc, hO⟩
  · subst hz
    rw [hmu] at hw
    clear hmu
    refine fm_if_eq (tgt := 10) S (by omega) d_Ca_add_6 (by decide) (fun c4 => ?_) (fun c4 => ?_)
    · subst hc1
      subst hc2
      have htva := hva.t
      have htvb := hvb.t
      have hsa := sgn_in va
      have hsb := sgn_in vb
      refine lv_aload_n hx hb d_Ca_add_10 rfl (lv_at hl 3 rfl) ?_
      refine fm_get S hK hw c_gb i_De rfl 1 (by decide) (hts _ k36) (fun _ h => h) rfl d_Ca_add_11 ?_
      refine lv_iload hx hb d_Ca_add_14 (lv_at hl 4 rfl) ?_
      refine fm_imul S d_Ca_add_16 ?_
      refine fm_topi (fun x5 hx5 => ?_)
      refine lv_istore (lv' := [(5, .int (iN (x5))), (0, .ref k), (1, .ref h), (2, .ref ga), (3, .ref gb), (4, .int (iN (fac)))]) hx hb d_Ca_add_17 hl (by decide) rfl (fun ls hl => ?_)
      have hoi : -1 ≤ x5 ∧ x5 ≤ 1 := by rcases hfac with e1 | e1 <;> rw [e1] at hx5 <;> omega
      refine lv_aload_n hx hb d_Ca_add_19 rfl (lv_at hl 3 rfl) ?_
      refine lv_aload_n hx hb d_Ca_add_20 rfl (lv_at hl 4 rfl) ?_
      refine fm_calli (va_runV (As := [.ref gb]) (rest := []) S (t_De_compareSize l D cs Z hZo tT hZc μ _ ga la 0 va FA gb lb 0 vb FB hda hva hdb hvb c_ga c_la c_gb c_lb) (cwV 1 hts (gV k255 k256 k257 k2 k258) rfl rfl rfl (by decide +kernel) (by decide)) (fm_preV hZo hK hw hZ hA c_ga rfl _) rfl rfl hl.1 rfl (lv_room (Nat.le_of_ble_eq_true rfl)) d_Ca_add_21 ⟨Nat.le_of_ble_eq_true rfl, Nat.le_of_ble_eq_true rfl⟩) hw hA (fun x7 μ8 H locs q6 hw => ?_)
      obtain ⟨q6, hinx7, hmu⟩ := q6
      rw [hmu] at hw
      clear hmu
      refine mo_join (P := fun y => (y = 1 ∧ va.natAbs < vb.natAbs) ∨ (y = 0 ∧ ¬ va.natAbs < vb.natAbs)) (g := fun y => F0 m 32 ls ([.int (iN (y))])) (fun y hy => ?_) (fun key => ?_)
      · refine lv_istore (lv' := [(6, .int (iN (y))), (5, .int (iN (x5))), (0, .ref k), (1, .ref h), (2, .ref ga), (3, .ref gb), (4, .int (iN (fac)))]) hx hb d_Ca_add_32 hl (by decide) rfl (fun ls hl => ?_)
        rcases hy with ⟨hy, hlt⟩ | ⟨hy, hlt⟩ <;> subst hy
        · have hl : lv_has ls 7 [(6, .int (iN (1))), (5, .int (iN (x5))), (0, .ref k), (1, .ref h), (2, .ref ga), (3, .ref gb), (4, .int (iN (fac)))] := hl
          refine lv_aload_n hx hb d_Ca_add_34 rfl (lv_at hl 2 rfl) ?_
          refine fm_get S hK hw c_k i_Ca rfl 1 (by decide) (hts _ k100) (fun _ h => h) rfl d_Ca_add_35 ?_
          refine fm_lconst0 S d_Ca_add_38 ?_
          refine fm_callv (va_runS (As := [.ref w, .long (jN (0))]) (rest := []) S (t_Ar_fill l D cs Z hZo tT hZc μ _ w 30 G 0 (by decide) c_w) (va_cwS 2 hts (gS k206 k81 k5 k82) rfl rfl rfl (by decide +kernel) (by decide)) (fm_pre hZo hK hw hZ hA _) rfl rfl hl.1 rfl (lv_room (Nat.le_of_ble_eq_true rfl)) d_Ca_add_39 ⟨Nat.le_of_ble_eq_true rfl, Nat.le_of_ble_eq_true rfl⟩) hw hA (fun μ10 H locs q9 hw => ?_)
          obtain ⟨F11, hq, eF11, hO⟩ := q9
          have k_k : μ10 k = some (oE 1 [.int (iN ((P : Int))), .ref w, .ref lf, .ref on]) := hO.at (nmc (fm_kn c_k c_w rfl) nm0) c_k
          have k_h : μ10 h = some (oE 2 [.int (iN (co)), .int (iN (sg)), .int (iN (tq)), .int (iN (ct)), .ref a]) := hO.at (nmc (fm_kn c_h c_w rfl) nm0) c_h
          have k_a : μ10 a = some (lE cs 4 F) := hO.at (nmc (fm_kn c_a c_w rfl) nm0) c_a
          have k_ga : μ10 ga = some (oE 2 [.int (iN (0)), .int (iN ((sgn va))), .int (iN ((tp va))), .int (iN ((nd (cN va) : Int))), .ref la]) := hO.at (nmc (fm_kn c_ga c_w rfl) nm0) c_ga
          have k_la : μ10 la = some (lE cs 4 FA) := hO.at (nmc (fm_kn c_la c_w rfl) nm0) c_la
          have k_gb : μ10 gb = some (oE 2 [.int (iN (0)), .int (iN ((sgn vb))), .int (iN ((tp vb))), .int (iN ((nd (cN vb) : Int))), .ref lb]) := hO.at (nmc (fm_kn c_gb c_w rfl) nm0) c_gb
          have k_lb : μ10 lb = some (lE cs 4 FB) := hO.at (nmc (fm_kn c_lb c_w rfl) nm0) c_lb
          have k_w : μ10 w = some (lE cs 30 F11) := hq
          have hO0 := hO0.tr1 hO (by simp)
          clear c_k c_w c_h c_a c_ga c_la c_gb c_lb
          have c_k := k_k; clear k_k
          have c_h := k_h; clear k_h
          have c_a := k_a; clear k_a
          have c_ga := k_ga; clear k_ga
          have c_la := k_la; clear k_la
          have c_gb := k_gb; clear k_gb
          have c_lb := k_lb; clear k_lb
          have c_w := k_w; clear k_w
          clear hq hO
          refine lv_aload_n hx hb d_Ca_add_42 rfl (lv_at hl 2 rfl) ?_
          refine lv_iload hx hb d_Ca_add_43 (lv_at hl 0 rfl) ?_
          refine fm_if_eq (tgt := 52) S (by omega) d_Ca_add_45 (by decide) (fun c12 => ?_) (fun c12 => ?_)
          · exact absurd c12 (by decide)
          · refine lv_aload_n hx hb d_Ca_add_48 rfl (lv_at hl 5 rfl) ?_
            refine lv_goto (tgt := 53) hx hb d_Ca_add_49 (by decide) ?_
            refine fm_iconst S d_Ca_add_53 ?_
            refine fm_callv (va_runV (As := [.ref gb, .int (iN (1))]) (rest := []) S (t_Ca_place l D cs Z hZo tT hZc μ10 _ k w lf on P F11 gb lb 0 vb FB 1 hdb hvb (by omega) c_k c_w c_gb c_lb) (cwV 2 hts (gV k265 k267 ks10 k3 k268) rfl rfl rfl (by decide +kernel) (by decide)) (fm_preV hZo hK hw hZ hA c_k rfl _) rfl rfl hl.1 rfl (lv_room (Nat.le_of_ble_eq_true rfl)) d_Ca_add_54 ⟨Nat.le_of_ble_eq_true rfl, Nat.le_of_ble_eq_true rfl⟩) hw hA (fun μ14 H locs q13 hw => ?_)
            obtain ⟨G15, hq, hwvG15, hbdG15, hO⟩ := q13
            have k_k : μ14 k = some (oE 1 [.int (iN ((P : Int))), .ref w, .ref lf, .ref on]) := hO.at (nmc (fm_kn c_k c_w rfl) nm0) c_k
            have k_h : μ14 h = some (oE 2 [.int (iN (co)), .int (iN (sg)), .int (iN (tq)), .int (iN (ct)), .ref a]) := hO.at (nmc (fm_kn c_h c_w rfl) nm0) c_h
            have k_a : μ14 a = some (lE cs 4 F) := hO.at (nmc (fm_kn c_a c_w rfl) nm0) c_a
            have k_ga : μ14 ga = some (oE 2 [.int (iN (0)), .int (iN ((sgn va))), .int (iN ((tp va))), .int (iN ((nd (cN va) : Int))), .ref la]) := hO.at (nmc (fm_kn c_ga c_w rfl) nm0) c_ga
            have k_la : μ14 la = some (lE cs 4 FA) := hO.at (nmc (fm_kn c_la c_w rfl) nm0) c_la
            have k_gb : μ14 gb = some (oE 2 [.int (iN (0)), .int (iN ((sgn vb))), .int (iN ((tp vb))), .int (iN ((nd (cN vb) : Int))), .ref lb]) := hO.at (nmc (fm_kn c_gb c_w rfl) nm0) c_gb
            have k_lb : μ14 lb = some (lE cs 4 FB) := hO.at (nmc (fm_kn c_lb c_w rfl) nm0) c_lb
            have k_w : μ14 w = some (lE cs 30 G15) := hq
            have hO0 := hO0.tr1 hO (by simp)
            clear c_k c_h c_a c_ga c_la c_gb c_lb c_w
            have c_k := k_k; clear k_k
            have c_h := k_h; clear k_h
            have c_a := k_a; clear k_a
            have c_ga := k_ga; clear k_ga
            have c_la := k_la; clear k_la
            have c_gb := k_gb; clear k_gb
            have c_lb := k_lb; clear k_lb
            have c_w := k_w; clear k_w
            clear hq hO
            refine lv_aload_n hx hb d_Ca_add_57 rfl (lv_at hl 2 rfl) ?_
            refine lv_iload hx hb d_Ca_add_58 (lv_at hl 0 rfl) ?_
            refine fm_if_eq (tgt := 67) S (by omega) d_Ca_add_60 (by decide) (fun c16 => ?_) (fun c16 => ?_)
            · exact absurd c16 (by decide)
            · refine lv_aload_n hx hb d_Ca_add_63 rfl (lv_at hl 4 rfl) ?_
              refine lv_goto (tgt := 68) hx hb d_Ca_add_64 (by decide) ?_
              refine lv_aload_n hx hb d_Ca_add_68 rfl (lv_at hl 4 rfl) ?_
              refine fm_get S hK hw c_ga i_De rfl 1 (by decide) (hts _ k36) (fun _ h => h) rfl d_Ca_add_69 ?_
              refine lv_iload hx hb d_Ca_add_72 (lv_at hl 1 rfl) ?_
              refine fm_icmp_ne (tgt := 81) S (by omega) (by omega) d_Ca_add_74 (by decide) (fun c17 => ?_) (fun c17 => ?_)
              · refine fm_iconst S d_Ca_add_81 ?_
                refine fm_callv (va_runV (As := [.ref ga, .int (iN ((-1)))]) (rest := []) S (t_Ca_place l D cs Z hZo tT hZc μ14 _ k w lf on P G15 ga la 0 va FA (-1) hda hva (by omega) c_k c_w c_ga c_la) (cwV 2 hts (gV k265 k267 ks10 k3 k268) rfl rfl rfl (by decide +kernel) (by decide)) (fm_preV hZo hK hw hZ hA c_k rfl _) rfl rfl hl.1 rfl (lv_room (Nat.le_of_ble_eq_true rfl)) d_Ca_add_82 ⟨Nat.le_of_ble_eq_true rfl, Nat.le_of_ble_eq_true rfl⟩) hw hA (fun μ19 H locs q18 hw => ?_)
                obtain ⟨G20, hq, hwvG20, hbdG20, hO⟩ := q18
                have k_k : μ19 k = some (oE 1 [.int (iN ((P : Int))), .ref w, .ref lf, .ref on]) := hO.at (nmc (fm_kn c_k c_w rfl) nm0) c_k
                have k_h : μ19 h = some (oE 2 [.int (iN (co)), .int (iN (sg)), .int (iN (tq)), .int (iN (ct)), .ref a]) := hO.at (nmc (fm_kn c_h c_w rfl) nm0) c_h
                have k_a : μ19 a = some (lE cs 4 F) := hO.at (nmc (fm_kn c_a c_w rfl) nm0) c_a
                have k_ga : μ19 ga = some (oE 2 [.int (iN (0)), .int (iN ((sgn va))), .int (iN ((tp va))), .int (iN ((nd (cN va) : Int))), .ref la]) := hO.at (nmc (fm_kn c_ga c_w rfl) nm0) c_ga
                have k_la : μ19 la = some (lE cs 4 FA) := hO.at (nmc (fm_kn c_la c_w rfl) nm0) c_la
                have k_gb : μ19 gb = some (oE 2 [.int (iN (0)), .int (iN ((sgn vb))), .int (iN ((tp vb))), .int (iN ((nd (cN vb) : Int))), .ref lb]) := hO.at (nmc (fm_kn c_gb c_w rfl) nm0) c_gb
                have k_lb : μ19 lb = some (lE cs 4 FB) := hO.at (nmc (fm_kn c_lb c_w rfl) nm0) c_lb
                have k_w : μ19 w = some (lE cs 30 G20) := hq
                have hO0 := hO0.tr1 hO (by simp)
                clear c_k c_h c_a c_ga c_la c_gb c_lb c_w
                have c_k := k_k; clear k_k
                have c_h := k_h; clear k_h
                have c_a := k_a; clear k_a
                have c_ga := k_ga; clear k_ga
                have c_la := k_la; clear k_la
                have c_gb := k_gb; clear k_gb
                have c_lb := k_lb; clear k_lb
                have c_w := k_w; clear k_w
                clear hq hO
                have hwz := wv_z (G := F11) 30 (fun q p1 p2 => eF11 q p1 p2)
                rw [hwz] at hwvG15
                rw [hwvG15] at hwvG20
                have hxa := xX_lt hva
                have hxb := xX_lt hvb
                have hAa := xX_abs hva
                have hAb := xX_abs hvb
                have hp164 := p10N 164
                have hle : xX va ≤ xX vb := by
                  rw [hAa, hAb] at hlt
                  first | exact Nat.le_of_lt (Nat.lt_of_mul_lt_mul_right hlt) | (exact Nat.le_of_not_lt (fun hh => hlt (Nat.mul_lt_mul_of_pos_right hh hp164)))
                obtain ⟨T, hTe⟩ : ∃ T : Nat, (T : Int) = ((xX vb : Nat) : Int) + (-1) * ((xX va : Nat) : Int) := ⟨(((xX vb : Nat) : Int) + (-1) * ((xX va : Nat) : Int)).toNat, by omega⟩
                have hTw : wv G20 30 = T := by rw [hwvG20, hTe]; omega
                have hT240 : (T : Int) < 10 ^ 240 := by
                  have e240 : (10 : Nat) ^ 240 = 10000 * 10 ^ 236 := by decide +kernel
                  have c240 := p10c 240
                  omega
                have hgb : ∀ q : Int, 0 ≤ q → q < 30 → -100000000000000000 ≤ G20 q ∧ G20 q ≤ 100000000000000000 := fun q p1 p2 => by
                  have u1 := hbdG15 q p1 p2
                  have u2 := hbdG20 q p1 p2
                  have u3 := eF11 q p1 (by omega)
                  omega
                refine lv_aload_n hx hb d_Ca_add_85 rfl (lv_at hl 2 rfl) ?_
                refine fm_callv (va_runV (As := []) (rest := []) S (t_Ca_carry l D cs Z hZo tT hZc μ19 _ k w lf on P G20 (hgb) (by rw [hTw]; omega) c_k c_w) (cwV 0 hts (gV k207 k209 ks3 k3 k210) rfl rfl rfl (by decide +kernel) (by decide)) (fm_preV hZo hK hw hZ hA c_k rfl _) rfl rfl hl.1 rfl (lv_room (Nat.le_of_ble_eq_true rfl)) d_Ca_add_86 ⟨Nat.le_of_ble_eq_true rfl, Nat.le_of_ble_eq_true rfl⟩) hw hA (fun μ22 H locs q21 hw => ?_)
                obtain ⟨G23, hq, hokG23, hwvG23, hO⟩ := q21
                have k_k : μ22 k = some (oE 1 [.int (iN ((P : Int))), .ref w, .ref lf, .ref on]) := hO.at (nmc (fm_kn c_k c_w rfl) nm0) c_k
                have k_h : μ22 h = some (oE 2 [.int (iN (co)), .int (iN (sg)), .int (iN (tq)), .int (iN (ct)), .ref a]) := hO.at (nmc (fm_kn c_h c_w rfl) nm0) c_h
                have k_a : μ22 a = some (lE cs 4 F) := hO.at (nmc (fm_kn c_a c_w rfl) nm0) c_a
                have k_ga : μ22 ga = some (oE 2 [.int (iN (0)), .int (iN ((sgn va))), .int (iN ((tp va))), .int (iN ((nd (cN va) : Int))), .ref la]) := hO.at (nmc (fm_kn c_ga c_w rfl) nm0) c_ga
                have k_la : μ22 la = some (lE cs 4 FA) := hO.at (nmc (fm_kn c_la c_w rfl) nm0) c_la
                have k_gb : μ22 gb = some (oE 2 [.int (iN (0)), .int (iN ((sgn vb))), .int (iN ((tp vb))), .int (iN ((nd (cN vb) : Int))), .ref lb]) := hO.at (nmc (fm_kn c_gb c_w rfl) nm0) c_gb
                have k_lb : μ22 lb = some (lE cs 4 FB) := hO.at (nmc (fm_kn c_lb c_w rfl) nm0) c_lb
                have k_w : μ22 w = some (lE cs 30 G23) := hq
                have hO0 := hO0.tr1 hO (by simp)
                clear c_k c_h c_a c_ga c_la c_gb c_lb c_w
                have c_k := k_k; clear k_k
                have c_h := k_h; clear k_h
                have c_a := k_a; clear k_a
                have c_ga := k_ga; clear k_ga
                have c_la := k_la; clear k_la
                have c_gb := k_gb; clear k_gb
                have c_lb := k_lb; clear k_lb
                have c_w := k_w; clear k_w
                clear hq hO
                obtain ⟨hab, hsg⟩ := add_ok (f2 := -1) (sg := x5) hva hvb hfac hx5 (Or.inl ⟨hlt, rfl, rfl, rfl⟩) (Or.inr ⟨by omega, rfl⟩) hTe
                have hsn9 : T ≠ 0 → x5 = 1 ∨ x5 = -1 := fun q => by
                  rw [hsg q]
                  refine sgn_nz (fun z => ?_)
                  rw [z] at hab
                  have hz9 : T * 10 ^ 164 = 0 := hab.symm
                  rcases Nat.mul_eq_zero.mp hz9 with z9 | z9
                  · exact q z9
                  · omega
                refine lv_aload_n hx hb d_Ca_add_89 rfl (lv_at hl 2 rfl) ?_
                refine lv_aload_n hx hb d_Ca_add_90 rfl (lv_at hl 3 rfl) ?_
                refine lv_iload hx hb d_Ca_add_91 (lv_at hl 0 rfl) ?_
                refine fm_if_eq (tgt := 101) S (by omega) d_Ca_add_93 (by decide) (fun c24 => ?_) (fun c24 => ?_)
                · exact absurd c24 (by decide)
                · refine lv_iload hx hb d_Ca_add_96 (lv_at hl 1 rfl) ?_
                  refine lv_goto (tgt := 105) hx hb d_Ca_add_98 (by decide) ?_
                  refine fm_bipush S d_Ca_add_105 (by decide) ?_
                  refine fm_callv (va_runV (As := [.ref h, .int (iN (x5)), .int (iN (103))]) (rest := []) S (t_Ca_settle l D cs Z hZo tT hZc μ22 _ k w lf on P G23 h a co sg tq ct F T x5 103 hokG23 (by rw [hwvG23, hTw]) hP (hsn9) (by omega) c_k c_w c_h c_a) (cwV 3 hts (gV k215 k217 ks4 k3 k218) rfl rfl rfl (by decide +kernel) (by decide)) (fm_preV hZo hK hw hZ hA c_k rfl _) rfl rfl hl.1 rfl (lv_room (Nat.le_of_ble_eq_true rfl)) d_Ca_add_107 ⟨Nat.le_of_ble_eq_true rfl, Nat.le_of_ble_eq_true rfl⟩) hw hA (fun μ26 H locs q25 hw => ?_)
                  obtain ⟨hDc, hO⟩ := q25
                  have k_k : μ26 k = some (oE 1 [.int (iN ((P : Int))), .ref w, .ref lf, .ref on]) := hO.at (nmc (fm_kn c_k c_h rfl) (nmc (fm_kn c_k c_a rfl) nm0)) c_k
                  have k_w : μ26 w = some (lE cs 30 G23) := hO.at (nmc (fm_kn c_w c_h rfl) (nmc (fm_kn c_w c_a rfl) nm0)) c_w
                  have hO0 := hO0.tr1 hO (by simp)
                  clear c_k c_h c_a c_ga c_la c_gb c_lb c_w
                  have c_k := k_k; clear k_k
                  have c_w := k_w; clear k_w
                  refine fm_vret S hr hlocks hK hw d_Ca_add_110 ?_
                  rw [opW_0]
                  unfold sAdd
                  rw [← add_fin hab hsg]
                  exact ⟨hDc, ⟨_, c_w⟩, hO0⟩
              · refine fm_iconst S d_Ca_add_77 ?_
                refine lv_goto (tgt := 82) hx hb d_Ca_add_78 (by decide) ?_
                refine fm_callv (va_runV (As := [.ref ga, .int (iN (1))]) (rest := []) S (t_Ca_place l D cs Z hZo tT hZc μ14 _ k w lf on P G15 ga la 0 va FA 1 hda hva (by omega) c_k c_w c_ga c_la) (cwV 2 hts (gV k265 k267 ks10 k3 k268) rfl rfl rfl (by decide +kernel) (by decide)) (fm_preV hZo hK hw hZ hA c_k rfl _) rfl rfl hl.1 rfl (lv_room (Nat.le_of_ble_eq_true rfl)) d_Ca_add_82 ⟨Nat.le_of_ble_eq_true rfl, Nat.le_of_ble_eq_true rfl⟩) hw hA (fun μ28 H locs q27 hw => ?_)
                obtain ⟨G29, hq, hwvG29, hbdG29, hO⟩ := q27
                have k_k : μ28 k = some (oE 1 [.int (iN ((P : Int))), .ref w, .ref lf, .ref on]) := hO.at (nmc (fm_kn c_k c_w rfl) nm0) c_k
                have k_h : μ28 h = some (oE 2 [.int (iN (co)), .int (iN (sg)), .int (iN (tq)), .int (iN (ct)), .ref a]) := hO.at (nmc (fm_kn c_h c_w rfl) nm0) c_h
                have k_a : μ28 a = some (lE cs 4 F) := hO.at (nmc (fm_kn c_a c_w rfl) nm0) c_a
                have k_ga : μ28 ga = some (oE 2 [.int (iN (0)), .int (iN ((sgn va))), .int (iN ((tp va))), .int (iN ((nd (cN va) : Int))), .ref la]) := hO.at (nmc (fm_kn c_ga c_w rfl) nm0) c_ga
                have k_la : μ28 la = some (lE cs 4 FA) := hO.at (nmc (fm_kn c_la c_w rfl) nm0) c_la
                have k_gb : μ28 gb = some (oE 2 [.int (iN (0)), .int (iN ((sgn vb))), .int (iN ((tp vb))), .int (iN ((nd (cN vb) : Int))), .ref lb]) := hO.at (nmc (fm_kn c_gb c_w rfl) nm0) c_gb
                have k_lb : μ28 lb = some (lE cs 4 FB) := hO.at (nmc (fm_kn c_lb c_w rfl) nm0) c_lb
                have k_w : μ28 w = some (lE cs 30 G29) := hq
                have hO0 := hO0.tr1 hO (by simp)
                clear c_k c_h c_a c_ga c_la c_gb c_lb c_w
                have c_k := k_k; clear k_k
                have c_h := k_h; clear k_h
                have c_a := k_a; clear k_a
                have c_ga := k_ga; clear k_ga
                have c_la := k_la; clear k_la
                have c_gb := k_gb; clear k_gb
                have c_lb := k_lb; clear k_lb
                have c_w := k_w; clear k_w
                clear hq hO
                have hwz := wv_z (G := F11) 30 (fun q p1 p2 => eF11 q p1 p2)
                rw [hwz] at hwvG15
                rw [hwvG15] at hwvG29
                have hxa := xX_lt hva
                have hxb := xX_lt hvb
                have hAa := xX_abs hva
                have hAb := xX_abs hvb
                have hp164 := p10N 164
                have hle : xX va ≤ xX vb := by
                  rw [hAa, hAb] at hlt
                  first | exact Nat.le_of_lt (Nat.lt_of_mul_lt_mul_right hlt) | (exact Nat.le_of_not_lt (fun hh => hlt (Nat.mul_lt_mul_of_pos_right hh hp164)))
                obtain ⟨T, hTe⟩ : ∃ T : Nat, (T : Int) = ((xX vb : Nat) : Int) + (1) * ((xX va : Nat) : Int) := ⟨(((xX vb : Nat) : Int) + (1) * ((xX va : Nat) : Int)).toNat, by omega⟩
                have hTw : wv G29 30 = T := by rw [hwvG29, hTe]; omega
                have hT240 : (T : Int) < 10 ^ 240 := by
                  have e240 : (10 : Nat) ^ 240 = 10000 * 10 ^ 236 := by decide +kernel
                  have c240 := p10c 240
                  omega
                have hgb : ∀ q : Int, 0 ≤ q → q < 30 → -100000000000000000 ≤ G29 q ∧ G29 q ≤ 100000000000000000 := fun q p1 p2 => by
                  have u1 := hbdG15 q p1 p2
                  have u2 := hbdG29 q p1 p2
                  have u3 := eF11 q p1 (by omega)
                  omega
                refine lv_aload_n hx hb d_Ca_add_85 rfl (lv_at hl 2 rfl) ?_
                refine fm_callv (va_runV (As := []) (rest := []) S (t_Ca_carry l D cs Z hZo tT hZc μ28 _ k w lf on P G29 (hgb) (by rw [hTw]; omega) c_k c_w) (cwV 0 hts (gV k207 k209 ks3 k3 k210) rfl rfl rfl (by decide +kernel) (by decide)) (fm_preV hZo hK hw hZ hA c_k rfl _) rfl rfl hl.1 rfl (lv_room (Nat.le_of_ble_eq_true rfl)) d_Ca_add_86 ⟨Nat.le_of_ble_eq_true rfl, Nat.le_of_ble_eq_true rfl⟩) hw hA (fun μ31 H locs q30 hw => ?_)
                obtain ⟨G32, hq, hokG32, hwvG32, hO⟩ := q30
                have k_k : μ31 k = some (oE 1 [.int (iN ((P : Int))), .ref w, .ref lf, .ref on]) := hO.at (nmc (fm_kn c_k c_w rfl) nm0) c_k
                have k_h : μ31 h = some (oE 2 [.int (iN (co)), .int (iN (sg)), .int (iN (tq)), .int (iN (ct)), .ref a]) := hO.at (nmc (fm_kn c_h c_w rfl) nm0) c_h
                have k_a : μ31 a = some (lE cs 4 F) := hO.at (nmc (fm_kn c_a c_w rfl) nm0) c_a
                have k_ga : μ31 ga = some (oE 2 [.int (iN (0)), .int (iN ((sgn va))), .int (iN ((tp va))), .int (iN ((nd (cN va) : Int))), .ref la]) := hO.at (nmc (fm_kn c_ga c_w rfl) nm0) c_ga
                have k_la : μ31 la = some (lE cs 4 FA) := hO.at (nmc (fm_kn c_la c_w rfl) nm0) c_la
                have k_gb : μ31 gb = some (oE 2 [.int (iN (0)), .int (iN ((sgn vb))), .int (iN ((tp vb))), .int (iN ((nd (cN vb) : Int))), .ref lb]) := hO.at (nmc (fm_kn c_gb c_w rfl) nm0) c_gb
                have k_lb : μ31 lb = some (lE cs 4 FB) := hO.at (nmc (fm_kn c_lb c_w rfl) nm0) c_lb
                have k_w : μ31 w = some (lE cs 30 G32) := hq
                have hO0 := hO0.tr1 hO (by simp)
                clear c_k c_h c_a c_ga c_la c_gb c_lb c_w
                have c_k := k_k; clear k_k
                have c_h := k_h; clear k_h
                have c_a := k_a; clear k_a
                have c_ga := k_ga; clear k_ga
                have c_la := k_la; clear k_la
                have c_gb := k_gb; clear k_gb
                have c_lb := k_lb; clear k_lb
                have c_w := k_w; clear k_w
                clear hq hO
                obtain ⟨hab, hsg⟩ := add_ok (f2 := 1) (sg := x5) hva hvb hfac hx5 (Or.inl ⟨hlt, rfl, rfl, rfl⟩) (Or.inl ⟨by omega, rfl⟩) hTe
                have hsn9 : T ≠ 0 → x5 = 1 ∨ x5 = -1 := fun q => by
                  rw [hsg q]
                  refine sgn_nz (fun z => ?_)
                  rw [z] at hab
                  have hz9 : T * 10 ^ 164 = 0 := hab.symm
                  rcases Nat.mul_eq_zero.mp hz9 with z9 | z9
                  · exact q z9
                  · omega
                refine lv_aload_n hx hb d_Ca_add_89 rfl (lv_at hl 2 rfl) ?_
                refine lv_aload_n hx hb d_Ca_add_90 rfl (lv_at hl 3 rfl) ?_
                refine lv_iload hx hb d_Ca_add_91 (lv_at hl 0 rfl) ?_
                refine fm_if_eq (tgt := 101) S (by omega) d_Ca_add_93 (by decide) (fun c33 => ?_) (fun c33 => ?_)
                · exact absurd c33 (by decide)
                · refine lv_iload hx hb d_Ca_add_96 (lv_at hl 1 rfl) ?_
                  refine lv_goto (tgt := 105) hx hb d_Ca_add_98 (by decide) ?_
                  refine fm_bipush S d_Ca_add_105 (by decide) ?_
                  refine fm_callv (va_runV (As := [.ref h, .int (iN (x5)), .int (iN (103))]) (rest := []) S (t_Ca_settle l D cs Z hZo tT hZc μ31 _ k w lf on P G32 h a co sg tq ct F T x5 103 hokG32 (by rw [hwvG32, hTw]) hP (hsn9) (by omega) c_k c_w c_h c_a) (cwV 3 hts (gV k215 k217 ks4 k3 k218) rfl rfl rfl (by decide +kernel) (by decide)) (fm_preV hZo hK hw hZ hA c_k rfl _) rfl rfl hl.1 rfl (lv_room (Nat.le_of_ble_eq_true rfl)) d_Ca_add_107 ⟨Nat.le_of_ble_eq_true rfl, Nat.le_of_ble_eq_true rfl⟩) hw hA (fun μ35 H locs q34 hw => ?_)
                  obtain ⟨hDc, hO⟩ := q34
                  have k_k : μ35 k = some (oE 1 [.int (iN ((P : Int))), .ref w, .ref lf, .ref on]) := hO.at (nmc (fm_kn c_k c_h rfl) (nmc (fm_kn c_k c_a rfl) nm0)) c_k
                  have k_w : μ35 w = some (lE cs 30 G32) := hO.at (nmc (fm_kn c_w c_h rfl) (nmc (fm_kn c_w c_a rfl) nm0)) c_w
                  have hO0 := hO0.tr1 hO (by simp)
                  clear c_k c_h c_a c_ga c_la c_gb c_lb c_w
                  have c_k := k_k; clear k_k
                  have c_w := k_w; clear k_w
                  refine fm_vret S hr hlocks hK hw d_Ca_add_110 ?_
                  rw [opW_0]
                  unfold sAdd
                  rw [← add_fin hab hsg]
                  exact ⟨hDc, ⟨_, c_w⟩, hO0⟩
        · have hl : lv_has ls 7 [(6, .int (iN (0))), (5, .int (iN (x5))), (0, .ref k), (1, .ref h), (2, .ref ga), (3, .ref gb), (4, .int (iN (fac)))] := hl
          refine lv_aload_n hx hb d_Ca_add_34 rfl (lv_at hl 2 rfl) ?_
          refine fm_get S hK hw c_k i_Ca rfl 1 (by decide) (hts _ k100) (fun _ h => h) rfl d_Ca_add_35 ?_
          refine fm_lconst0 S d_Ca_add_38 ?_
          refine fm_callv (va_runS (As := [.ref w, .long (jN (0))]) (rest := []) S (t_Ar_fill l D cs Z hZo tT hZc μ _ w 30 G 0 (by decide) c_w) (va_cwS 2 hts (gS k206 k81 k5 k82) rfl rfl rfl (by decide +kernel) (by decide)) (fm_pre hZo hK hw hZ hA _) rfl rfl hl.1 rfl (lv_room (Nat.le_of_ble_eq_true rfl)) d_Ca_add_39 ⟨Nat.le_of_ble_eq_true rfl, Nat.le_of_ble_eq_true rfl⟩) hw hA (fun μ37 H locs q36 hw => ?_)
          obtain ⟨F38, hq, eF38, hO⟩ := q36
          have k_k : μ37 k = some (oE 1 [.int (iN ((P : Int))), .ref w, .ref lf, .ref on]) := hO.at (nmc (fm_kn c_k c_w rfl) nm0) c_k
          have k_h : μ37 h = some (oE 2 [.int (iN (co)), .int (iN (sg)), .int (iN (tq)), .int (iN (ct)), .ref a]) := hO.at (nmc (fm_kn c_h c_w rfl) nm0) c_h
          have k_a : μ37 a = some (lE cs 4 F) := hO.at (nmc (fm_kn c_a c_w rfl) nm0) c_a
          have k_ga : μ37 ga = some (oE 2 [.int (iN (0)), .int (iN ((sgn va))), .int (iN ((tp va))), .int (iN ((nd (cN va) : Int))), .ref la]) := hO.at (nmc (fm_kn c_ga c_w rfl) nm0) c_ga
          have k_la : μ37 la = some (lE cs 4 FA) := hO.at (nmc (fm_kn c_la c_w rfl) nm0) c_la
          have k_gb : μ37 gb = some (oE 2 [.int (iN (0)), .int (iN ((sgn vb))), .int (iN ((tp vb))), .int (iN ((nd (cN vb) : Int))), .ref lb]) := hO.at (nmc (fm_kn c_gb c_w rfl) nm0) c_gb
          have k_lb : μ37 lb = some (lE cs 4 FB) := hO.at (nmc (fm_kn c_lb c_w rfl) nm0) c_lb
          have k_w : μ37 w = some (lE cs 30 F38) := hq
          have hO0 := hO0.tr1 hO (by simp)
          clear c_k c_w c_h c_a c_ga c_la c_gb c_lb
          have c_k := k_k; clear k_k
          have c_h := k_h; clear k_h
          have c_a := k_a; clear k_a
          have c_ga := k_ga; clear k_ga
          have c_la := k_la; clear k_la
          have c_gb := k_gb; clear k_gb
          have c_lb := k_lb; clear k_lb
          have c_w := k_w; clear k_w
          clear hq hO
          refine lv_aload_n hx hb d_Ca_add_42 rfl (lv_at hl 2 rfl) ?_
          refine lv_iload hx hb d_Ca_add_43 (lv_at hl 0 rfl) ?_
          refine fm_if_eq (tgt := 52) S (by omega) d_Ca_add_45 (by decide) (fun c39 => ?_) (fun c39 => ?_)
          · refine lv_aload_n hx hb d_Ca_add_52 rfl (lv_at hl 4 rfl) ?_
            refine fm_iconst S d_Ca_add_53 ?_
            refine fm_callv (va_runV (As := [.ref ga, .int (iN (1))]) (rest := []) S (t_Ca_place l D cs Z hZo tT hZc μ37 _ k w lf on P F38 ga la 0 va FA 1 hda hva (by omega) c_k c_w c_ga c_la) (cwV 2 hts (gV k265 k267 ks10 k3 k268) rfl rfl rfl (by decide +kernel) (by decide)) (fm_preV hZo hK hw hZ hA c_k rfl _) rfl rfl hl.1 rfl (lv_room (Nat.le_of_ble_eq_true rfl)) d_Ca_add_54 ⟨Nat.le_of_ble_eq_true rfl, Nat.le_of_ble_eq_true rfl⟩) hw hA (fun μ41 H locs q40 hw => ?_)
            obtain ⟨G42, hq, hwvG42, hbdG42, hO⟩ := q40
            have k_k : μ41 k = some (oE 1 [.int (iN ((P : Int))), .ref w, .ref lf, .ref on]) := hO.at (nmc (fm_kn c_k c_w rfl) nm0) c_k
            have k_h : μ41 h = some (oE 2 [.int (iN (co)), .int (iN (sg)), .int (iN (tq)), .int (iN (ct)), .ref a]) := hO.at (nmc (fm_kn c_h c_w rfl) nm0) c_h
            have k_a : μ41 a = some (lE cs 4 F) := hO.at (nmc (fm_kn c_a c_w rfl) nm0) c_a
            have k_ga : μ41 ga = some (oE 2 [.int (iN (0)), .int (iN ((sgn va))), .int (iN ((tp va))), .int (iN ((nd (cN va) : Int))), .ref la]) := hO.at (nmc (fm_kn c_ga c_w rfl) nm0) c_ga
            have k_la : μ41 la = some (lE cs 4 FA) := hO.at (nmc (fm_kn c_la c_w rfl) nm0) c_la
            have k_gb : μ41 gb = some (oE 2 [.int (iN (0)), .int (iN ((sgn vb))), .int (iN ((tp vb))), .int (iN ((nd (cN vb) : Int))), .ref lb]) := hO.at (nmc (fm_kn c_gb c_w rfl) nm0) c_gb
            have k_lb : μ41 lb = some (lE cs 4 FB) := hO.at (nmc (fm_kn c_lb c_w rfl) nm0) c_lb
            have k_w : μ41 w = some (lE cs 30 G42) := hq
            have hO0 := hO0.tr1 hO (by simp)
            clear c_k c_h c_a c_ga c_la c_gb c_lb c_w
            have c_k := k_k; clear k_k
            have c_h := k_h; clear k_h
            have c_a := k_a; clear k_a
            have c_ga := k_ga; clear k_ga
            have c_la := k_la; clear k_la
            have c_gb := k_gb; clear k_gb
            have c_lb := k_lb; clear k_lb
            have c_w := k_w; clear k_w
            clear hq hO
            refine lv_aload_n hx hb d_Ca_add_57 rfl (lv_at hl 2 rfl) ?_
            refine lv_iload hx hb d_Ca_add_58 (lv_at hl 0 rfl) ?_
            refine fm_if_eq (tgt := 67) S (by omega) d_Ca_add_60 (by decide) (fun c43 => ?_) (fun c43 => ?_)
            · refine lv_aload_n hx hb d_Ca_add_67 rfl (lv_at hl 5 rfl) ?_
              refine lv_aload_n hx hb d_Ca_add_68 rfl (lv_at hl 4 rfl) ?_
              refine fm_get S hK hw c_ga i_De rfl 1 (by decide) (hts _ k36) (fun _ h => h) rfl d_Ca_add_69 ?_
              refine lv_iload hx hb d_Ca_add_72 (lv_at hl 1 rfl) ?_
              refine fm_icmp_ne (tgt := 81) S (by omega) (by omega) d_Ca_add_74 (by decide) (fun c44 => ?_) (fun c44 => ?_)
              · refine fm_iconst S d_Ca_add_81 ?_
                refine fm_callv (va_runV (As := [.ref gb, .int (iN ((-1)))]) (rest := []) S (t_Ca_place l D cs Z hZo tT hZc μ41 _ k w lf on P G42 gb lb 0 vb FB (-1) hdb hvb (by omega) c_k c_w c_gb c_lb) (cwV 2 hts (gV k265 k267 ks10 k3 k268) rfl rfl rfl (by decide +kernel) (by decide)) (fm_preV hZo hK hw hZ hA c_k rfl _) rfl rfl hl.1 rfl (lv_room (Nat.le_of_ble_eq_true rfl)) d_Ca_add_82 ⟨Nat.le_of_ble_eq_true rfl, Nat.le_of_ble_eq_true rfl⟩) hw hA (fun μ46 H locs q45 hw => ?_)
                obtain ⟨G47, hq, hwvG47, hbdG47, hO⟩ := q45
                have k_k : μ46 k = some (oE 1 [.int (iN ((P : Int))), .ref w, .ref lf, .ref on]) := hO.at (nmc (fm_kn c_k c_w rfl) nm0) c_k
                have k_h : μ46 h = some (oE 2 [.int (iN (co)), .int (iN (sg)), .int (iN (tq)), .int (iN (ct)), .ref a]) := hO.at (nmc (fm_kn c_h c_w rfl) nm0) c_h
                have k_a : μ46 a = some (lE cs 4 F) := hO.at (nmc (fm_kn c_a c_w rfl) nm0) c_a
                have k_ga : μ46 ga = some (oE 2 [.int (iN (0)), .int (iN ((sgn va))), .int (iN ((tp va))), .int (iN ((nd (cN va) : Int))), .ref la]) := hO.at (nmc (fm_kn c_ga c_w rfl) nm0) c_ga
                have k_la : μ46 la = some (lE cs 4 FA) := hO.at (nmc (fm_kn c_la c_w rfl) nm0) c_la
                have k_gb : μ46 gb = some (oE 2 [.int (iN (0)), .int (iN ((sgn vb))), .int (iN ((tp vb))), .int (iN ((nd (cN vb) : Int))), .ref lb]) := hO.at (nmc (fm_kn c_gb c_w rfl) nm0) c_gb
                have k_lb : μ46 lb = some (lE cs 4 FB) := hO.at (nmc (fm_kn c_lb c_w rfl) nm0) c_lb
                have k_w : μ46 w = some (lE cs 30 G47) := hq
                have hO0 := hO0.tr1 hO (by simp)
                clear c_k c_h c_a c_ga c_la c_gb c_lb c_w
                have c_k := k_k; clear k_k
                have c_h := k_h; clear k_h
                have c_a := k_a; clear k_a
                have c_ga := k_ga; clear k_ga
                have c_la := k_la; clear k_la
                have c_gb := k_gb; clear k_gb
                have c_lb := k_lb; clear k_lb
                have c_w := k_w; clear k_w
                clear hq hO
                have hwz := wv_z (G := F38) 30 (fun q p1 p2 => eF38 q p1 p2)
                rw [hwz] at hwvG42
                rw [hwvG42] at hwvG47
                have hxa := xX_lt hva
                have hxb := xX_lt hvb
                have hAa := xX_abs hva
                have hAb := xX_abs hvb
                have hp164 := p10N 164
                have hle : xX vb ≤ xX va := by
                  rw [hAa, hAb] at hlt
                  first | exact Nat.le_of_lt (Nat.lt_of_mul_lt_mul_right hlt) | (exact Nat.le_of_not_lt (fun hh => hlt (Nat.mul_lt_mul_of_pos_right hh hp164)))
                obtain ⟨T, hTe⟩ : ∃ T : Nat, (T : Int) = ((xX va : Nat) : Int) + (-1) * ((xX vb : Nat) : Int) := ⟨(((xX va : Nat) : Int) + (-1) * ((xX vb : Nat) : Int)).toNat, by omega⟩
                have hTw : wv G47 30 = T := by rw [hwvG47, hTe]; omega
                have hT240 : (T : Int) < 10 ^ 240 := by
                  have e240 : (10 : Nat) ^ 240 = 10000 * 10 ^ 236 := by decide +kernel
                  have c240 := p10c 240
                  omega
                have hgb : ∀ q : Int, 0 ≤ q → q < 30 → -100000000000000000 ≤ G47 q ∧ G47 q ≤ 100000000000000000 := fun q p1 p2 => by
                  have u1 := hbdG42 q p1 p2
                  have u2 := hbdG47 q p1 p2
                  have u3 := eF38 q p1 (by omega)
                  omega
                refine lv_aload_n hx hb d_Ca_add_85 rfl (lv_at hl 2 rfl) ?_
                refine fm_callv (va_runV (As := []) (rest := []) S (t_Ca_carry l D cs Z hZo tT hZc μ46 _ k w lf on P G47 (hgb) (by rw [hTw]; omega) c_k c_w) (cwV 0 hts (gV k207 k209 ks3 k3 k210) rfl rfl rfl (by decide +kernel) (by decide)) (fm_preV hZo hK hw hZ hA c_k rfl _) rfl rfl hl.1 rfl (lv_room (Nat.le_of_ble_eq_true rfl)) d_Ca_add_86 ⟨Nat.le_of_ble_eq_true rfl, Nat.le_of_ble_eq_true rfl⟩) hw hA (fun μ49 H locs q48 hw => ?_)
                obtain ⟨G50, hq, hokG50, hwvG50, hO⟩ := q48
                have k_k : μ49 k = some (oE 1 [.int (iN ((P : Int))), .ref w, .ref lf, .ref on]) := hO.at (nmc (fm_kn c_k c_w rfl) nm0) c_k
                have k_h : μ49 h = some (oE 2 [.int (iN (co)), .int (iN (sg)), .int (iN (tq)), .int (iN (ct)), .ref a]) := hO.at (nmc (fm_kn c_h c_w rfl) nm0) c_h
                have k_a : μ49 a = some (lE cs 4 F) := hO.at (nmc (fm_kn c_a c_w rfl) nm0) c_a
                have k_ga : μ49 ga = some (oE 2 [.int (iN (0)), .int (iN ((sgn va))), .int (iN ((tp va))), .int (iN ((nd (cN va) : Int))), .ref la]) := hO.at (nmc (fm_kn c_ga c_w rfl) nm0) c_ga
                have k_la : μ49 la = some (lE cs 4 FA) := hO.at (nmc (fm_kn c_la c_w rfl) nm0) c_la
                have k_gb : μ49 gb = some (oE 2 [.int (iN (0)), .int (iN ((sgn vb))), .int (iN ((tp vb))), .int (iN ((nd (cN vb) : Int))), .ref lb]) := hO.at (nmc (fm_kn c_gb c_w rfl) nm0) c_gb
                have k_lb : μ49 lb = some (lE cs 4 FB) := hO.at (nmc (fm_kn c_lb c_w rfl) nm0) c_lb
                have k_w : μ49 w = some (lE cs 30 G50) := hq
                have hO0 := hO0.tr1 hO (by simp)
                clear c_k c_h c_a c_ga c_la c_gb c_lb c_w
                have c_k := k_k; clear k_k
                have c_h := k_h; clear k_h
                have c_a := k_a; clear k_a
                have c_ga := k_ga; clear k_ga
                have c_la := k_la; clear k_la
                have c_gb := k_gb; clear k_gb
                have c_lb := k_lb; clear k_lb
                have c_w := k_w; clear k_w
                clear hq hO
                obtain ⟨hab, hsg⟩ := add_ok (f2 := -1) (sg := sgn va) hva hvb hfac hx5 (Or.inr ⟨hlt, rfl, rfl, rfl⟩) (Or.inr ⟨by omega, rfl⟩) hTe
                have hsn9 : T ≠ 0 → (sgn va) = 1 ∨ (sgn va) = -1 := fun q => by
                  rw [hsg q]
                  refine sgn_nz (fun z => ?_)
                  rw [z] at hab
                  have hz9 : T * 10 ^ 164 = 0 := hab.symm
                  rcases Nat.mul_eq_zero.mp hz9 with z9 | z9
                  · exact q z9
                  · omega
                refine lv_aload_n hx hb d_Ca_add_89 rfl (lv_at hl 2 rfl) ?_
                refine lv_aload_n hx hb d_Ca_add_90 rfl (lv_at hl 3 rfl) ?_
                refine lv_iload hx hb d_Ca_add_91 (lv_at hl 0 rfl) ?_
                refine fm_if_eq (tgt := 101) S (by omega) d_Ca_add_93 (by decide) (fun c51 => ?_) (fun c51 => ?_)
                · refine lv_aload_n hx hb d_Ca_add_101 rfl (lv_at hl 4 rfl) ?_
                  refine fm_get S hK hw c_ga i_De rfl 1 (by decide) (hts _ k36) (fun _ h => h) rfl d_Ca_add_102 ?_
                  refine fm_bipush S d_Ca_add_105 (by decide) ?_
                  refine fm_callv (va_runV (As := [.ref h, .int (iN ((sgn va))), .int (iN (103))]) (rest := []) S (t_Ca_settle l D cs Z hZo tT hZc μ49 _ k w lf on P G50 h a co sg tq ct F T (sgn va) 103 hokG50 (by rw [hwvG50, hTw]) hP (hsn9) (by omega) c_k c_w c_h c_a) (cwV 3 hts (gV k215 k217 ks4 k3 k218) rfl rfl rfl (by decide +kernel) (by decide)) (fm_preV hZo hK hw hZ hA c_k rfl _) rfl rfl hl.1 rfl (lv_room (Nat.le_of_ble_eq_true rfl)) d_Ca_add_107 ⟨Nat.le_of_ble_eq_true rfl, Nat.le_of_ble_eq_true rfl⟩) hw hA (fun μ53 H locs q52 hw => ?_)
                  obtain ⟨hDc, hO⟩ := q52
                  have k_k : μ53 k = some (oE 1 [.int (iN ((P : Int))), .ref w, .ref lf, .ref on]) := hO.at (nmc (fm_kn c_k c_h rfl) (nmc (fm_kn c_k c_a rfl) nm0)) c_k
                  have k_w : μ53 w = some (lE cs 30 G50) := hO.at (nmc (fm_kn c_w c_h rfl) (nmc (fm_kn c_w c_a rfl) nm0)) c_w
                  have hO0 := hO0.tr1 hO (by simp)
                  clear c_k c_h c_a c_ga c_la c_gb c_lb c_w
                  have c_k := k_k; clear k_k
                  have c_w := k_w; clear k_w
                  refine fm_vret S hr hlocks hK hw d_Ca_add_110 ?_
                  rw [opW_0]
                  unfold sAdd
                  rw [← add_fin hab hsg]
                  exact ⟨hDc, ⟨_, c_w⟩, hO0⟩
                · exact absurd c51 (by decide)
              · refine fm_iconst S d_Ca_add_77 ?_
                refine lv_goto (tgt := 82) hx hb d_Ca_add_78 (by decide) ?_
                refine fm_callv (va_runV (As := [.ref gb, .int (iN (1))]) (rest := []) S (t_Ca_place l D cs Z hZo tT hZc μ41 _ k w lf on P G42 gb lb 0 vb FB 1 hdb hvb (by omega) c_k c_w c_gb c_lb) (cwV 2 hts (gV k265 k267 ks10 k3 k268) rfl rfl rfl (by decide +kernel) (by decide)) (fm_preV hZo hK hw hZ hA c_k rfl _) rfl rfl hl.1 rfl (lv_room (Nat.le_of_ble_eq_true rfl)) d_Ca_add_82 ⟨Nat.le_of_ble_eq_true rfl, Nat.le_of_ble_eq_true rfl⟩) hw hA (fun μ55 H locs q54 hw => ?_)
                obtain ⟨G56, hq, hwvG56, hbdG56, hO⟩ := q54
                have k_k : μ55 k = some (oE 1 [.int (iN ((P : Int))), .ref w, .ref lf, .ref on]) := hO.at (nmc (fm_kn c_k c_w rfl) nm0) c_k
                have k_h : μ55 h = some (oE 2 [.int (iN (co)), .int (iN (sg)), .int (iN (tq)), .int (iN (ct)), .ref a]) := hO.at (nmc (fm_kn c_h c_w rfl) nm0) c_h
                have k_a : μ55 a = some (lE cs 4 F) := hO.at (nmc (fm_kn c_a c_w rfl) nm0) c_a
                have k_ga : μ55 ga = some (oE 2 [.int (iN (0)), .int (iN ((sgn va))), .int (iN ((tp va))), .int (iN ((nd (cN va) : Int))), .ref la]) := hO.at (nmc (fm_kn c_ga c_w rfl) nm0) c_ga
                have k_la : μ55 la = some (lE cs 4 FA) := hO.at (nmc (fm_kn c_la c_w rfl) nm0) c_la
                have k_gb : μ55 gb = some (oE 2 [.int (iN (0)), .int (iN ((sgn vb))), .int (iN ((tp vb))), .int (iN ((nd (cN vb) : Int))), .ref lb]) := hO.at (nmc (fm_kn c_gb c_w rfl) nm0) c_gb
                have k_lb : μ55 lb = some (lE cs 4 FB) := hO.at (nmc (fm_kn c_lb c_w rfl) nm0) c_lb
                have k_w : μ55 w = some (lE cs 30 G56) := hq
                have hO0 := hO0.tr1 hO (by simp)
                clear c_k c_h c_a c_ga c_la c_gb c_lb c_w
                have c_k := k_k; clear k_k
                have c_h := k_h; clear k_h
                have c_a := k_a; clear k_a
                have c_ga := k_ga; clear k_ga
                have c_la := k_la; clear k_la
                have c_gb := k_gb; clear k_gb
                have c_lb := k_lb; clear k_lb
                have c_w := k_w; clear k_w
                clear hq hO
                have hwz := wv_z (G := F38) 30 (fun q p1 p2 => eF38 q p1 p2)
                rw [hwz] at hwvG42
                rw [hwvG42] at hwvG56
                have hxa := xX_lt hva
                have hxb := xX_lt hvb
                have hAa := xX_abs hva
                have hAb := xX_abs hvb
                have hp164 := p10N 164
                have hle : xX vb ≤ xX va := by
                  rw [hAa, hAb] at hlt
                  first | exact Nat.le_of_lt (Nat.lt_of_mul_lt_mul_right hlt) | (exact Nat.le_of_not_lt (fun hh => hlt (Nat.mul_lt_mul_of_pos_right hh hp164)))
                obtain ⟨T, hTe⟩ : ∃ T : Nat, (T : Int) = ((xX va : Nat) : Int) + (1) * ((xX vb : Nat) : Int) := ⟨(((xX va : Nat) : Int) + (1) * ((xX vb : Nat) : Int)).toNat, by omega⟩
                have hTw : wv G56 30 = T := by rw [hwvG56, hTe]; omega
                have hT240 : (T : Int) < 10 ^ 240 := by
                  have e240 : (10 : Nat) ^ 240 = 10000 * 10 ^ 236 := by decide +kernel
                  have c240 := p10c 240
                  omega
                have hgb : ∀ q : Int, 0 ≤ q → q < 30 → -100000000000000000 ≤ G56 q ∧ G56 q ≤ 100000000000000000 := fun q p1 p2 => by
                  have u1 := hbdG42 q p1 p2
                  have u2 := hbdG56 q p1 p2
                  have u3 := eF38 q p1 (by omega)
                  omega
                refine lv_aload_n hx hb d_Ca_add_85 rfl (lv_at hl 2 rfl) ?_
                refine fm_callv (va_runV (As := []) (rest := []) S (t_Ca_carry l D cs Z hZo tT hZc μ55 _ k w lf on P G56 (hgb) (by rw [hTw]; omega) c_k c_w) (cwV 0 hts (gV k207 k209 ks3 k3 k210) rfl rfl rfl (by decide +kernel) (by decide)) (fm_preV hZo hK hw hZ hA c_k rfl _) rfl rfl hl.1 rfl (lv_room (Nat.le_of_ble_eq_true rfl)) d_Ca_add_86 ⟨Nat.le_of_ble_eq_true rfl, Nat.le_of_ble_eq_true rfl⟩) hw hA (fun μ58 H locs q57 hw => ?_)
                obtain ⟨G59, hq, hokG59, hwvG59, hO⟩ := q57
                have k_k : μ58 k = some (oE 1 [.int (iN ((P : Int))), .ref w, .ref lf, .ref on]) := hO.at (nmc (fm_kn c_k c_w rfl) nm0) c_k
                have k_h : μ58 h = some (oE 2 [.int (iN (co)), .int (iN (sg)), .int (iN (tq)), .int (iN (ct)), .ref a]) := hO.at (nmc (fm_kn c_h c_w rfl) nm0) c_h
                have k_a : μ58 a = some (lE cs 4 F) := hO.at (nmc (fm_kn c_a c_w rfl) nm0) c_a
                have k_ga : μ58 ga = some (oE 2 [.int (iN (0)), .int (iN ((sgn va))), .int (iN ((tp va))), .int (iN ((nd (cN va) : Int))), .ref la]) := hO.at (nmc (fm_kn c_ga c_w rfl) nm0) c_ga
                have k_la : μ58 la = some (lE cs 4 FA) := hO.at (nmc (fm_kn c_la c_w rfl) nm0) c_la
                have k_gb : μ58 gb = some (oE 2 [.int (iN (0)), .int (iN ((sgn vb))), .int (iN ((tp vb))), .int (iN ((nd (cN vb) : Int))), .ref lb]) := hO.at (nmc (fm_kn c_gb c_w rfl) nm0) c_gb
                have k_lb : μ58 lb = some (lE cs 4 FB) := hO.at (nmc (fm_kn c_lb c_w rfl) nm0) c_lb
                have k_w : μ58 w = some (lE cs 30 G59) := hq
                have hO0 := hO0.tr1 hO (by simp)
                clear c_k c_h c_a c_ga c_la c_gb c_lb c_w
                have c_k := k_k; clear k_k
                have c_h := k_h; clear k_h
                have c_a := k_a; clear k_a
                have c_ga := k_ga; clear k_ga
                have c_la := k_la; clear k_la
                have c_gb := k_gb; clear k_gb
                have c_lb := k_lb; clear k_lb
                have c_w := k_w; clear k_w
                clear hq hO
                obtain ⟨hab, hsg⟩ := add_ok (f2 := 1) (sg := sgn va) hva hvb hfac hx5 (Or.inr ⟨hlt, rfl, rfl, rfl⟩) (Or.inl ⟨by omega, rfl⟩) hTe
                have hsn9 : T ≠ 0 → (sgn va) = 1 ∨ (sgn va) = -1 := fun q => by
                  rw [hsg q]
                  refine sgn_nz (fun z => ?_)
                  rw [z] at hab
                  have hz9 : T * 10 ^ 164 = 0 := hab.symm
                  rcases Nat.mul_eq_zero.mp hz9 with z9 | z9
                  · exact q z9
                  · omega
                refine lv_aload_n hx hb d_Ca_add_89 rfl (lv_at hl 2 rfl) ?_
                refine lv_aload_n hx hb d_Ca_add_90 rfl (lv_at hl 3 rfl) ?_
                refine lv_iload hx hb d_Ca_add_91 (lv_at hl 0 rfl) ?_
                refine fm_if_eq (tgt := 101) S (by omega) d_Ca_add_93 (by decide) (fun c60 => ?_) (fun c60 => ?_)
                · refine lv_aload_n hx hb d_Ca_add_101 rfl (lv_at hl 4 rfl) ?_
                  refine fm_get S hK hw c_ga i_De rfl 1 (by decide) (hts _ k36) (fun _ h => h) rfl d_Ca_add_102 ?_
                  refine fm_bipush S d_Ca_add_105 (by decide) ?_
                  refine fm_callv (va_runV (As := [.ref h, .int (iN ((sgn va))), .int (iN (103))]) (rest := []) S (t_Ca_settle l D cs Z hZo tT hZc μ58 _ k w lf on P G59 h a co sg tq ct F T (sgn va) 103 hokG59 (by rw [hwvG59, hTw]) hP (hsn9) (by omega) c_k c_w c_h c_a) (cwV 3 hts (gV k215 k217 ks4 k3 k218) rfl rfl rfl (by decide +kernel) (by decide)) (fm_preV hZo hK hw hZ hA c_k rfl _) rfl rfl hl.1 rfl (lv_room (Nat.le_of_ble_eq_true rfl)) d_Ca_add_107 ⟨Nat.le_of_ble_eq_true rfl, Nat.le_of_ble_eq_true rfl⟩) hw hA (fun μ62 H locs q61 hw => ?_)
                  obtain ⟨hDc, hO⟩ := q61
                  have k_k : μ62 k = some (oE 1 [.int (iN ((P : Int))), .ref w, .ref lf, .ref on]) := hO.at (nmc (fm_kn c_k c_h rfl) (nmc (fm_kn c_k c_a rfl) nm0)) c_k
                  have k_w : μ62 w = some (lE cs 30 G59) := hO.at (nmc (fm_kn c_w c_h rfl) (nmc (fm_kn c_w c_a rfl) nm0)) c_w
                  have hO0 := hO0.tr1 hO (by simp)
                  clear c_k c_h c_a c_ga c_la c_gb c_lb c_w
                  have c_k := k_k; clear k_k
                  have c_w := k_w; clear k_w
                  refine fm_vret S hr hlocks hK hw d_Ca_add_110 ?_
                  rw [opW_0]
                  unfold sAdd
                  rw [← add_fin hab hsg]
                  exact ⟨hDc, ⟨_, c_w⟩, hO0⟩
                · exact absurd c60 (by decide)
            · exact absurd c43 (by decide)
          · exact absurd c39 (by decide)
      · refine fm_if_ge (tgt := 31) S (by omega) d_Ca_add_24 (by decide) (fun c63 => ?_) (fun c63 => ?_)
        · refine fm_iconst S d_Ca_add_31 ?_
          exact key _ (by first | exact Or.inl ⟨rfl, by omega⟩ | exact Or.inr ⟨rfl, by omega⟩)
        · refine fm_iconst S d_Ca_add_27 ?_
          refine lv_goto (tgt := 32) hx hb d_Ca_add_28 (by decide) ?_
          exact key _ (by first | exact Or.inl ⟨rfl, by omega⟩ | exact Or.inr ⟨rfl, by omega⟩)
    · exact absurd c4 (by decide)
  · subst hz
    have k_k : μ3 k = some (oE 1 [.int (iN ((P : Int))), .ref w, .ref lf, .ref on]) := hO.at (nmc (fm_kn c_k c_h rfl) (nmc (fm_kn c_k c_a rfl) nm0)) c_k
    have k_w : μ3 w = some (lE cs 30 G) := hO.at (nmc (fm_kn c_w c_h rfl) (nmc (fm_kn c_w c_a rfl) nm0)) c_w
    have hO0 := hO0.tr1 hO (by simp)
    clear c_k c_w c_h c_a c_ga c_la c_gb c_lb
    have c_k := k_k; clear k_k
    have c_w := k_w; clear k_w
    refine fm_if_eq (tgt := 10) S (by omega) d_Ca_add_6 (by decide) (fun c64 => ?_) (fun c64 => ?_)
    · exact absurd c64 (by decide)
    · refine fm_vret S hr hlocks hK hw d_Ca_add_9 ?_
      rw [opW_r hc1]
      exact ⟨hDc, ⟨_, c_w⟩, hO0⟩
