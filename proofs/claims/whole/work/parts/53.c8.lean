/-- inside the product's rows -/
def MlI (A B G : Int → Int) (i j : Nat) : Prop := wv G 30 = 10 ^ 176 * (pS A i * L4 B) + A i * 10 ^ (8 * (25 - i)) * pS B j ∧ (∀ q : Int, 0 ≤ q → q < 30 → 0 ≤ G q ∧ G q ≤ (i + 1) * 10000000000000000) ∧ ∀ q : Int, (i : Int) + j + 1 ≤ q → q < 30 → G q ≤ i * 10000000000000000
def MlO (A B G : Int → Int) (i : Nat) : Prop := wv G 30 = 10 ^ 176 * (pS A i * L4 B) ∧ (∀ q : Int, 0 ≤ q → q < 30 → 0 ≤ G q ∧ G q ≤ i * 10000000000000000)
theorem MlO.ent {A B G : Int → Int} {i : Nat} (h : MlO A B G i) : MlI A B G i 0 := by
  refine ⟨by rw [h.1]; show _ = _ + _ * 0; omega, fun q a b => by have := h.2 q a b; omega, fun q a b => ?_⟩
  have := h.2 q (by omega) b; omega
theorem MlI.step {A B G G1 : Int → Int} {i j : Nat} (h : MlI A B G i j) (hi : i < 4) (hj : j < 4) (hA : 0 ≤ A i ∧ A i < 100000000) (hB : 0 ≤ B j ∧ B j < 100000000) (e : G1 = uI G (i + j + 1) (G (i + j + 1) + A i * B j)) : MlI A B G1 i (j + 1) := by
  obtain ⟨h1, h2, h3⟩ := h
  have p0 := Int.mul_nonneg hA.1 hB.1
  have p1 : A i * B j ≤ 100000000 * B j := Int.mul_le_mul_of_nonneg_right (by omega) hB.1
  refine ⟨?_, fun q a b => ?_, fun q a b => ?_⟩
  · rw [wv_up 30 (by omega) e, h1]
    show _ = _ + A i * 10 ^ (8 * (25 - i)) * (pS B j + B j * 10 ^ (8 * (3 - j)))
    rw [show G (i + j + 1) + A i * B j - G (i + j + 1) = A i * B j by omega, show (8 * (((30 : Nat) : Int) - 1 - (i + j + 1))).toNat = 8 * (25 - i) + 8 * (3 - j) by omega, Int.pow_add, Int.mul_add]
    have : A i * B j * (10 ^ (8 * (25 - i)) * 10 ^ (8 * (3 - j))) = A i * 10 ^ (8 * (25 - i)) * (B j * 10 ^ (8 * (3 - j))) := by ac_rfl
    omega
  · by_cases hq : q = i + j + 1
    · rw [hq, e, uI_s]
      have a1 := h2 (i + j + 1) (by omega) (by omega)
      have a2 := h3 (i + j + 1) (by omega) (by omega)
      omega
    · rw [e, uI_n hq]; exact h2 q a b
  · rw [e, uI_n (by omega)]; exact h3 q (by omega) b
theorem MlI.fin {A B G : Int → Int} {i : Nat} (h : MlI A B G i 4) (hi : i < 4) : MlO A B G (i + 1) := by
  obtain ⟨h1, h2, h3⟩ := h
  refine ⟨?_, fun q a b => by have := h2 q a b; omega⟩
  rw [h1, pS_4]
  show _ = 10 ^ 176 * ((pS A i + A i * 10 ^ (8 * (3 - i))) * L4 B)
  rw [show 8 * (25 - i) = 176 + 8 * (3 - i) by omega, Int.pow_add, Int.add_mul, Int.mul_add]
  have : A i * (10 ^ 176 * 10 ^ (8 * (3 - i))) * L4 B = 10 ^ 176 * (A i * 10 ^ (8 * (3 - i)) * L4 B) := by ac_rfl
  omega
theorem mul_ok {P : Nat} {va vb : Int} {T : Nat} (ha : dB va) (hb : dB vb) (hT : T = mN va * mN vb * 10 ^ 176) : fin P T (tp va + tp vb + 1 - 239) (sgn va * sgn vb) = sMul P va vb := by
  have ta := ha.t
  have tb := hb.t
  unfold sMul
  have e : (va * vb).natAbs = mN va * mN vb * 10 ^ (tp va + tp vb + 538).toNat := by
    rw [Int.natAbs_mul, abs_l ha, abs_l hb, show (tp va + tp vb + 538).toNat = (tp va + 269).toNat + (tp vb + 269).toNat by omega, Nat.pow_add]
    ac_rfl
  rw [e, hT, show tp va + tp vb + 1 - 239 = (tp va + tp vb - 62) - ((176 : Nat) : Int) by omega, fin_mul, show (-600 : Int) = (tp va + tp vb - 62) - (((tp va + tp vb + 538).toNat : Nat) : Int) by omega, fin_mul]

set_option maxHeartbeats 4000000 in
set_option maxRecDepth 100000 in
/-- K_mj -/
theorem K_mj {p : Program} {l : Launch} {e : Env} {s : State} {m : MethodId} {args : Array Value} {below : List Frame} {meth : Method} {c : Code} {Q : State → Prop} {D : va_G} {cs : Nat → ClassId} {Z : (Nat → Prop) → State → Heap → Prop} {A : Nat → Prop}  (S : CallFix p m c c_Ca_multiply 6 s args wA "ArithmeticForms$Calculator") (hK : va_K D clsA (tysA cs) s) (hZo : fm_Zok Z) (tT : Nat) (hZc : ∀ A U H, Z A U H → Zc tT A U H) (hZ : Z A s s.heap) (hA : ∀ q, s.heap.size ≤ q → A q) (μ0 : fm_Mu) (k w lf on P : Nat) (h a ga la gb lb : Nat) (co sg tq ct va vb : Int) (F FA FB : Int → Int) (hda : dF FA va) (hdb : dF FB vb) (i : Int) (n : Nat) (hin : i = n) (hn4 : n < 4) (kk72 : ∀ (μ1 : fm_Mu) (j : Int) (jn : Nat) (G1 : Int → Int) (H : Heap) (locs : List Loc) (ls : Array Slot), (jn = 4) → (MlI FA FB G1 n jn) → (μ1 k = some (oE 1 [.int (iN ((P : Int))), .ref w, .ref lf, .ref on])) → (μ1 w = some (lE cs 30 G1)) → (μ1 ga = some (oE 2 [.int (iN (0)), .int (iN ((sgn va))), .int (iN ((tp va))), .int (iN ((nd (cN va) : Int))), .ref la])) → (μ1 la = some (lE cs 4 FA)) → (μ1 gb = some (oE 2 [.int (iN (0)), .int (iN ((sgn vb))), .int (iN ((tp vb))), .int (iN ((nd (cN vb) : Int))), .ref lb])) → (μ1 lb = some (lE cs 4 FB)) → (μ1 h = some (oE 2 [.int (iN (co)), .int (iN (sg)), .int (iN (tq)), .int (iN (ct)), .ref a])) → (μ1 a = some (lE cs 4 F)) → fm_O μ0 μ1 [h, a, w] → lv_has ls 6 [(5, .int (iN (j))), (4, .int (iN (i))), (0, .ref k), (1, .ref h), (2, .ref ga), (3, .ref gb)] → fm_W D clsA A s.heap μ1 H locs → W p l e ({ frames := 4, cells := 0, slots := 0, locals := 98 }) s m args below meth c H locs 0 0 Q (F0 m 72 ls [])) : ∀ (fu : Nat) (μ1 : fm_Mu) (j : Int) (jn : Nat) (G1 : Int → Int) (H : Heap) (locs : List Loc) (ls : Array Slot), 10 - j < (fu : Int) → (j = jn ∧ jn ≤ 4) → (MlI FA FB G1 n jn) → (μ1 k = some (oE 1 [.int (iN ((P : Int))), .ref w, .ref lf, .ref on])) → (μ1 w = some (lE cs 30 G1)) → (μ1 ga = some (oE 2 [.int (iN (0)), .int (iN ((sgn va))), .int (iN ((tp va))), .int (iN ((nd (cN va) : Int))), .ref la])) → (μ1 la = some (lE cs 4 FA)) → (μ1 gb = some (oE 2 [.int (iN (0)), .int (iN ((sgn vb))), .int (iN ((tp vb))), .int (iN ((nd (cN vb) : Int))), .ref lb])) → (μ1 lb = some (lE cs 4 FB)) → (μ1 h = some (oE 2 [.int (iN (co)), .int (iN (sg)), .int (iN (tq)), .int (iN (ct)), .ref a])) → (μ1 a = some (lE cs 4 F)) → fm_O μ0 μ1 [h, a, w] → lv_has ls 6 [(5, .int (iN (j))), (4, .int (iN (i))), (0, .ref k), (1, .ref h), (2, .ref ga), (3, .ref gb)] → fm_W D clsA A s.heap μ1 H locs → W p l e ({ frames := 4, cells := 0, slots := 0, locals := 98 }) s m args below meth c H locs 0 0 Q (F0 m 30 ls []) := by
  obtain ⟨hx, hb, hml, hown, hts⟩ := id S
  have hzc := hZc _ _ _ hZ
  intro fu
  induction fu with
  | zero =>
    intro μ1 j jn G1 H locs ls hn hj hMl c_k c_w c_ga c_la c_gb c_lb c_h c_a hO0 hl hw
    exfalso; omega
  | succ fu ih =>
    intro μ1 j jn G1 H locs ls hn hj hMl c_k c_w c_ga c_la c_gb c_lb c_h c_a hO0 hl hw
    refine lv_iload hx hb d_Ca_multiply_30 (lv_at hl 0 rfl) ?_
    refine fm_iconst S d_Ca_multiply_32 ?_
    refine fm_icmp_ge (tgt := 72) S (by omega) (by omega) d_Ca_multiply_33 (by decide) (fun c1 => ?_) (fun c1 => ?_)
    · exact kk72 μ1 j jn G1 _ _ _ (by omega) (hMl) c_k c_w c_ga c_la c_gb c_lb c_h c_a hO0 (lv_sub hl [0, 1, 2, 3, 4, 5] rfl) hw
    · have hfa := hda.1 i (by omega) (by omega)
      have hfb := hdb.1 j (by omega) (by omega)
      refine lv_aload_n hx hb d_Ca_multiply_36 rfl (lv_at hl 2 rfl) ?_
      refine fm_get S hK hw c_k i_Ca rfl 1 (by decide) (hts _ k100) (fun _ h => h) rfl d_Ca_multiply_37 ?_
      refine lv_iload hx hb d_Ca_multiply_40 (lv_at hl 1 rfl) ?_
      refine lv_iload hx hb d_Ca_multiply_42 (lv_at hl 0 rfl) ?_
      refine fm_iadd S d_Ca_multiply_44 ?_
      refine fm_iconst S d_Ca_multiply_45 ?_
      refine fm_iadd S d_Ca_multiply_46 ?_
      refine lv_dup2_11 hx hb d_Ca_multiply_47 rfl rfl ?_
      refine cl_lald S hK hw c_w (by omega) d_Ca_multiply_48 ?_
      refine lv_aload_n hx hb d_Ca_multiply_49 rfl (lv_at hl 4 rfl) ?_
      refine fm_get S hK hw c_ga i_De rfl 4 (by decide) (hts _ k45) (fun _ h => h) rfl d_Ca_multiply_50 ?_
      refine lv_iload hx hb d_Ca_multiply_53 (lv_at hl 1 rfl) ?_
      refine cl_lald S hK hw c_la (by omega) d_Ca_multiply_55 ?_
      refine lv_aload_n hx hb d_Ca_multiply_56 rfl (lv_at hl 5 rfl) ?_
      refine fm_get S hK hw c_gb i_De rfl 4 (by decide) (hts _ k45) (fun _ h => h) rfl d_Ca_multiply_57 ?_
      refine lv_iload hx hb d_Ca_multiply_60 (lv_at hl 0 rfl) ?_
      refine cl_lald S hK hw c_lb (by omega) d_Ca_multiply_62 ?_
      refine fm_lmul S d_Ca_multiply_63 ?_
      refine fm_ladd S d_Ca_multiply_64 ?_
      refine cl_last S hK hw c_w (by omega) d_Ca_multiply_65 (fun F2 μ3 H locs eF2 hw hq hO => ?_)
      have k_k : μ3 k = some (oE 1 [.int (iN ((P : Int))), .ref w, .ref lf, .ref on]) := hO.at (nmc (fm_kn c_k c_w rfl) nm0) c_k
      have k_ga : μ3 ga = some (oE 2 [.int (iN (0)), .int (iN ((sgn va))), .int (iN ((tp va))), .int (iN ((nd (cN va) : Int))), .ref la]) := hO.at (nmc (fm_kn c_ga c_w rfl) nm0) c_ga
      have k_la : μ3 la = some (lE cs 4 FA) := hO.at (nmc (fm_kn c_la c_w rfl) nm0) c_la
      have k_gb : μ3 gb = some (oE 2 [.int (iN (0)), .int (iN ((sgn vb))), .int (iN ((tp vb))), .int (iN ((nd (cN vb) : Int))), .ref lb]) := hO.at (nmc (fm_kn c_gb c_w rfl) nm0) c_gb
      have k_lb : μ3 lb = some (lE cs 4 FB) := hO.at (nmc (fm_kn c_lb c_w rfl) nm0) c_lb
      have k_h : μ3 h = some (oE 2 [.int (iN (co)), .int (iN (sg)), .int (iN (tq)), .int (iN (ct)), .ref a]) := hO.at (nmc (fm_kn c_h c_w rfl) nm0) c_h
      have k_a : μ3 a = some (lE cs 4 F) := hO.at (nmc (fm_kn c_a c_w rfl) nm0) c_a
      have k_w : μ3 w = some (lE cs 30 F2) := hq
      have hO0 := hO0.tr1 hO (by simp)
      clear c_k c_w c_ga c_la c_gb c_lb c_h c_a
      have c_k := k_k; clear k_k
      have c_ga := k_ga; clear k_ga
      have c_la := k_la; clear k_la
      have c_gb := k_gb; clear k_gb
      have c_lb := k_lb; clear k_lb
      have c_h := k_h; clear k_h
      have c_a := k_a; clear k_a
      have c_w := k_w; clear k_w
      clear hq hO
      refine lv_iinc (v := iN ((j + 1))) (lv' := [(5, .int (iN ((j + 1)))), (4, .int (iN (i))), (0, .ref k), (1, .ref h), (2, .ref ga), (3, .ref gb)]) hx hb d_Ca_multiply_66 hl (k := 0) rfl (iN_add _ _) (by decide) rfl (fun ls hl => ?_)
      refine lv_goto (tgt := 30) hx hb d_Ca_multiply_69 (by decide) ?_
      exact ih μ3 (j + 1) (jn + 1) F2 _ _ _ (by omega) (by omega) (hMl.step (G1 := F2) (by omega) (by omega) (by rw [← hin]; exact hfa) (by rw [← hj.1]; exact hfb) (by rw [← hin, ← hj.1]; exact eF2)) c_k c_w c_ga c_la c_gb c_lb c_h c_a hO0 (lv_sub hl [0, 1, 2, 3, 4, 5] rfl) hw

set_option maxHeartbeats 4000000 in
set_option maxRecDepth 100000 in
/-- K_mi -/
theorem K_mi {p : Program} {l : Launch} {e : Env} {s : State} {m : MethodId} {args : Array Value} {below : List Frame} {meth : Method} {c : Code} {Q : State → Prop} {D : va_G} {cs : Nat → ClassId} {Z : (Nat → Prop) → State → Heap → Prop} {A : Nat → Prop}  (S : CallFix p m c c_Ca_multiply 6 s args wA "ArithmeticForms$Calculator") (hK : va_K D clsA (tysA cs) s) (hZo : fm_Zok Z) (tT : Nat) (hZc : ∀ A U H, Z A U H → Zc tT A U H) (hZ : Z A s s.heap) (hA : ∀ q, s.heap.size ≤ q → A q) (μ0 : fm_Mu) (k w lf on P : Nat) (h a ga la gb lb : Nat) (co sg tq ct va vb : Int) (F FA FB : Int → Int) (hda : dF FA va) (hdb : dF FB vb) (kk78 : ∀ (μ1 : fm_Mu) (i : Int) (n : Nat) (G1 : Int → Int) (H : Heap) (locs : List Loc) (ls : Array Slot), (n = 4) → (MlO FA FB G1 n) → (μ1 k = some (oE 1 [.int (iN ((P : Int))), .ref w, .ref lf, .ref on])) → (μ1 w = some (lE cs 30 G1)) → (μ1 ga = some (oE 2 [.int (iN (0)), .int (iN ((sgn va))), .int (iN ((tp va))), .int (iN ((nd (cN va) : Int))), .ref la])) → (μ1 la = some (lE cs 4 FA)) → (μ1 gb = some (oE 2 [.int (iN (0)), .int (iN ((sgn vb))), .int (iN ((tp vb))), .int (iN ((nd (cN vb) : Int))), .ref lb])) → (μ1 lb = some (lE cs 4 FB)) → (μ1 h = some (oE 2 [.int (iN (co)), .int (iN (sg)), .int (iN (tq)), .int (iN (ct)), .ref a])) → (μ1 a = some (lE cs 4 F)) → fm_O μ0 μ1 [h, a, w] → lv_has ls 6 [(4, .int (iN (i))), (0, .ref k), (1, .ref h), (2, .ref ga), (3, .ref gb)] → fm_W D clsA A s.heap μ1 H locs → W p l e ({ frames := 4, cells := 0, slots := 0, locals := 98 }) s m args below meth c H locs 0 0 Q (F0 m 78 ls [])) : ∀ (fu : Nat) (μ1 : fm_Mu) (i : Int) (n : Nat) (G1 : Int → Int) (H : Heap) (locs : List Loc) (ls : Array Slot), 10 - i < (fu : Int) → (i = n ∧ n ≤ 4) → (MlO FA FB G1 n) → (μ1 k = some (oE 1 [.int (iN ((P : Int))), .ref w, .ref lf, .ref on])) → (μ1 w = some (lE cs 30 G1)) → (μ1 ga = some (oE 2 [.int (iN (0)), .int (iN ((sgn va))), .int (iN ((tp va))), .int (iN ((nd (cN va) : Int))), .ref la])) → (μ1 la = some (lE cs 4 FA)) → (μ1 gb = some (oE 2 [.int (iN (0)), .int (iN ((sgn vb))), .int (iN ((tp vb))), .int (iN ((nd (cN vb) : Int))), .ref lb])) → (μ1 lb = some (lE cs 4 FB)) → (μ1 h = some (oE 2 [.int (iN (co)), .int (iN (sg)), .int (iN (tq)), .int (iN (ct)), .ref a])) → (μ1 a = some (lE cs 4 F)) → fm_O μ0 μ1 [h, a, w] → lv_has ls 6 [(4, .int (iN (i))), (0, .ref k), (1, .ref h), (2, .ref ga), (3, .ref gb)] → fm_W D clsA A s.heap μ1 H locs → W p l e ({ frames := 4, cells := 0, slots := 0, locals := 98 }) s m args below meth c H locs 0 0 Q (F0 m 21 ls []) := by
  obtain ⟨hx, hb, hml, hown, hts⟩ := id S
  have hzc := hZc _ _ _ hZ
  intro fu
  induction fu with
  | zero =>
    intro μ1 i n G1 H locs ls hn hi hMo c_k c_w c_ga c_la c_gb c_lb c_h c_a hO0 hl hw
    exfalso; omega
  | succ fu ih =>
    intro μ1 i n G1 H locs ls hn hi hMo c_k c_w c_ga c_la c_gb c_lb c_h c_a hO0 hl hw
    refine lv_iload hx hb d_Ca_multiply_21 (lv_at hl 0 rfl) ?_
    refine fm_iconst S d_Ca_multiply_23 ?_
    refine fm_icmp_ge (tgt := 78) S (by omega) (by omega) d_Ca_multiply_24 (by decide) (fun c1 => ?_) (fun c1 => ?_)
    · exact kk78 μ1 i n G1 _ _ _ (by omega) (hMo) c_k c_w c_ga c_la c_gb c_lb c_h c_a hO0 (lv_sub hl [0, 1, 2, 3, 4] rfl) hw
    · refine fm_iconst S d_Ca_multiply_27 ?_
      refine lv_istore (lv' := [(5, .int (iN (0))), (4, .int (iN (i))), (0, .ref k), (1, .ref h), (2, .ref ga), (3, .ref gb)]) hx hb d_Ca_multiply_28 hl (by decide) rfl (fun ls hl => ?_)
      refine K_mj (Z := Z) S hK hZo tT hZc hZ hA μ0 k w lf on P h a ga la gb lb co sg tq ct va vb F FA FB hda hdb i n hi.1 (by omega) (fun μ2 j jn G2 H locs ls hj4 hMl c_k c_w c_ga c_la c_gb c_lb c_h c_a hO0 hl hw => ?_) (20) μ1 0 0 G1 _ _ _ (by omega) (by omega) (hMo.ent) c_k c_w c_ga c_la c_gb c_lb c_h c_a hO0 (lv_sub hl [0, 1, 2, 3, 4, 5] rfl) hw
      refine lv_iinc (v := iN ((i + 1))) (lv' := [(4, .int (iN ((i + 1)))), (5, .int (iN (j))), (0, .ref k), (1, .ref h), (2, .ref ga), (3, .ref gb)]) hx hb d_Ca_multiply_72 hl (k := 1) rfl (iN_add _ _) (by decide) rfl (fun ls hl => ?_)
      refine lv_goto (tgt := 21) hx hb d_Ca_multiply_75 (by decide) ?_
      exact ih μ2 (i + 1) (n + 1) G2 _ _ _ (by omega) (by omega) (by rw [hj4] at hMl; exact hMl.fin (by omega)) c_k c_w c_ga c_la c_gb c_lb c_h c_a hO0 (lv_sub hl [0, 2, 3, 4, 5] rfl) hw

set_option maxHeartbeats 4000000 in
set_option maxRecDepth 100000 in
/-- multiply(into, a, b) -/
theorem t_Ca_multiply (l : Launch) (D : va_G) (cs : Nat → ClassId) (Z : (Nat → Prop) → State → Heap → Prop) (hZo : fm_Zok Z) (tT : Nat) (hZc : ∀ A U H, Z A U H → Zc tT A U H) (μ : fm_Mu) (sz : Nat) (k : Nat) (w : Nat) (lf : Nat) (on : Nat) (P : Nat) (G : Int → Int) (h : Nat) (a : Nat) (co : Int) (sg : Int) (tq : Int) (ct : Int) (F : Int → Int) (ga : Nat) (la : Nat) (ca : Int) (va : Int) (FA : Int → Int) (gb : Nat) (lb : Nat) (cb : Int) (vb : Int) (FB : Int → Int) (hca : inI ca) (hcb : inI cb) (hda : dF FA va) (hva : dB va) (hdb : dF FB vb) (hvb : dB vb) (hP : 1 ≤ P ∧ P ≤ 31) (c_k : μ k = some (oE 1 [.int (iN ((P : Int))), .ref w, .ref lf, .ref on])) (c_w : μ w = some (lE cs 30 G)) (c_h : μ h = some (oE 2 [.int (iN (co)), .int (iN (sg)), .int (iN (tq)), .int (iN (ct)), .ref a])) (c_a : μ a = some (lE cs 4 F)) (c_ga : μ ga = some (oE 2 [.int (iN (ca)), .int (iN ((sgn va))), .int (iN ((tp va))), .int (iN ((nd (cN va) : Int))), .ref la])) (c_la : μ la = some (lE cs 4 FA)) (c_gb : μ gb = some (oE 2 [.int (iN (cb)), .int (iN ((sgn vb))), .int (iN ((tp vb))), .int (iN ((nd (cN vb) : Int))), .ref lb])) (c_lb : μ lb = some (lE cs 4 FB)) : Met l y_Ca_multiply (Cond.code y_Ca_multiply c_Ca_multiply 6 none :: wA) ({ frames := 4, cells := 0, slots := 0, locals := 98 }) (fm_Pc D clsA (tysA cs) Z μ sz [.ref k, .ref h, .ref ga, .ref gb]) (fm_Qv D clsA (tysA cs) μ sz (fun μ' => Dc cs μ' h a (opW ca cb (sMul P va vb)).1 (opW ca cb (sMul P va vb)).2 ∧ (∃ G' : Int → Int, μ' w = some (lE cs 30 G')) ∧ fm_O μ μ' [h, a, w])) 0 0 (fm_A μ sz) := by
  refine cl_of (by decide +kernel) (Nat.le_of_ble_eq_true rfl) (fun p e s m below meth c S hr hlocks hnm hsz hw hK hZ hA ls hl => ?_)
  subst hsz
  replace S : CallFix p m c c_Ca_multiply 6 s _ wA "ArithmeticForms$Calculator" := S
  obtain ⟨hx, hb, hml, hown, hts⟩ := id S
  have hzc := hZc _ _ _ hZ
  have hO0 : fm_O μ μ [h, a, w] := fm_O.rf
  have hl : lv_has ls 6 [(0, .ref k), (1, .ref h), (2, .ref ga), (3, .ref gb)] := hl
  refine lv_aload_n hx hb d_Ca_multiply_0 rfl (lv_at hl 1 rfl) ?_
  refine lv_aload_n hx hb d_Ca_multiply_1 rfl (lv_at hl 2 rfl) ?_
  refine lv_aload_n hx hb d_Ca_multiply_2 rfl (lv_at hl 3 rfl) ?_
  refine fm_calli (va_runS (As := [.ref h, .ref ga, .ref gb]) (rest := []) S (t_Ca_passOn l D cs Z hZo tT hZc μ _ h a co sg tq ct F ga la ca va FA gb lb cb vb FB (by omega) (by omega) c_h c_a c_ga c_la c_gb c_lb) (va_cwS 3 hts (gS k166 k167 k3 k168) rfl rfl rfl (by decide +kernel) (by decide)) (fm_pre hZo hK hw hZ hA _) rfl rfl hl.1 rfl (lv_room (Nat.le_of_ble_eq_true rfl)) d_Ca_multiply_3 ⟨Nat.le_of_ble_eq_true rfl, Nat.le_of_ble_eq_true rfl⟩) hw hA (fun x2 μ3 H locs q1 hw => ?_)
  rcases q1 with ⟨hz, hc1, hc2, hmu⟩ | ⟨hz, hc1, hDc, hO⟩
  · subst hz
    rw [hmu] at hw
    clear hmu
    refine fm_if_eq (tgt := 10) S (by omega) d_Ca_multiply_6 (by decide) (fun c4 => ?_) (fun c4 => ?_)
    · subst hc1
      subst hc2
      have htva := hva.t
      have htvb := hvb.t
      have hsa := sgn_in va
      have hsb := sgn_in vb
      refine lv_aload_n hx hb d_Ca_multiply_10 rfl (lv_at hl 0 rfl) ?_
      refine fm_get S hK hw c_k i_Ca rfl 1 (by decide) (hts _ k100) (fun _ h => h) rfl d_Ca_multiply_11 ?_
      refine fm_lconst0 S d_Ca_multiply_14 ?_
      refine fm_callv (va_runS (As := [.ref w, .long (jN (0))]) (rest := []) S (t_Ar_fill l D cs Z hZo tT hZc μ _ w 30 G 0 (by decide) c_w) (va_cwS 2 hts (gS k206 k81 k5 k82) rfl rfl rfl (by decide +kernel) (by decide)) (fm_pre hZo hK hw hZ hA _) rfl rfl hl.1 rfl (lv_room (Nat.le_of_ble_eq_true rfl)) d_Ca_multiply_15 ⟨Nat.le_of_ble_eq_true rfl, Nat.le_of_ble_eq_true rfl⟩) hw hA (fun μ6 H locs q5 hw => ?_)
      obtain ⟨F7, hq, eF7, hO⟩ := q5
      have k_k : μ6 k = some (oE 1 [.int (iN ((P : Int))), .ref w, .ref lf, .ref on]) := hO.at (nmc (fm_kn c_k c_w rfl) nm0) c_k
      have k_h : μ6 h = some (oE 2 [.int (iN (co)), .int (iN (sg)), .int (iN (tq)), .int (iN (ct)), .ref a]) := hO.at (nmc (fm_kn c_h c_w rfl) nm0) c_h
      have k_a : μ6 a = some (lE cs 4 F) := hO.at (nmc (fm_kn c_a c_w rfl) nm0) c_a
      have k_ga : μ6 ga = some (oE 2 [.int (iN (0)), .int (iN ((sgn va))), .int (iN ((tp va))), .int (iN ((nd (cN va) : Int))), .ref la]) := hO.at (nmc (fm_kn c_ga c_w rfl) nm0) c_ga
      have k_la : μ6 la = some (lE cs 4 FA) := hO.at (nmc (fm_kn c_la c_w rfl) nm0) c_la
      have k_gb : μ6 gb = some (oE 2 [.int (iN (0)), .int (iN ((sgn vb))), .int (iN ((tp vb))), .int (iN ((nd (cN vb) : Int))), .ref lb]) := hO.at (nmc (fm_kn c_gb c_w rfl) nm0) c_gb
      have k_lb : μ6 lb = some (lE cs 4 FB) := hO.at (nmc (fm_kn c_lb c_w rfl) nm0) c_lb
      have k_w : μ6 w = some (lE cs 30 F7) := hq
      have hO0 := hO0.tr1 hO (by simp)
      clear c_k c_w c_h c_a c_ga c_la c_gb c_lb
      have c_k := k_k; clear k_k
      have c_h := k_h; clear k_h
      have c_a := k_a; clear k_a
      have c_ga := k_ga; clear k_ga
      have c_la := k_la; clear k_la
      have c_gb := k_gb; clear k_gb
      have c_lb := k_lb; clear k_lb
      have c_w := k_w; clear k_w
      clear hq hO
      refine fm_iconst S d_Ca_multiply_18 ?_
      refine lv_istore (lv' := [(4, .int (iN (0))), (0, .ref k), (1, .ref h), (2, .ref ga), (3, .ref gb)]) hx hb d_Ca_multiply_19 hl (by decide) rfl (fun ls hl => ?_)
      refine K_mi (Z := Z) S hK hZo tT hZc hZ hA μ k w lf on P h a ga la gb lb co sg tq ct va vb F FA FB hda hdb (fun μ8 i n G1 H locs ls hn4 hMo c_k c_w c_ga c_la c_gb c_lb c_h c_a hO0 hl hw => ?_) (20) μ6 0 0 F7 _ _ _ (by omega) (by omega) (⟨by rw [wv_z 30 (fun q p1 p2 => eF7 q p1 p2)]; show (0 : Int) = 10 ^ 176 * (0 * L4 FB); omega, fun q a b => by rw [eF7 q a (by omega)]; omega⟩) c_k c_w c_ga c_la c_gb c_lb c_h c_a hO0 (lv_sub hl [0, 1, 2, 3, 4] rfl) hw
      subst hn4
      obtain ⟨hM1, hM2⟩ := hMo
      rw [pS_4, hda.2, hdb.2] at hM1
      have hTw : wv G1 30 = ((mN va * mN vb * 10 ^ 176 : Nat) : Int) := by rw [hM1, Int.natCast_mul, Int.natCast_mul, p10c]; ac_rfl
      have hT240 : mN va * mN vb * 10 ^ 176 < 10 ^ 240 := by
        have a1 := mN_lt hva
        have a2 := mN_lt hvb
        calc mN va * mN vb * 10 ^ 176 < 10 ^ 32 * 10 ^ 32 * 10 ^ 176 := Nat.mul_lt_mul_of_pos_right (Nat.mul_lt_mul_of_lt_of_le a1 (Nat.le_of_lt a2) (p10N 32)) (p10N _)
          _ = 10 ^ 240 := by rw [← Nat.pow_add, ← Nat.pow_add]
      have c240 := p10c 240
      refine lv_aload_n hx hb d_Ca_multiply_78 rfl (lv_at hl 1 rfl) ?_
      refine fm_callv (va_runV (As := []) (rest := []) S (t_Ca_carry l D cs Z hZo tT hZc μ8 _ k w lf on P G1 (fun q p1 p2 => by have := hM2 q p1 p2; omega) (by rw [hTw]; omega) c_k c_w) (cwV 0 hts (gV k207 k209 ks3 k3 k210) rfl rfl rfl (by decide +kernel) (by decide)) (fm_preV hZo hK hw hZ hA c_k rfl _) rfl rfl hl.1 rfl (lv_room (Nat.le_of_ble_eq_true rfl)) d_Ca_multiply_79 ⟨Nat.le_of_ble_eq_true rfl, Nat.le_of_ble_eq_true rfl⟩) hw hA (fun μ10 H locs q9 hw => ?_)
      obtain ⟨G11, hq, hokG11, hwvG11, hO⟩ := q9
      have k_k : μ10 k = some (oE 1 [.int (iN ((P : Int))), .ref w, .ref lf, .ref on]) := hO.at (nmc (fm_kn c_k c_w rfl) nm0) c_k
      have k_ga : μ10 ga = some (oE 2 [.int (iN (0)), .int (iN ((sgn va))), .int (iN ((tp va))), .int (iN ((nd (cN va) : Int))), .ref la]) := hO.at (nmc (fm_kn c_ga c_w rfl) nm0) c_ga
      have k_la : μ10 la = some (lE cs 4 FA) := hO.at (nmc (fm_kn c_la c_w rfl) nm0) c_la
      have k_gb : μ10 gb = some (oE 2 [.int (iN (0)), .int (iN ((sgn vb))), .int (iN ((tp vb))), .int (iN ((nd (cN vb) : Int))), .ref lb]) := hO.at (nmc (fm_kn c_gb c_w rfl) nm0) c_gb
      have k_lb : μ10 lb = some (lE cs 4 FB) := hO.at (nmc (fm_kn c_lb c_w rfl) nm0) c_lb
      have k_h : μ10 h = some (oE 2 [.int (iN (co)), .int (iN (sg)), .int (iN (tq)), .int (iN (ct)), .ref a]) := hO.at (nmc (fm_kn c_h c_w rfl) nm0) c_h
      have k_a : μ10 a = some (lE cs 4 F) := hO.at (nmc (fm_kn c_a c_w rfl) nm0) c_a
      have k_w : μ10 w = some (lE cs 30 G11) := hq
      have hO0 := hO0.tr1 hO (by simp)
      clear c_k c_w c_ga c_la c_gb c_lb c_h c_a
      have c_k := k_k; clear k_k
      have c_ga := k_ga; clear k_ga
      have c_la := k_la; clear k_la
      have c_gb := k_gb; clear k_gb
      have c_lb := k_lb; clear k_lb
      have c_h := k_h; clear k_h
      have c_a := k_a; clear k_a
      have c_w := k_w; clear k_w
      clear hq hO
      refine lv_aload_n hx hb d_Ca_multiply_82 rfl (lv_at hl 1 rfl) ?_
      refine lv_aload_n hx hb d_Ca_multiply_83 rfl (lv_at hl 2 rfl) ?_
      refine lv_aload_n hx hb d_Ca_multiply_84 rfl (lv_at hl 3 rfl) ?_
      refine fm_get S hK hw c_ga i_De rfl 1 (by decide) (hts _ k36) (fun _ h => h) rfl d_Ca_multiply_85 ?_
      refine lv_aload_n hx hb d_Ca_multiply_88 rfl (lv_at hl 4 rfl) ?_
      refine fm_get S hK hw c_gb i_De rfl 1 (by decide) (hts _ k36) (fun _ h => h) rfl d_Ca_multiply_89 ?_
      refine fm_imul S d_Ca_multiply_92 ?_
      refine lv_aload_n hx hb d_Ca_multiply_93 rfl (lv_at hl 3 rfl) ?_
      refine fm_get S hK hw c_ga i_De rfl 2 (by decide) (hts _ k40) (fun _ h => h) rfl d_Ca_multiply_94 ?_
      refine lv_aload_n hx hb d_Ca_multiply_97 rfl (lv_at hl 4 rfl) ?_
      refine fm_get S hK hw c_gb i_De rfl 2 (by decide) (hts _ k40) (fun _ h => h) rfl d_Ca_multiply_98 ?_
      refine fm_iadd S d_Ca_multiply_101 ?_
      refine fm_iconst S d_Ca_multiply_102 ?_
      refine fm_iadd S d_Ca_multiply_103 ?_
      refine fm_callv (va_runV (As := [.ref h, .int (iN (((sgn va) * (sgn vb)))), .int (iN ((((tp va) + (tp vb)) + 1)))]) (rest := []) S (t_Ca_settle l D cs Z hZo tT hZc μ10 _ k w lf on P G11 h a co sg tq ct F (mN va * mN vb * 10 ^ 176) ((sgn va) * (sgn vb)) (((tp va) + (tp vb)) + 1) hokG11 (by rw [hwvG11, hTw]) hP (fun q => sg_mul (fun z => q (by rw [z, mN_0]; simp)) (fun z => q (by rw [z, mN_0]; simp))) (by omega) c_k c_w c_h c_a) (cwV 3 hts (gV k215 k217 ks4 k3 k218) rfl rfl rfl (by decide +kernel) (by decide)) (fm_preV hZo hK hw hZ hA c_k rfl _) rfl rfl hl.1 rfl (lv_room (Nat.le_of_ble_eq_true rfl)) d_Ca_multiply_104 ⟨Nat.le_of_ble_eq_true rfl, Nat.le_of_ble_eq_true rfl⟩) hw hA (fun μ13 H locs q12 hw => ?_)
      obtain ⟨hDc, hO⟩ := q12
      have k_k : μ13 k = some (oE 1 [.int (iN ((P : Int))), .ref w, .ref lf, .ref on]) := hO.at (nmc (fm_kn c_k c_h rfl) (nmc (fm_kn c_k c_a rfl) nm0)) c_k
      have k_w : μ13 w = some (lE cs 30 G11) := hO.at (nmc (fm_kn c_w c_h rfl) (nmc (fm_kn c_w c_a rfl) nm0)) c_w
      have hO0 := hO0.tr1 hO (by simp)
      clear c_k c_ga c_la c_gb c_lb c_h c_a c_w
      have c_k := k_k; clear k_k
      have c_w := k_w; clear k_w
      refine fm_vret S hr hlocks hK hw d_Ca_multiply_107 ?_
      rw [opW_0, ← mul_ok hva hvb rfl]
      exact ⟨hDc, ⟨_, c_w⟩, hO0⟩
    · exact absurd c4 (by decide)
  · subst hz
    have k_k : μ3 k = some (oE 1 [.int (iN ((P : Int))), .ref w, .ref lf, .ref on]) := hO.at (nmc (fm_kn c_k c_h rfl) (nmc (fm_kn c_k c_a rfl) nm0)) c_k
    have k_w : μ3 w = some (lE cs 30 G) := hO.at (nmc (fm_kn c_w c_h rfl) (nmc (fm_kn c_w c_a rfl) nm0)) c_w
    have hO0 := hO0.tr1 hO (by simp)
    clear c_k c_w c_h c_a c_ga c_la c_gb c_lb
    have c_k := k_k; clear k_k
    have c_w := k_w; clear k_w
    refine fm_if_eq (tgt := 10) S (by omega) d_Ca_multiply_6 (by decide) (fun c14 => ?_) (fun c14 => ?_)
    · exact absurd c14 (by decide)
    · refine fm_vret S hr hlocks hK hw d_Ca_multiply_9 ?_
      rw [opW_r hc1]
      exact ⟨hDc, ⟨_, c_w⟩, hO0⟩
