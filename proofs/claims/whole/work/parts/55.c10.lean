theorem wv_x {G : Int → Int} {n : Nat} (k : Nat) (h : ∀ q : Int, (n : Int) ≤ q → q < ((n + k : Nat) : Int) → G q = 0) : wv G (n + k) = wv G n * 10 ^ (8 * k) := by
  induction k with
  | zero => simp
  | succ k ih =>
    show wv G (n + k) * 100000000 + G ((n + k : Nat) : Int) = _
    rw [ih (fun q a b => h q a (by omega)), h _ (by omega) (by omega), Int.add_zero, show 8 * (k + 1) = 8 * k + 8 by omega, Int.pow_add, show (10 : Int) ^ 8 = 100000000 by decide, Int.mul_assoc]
/-- inside the quotient's row: A over B, n limbs are known -/
def DwI (A B : Int) (G X : Int → Int) (n : Nat) : Prop := wv G n * B * 100000000 + Lv X = A * 10 ^ (8 * n) ∧ l5 X ∧ Lv X < 100000000 * B ∧ (∀ q : Int, 0 ≤ q → q < 30 → 0 ≤ G q ∧ G q < 100000000) ∧ ∀ q : Int, (n : Int) ≤ q → q < 30 → G q = 0
theorem Lv_0 {X : Int → Int} {B : Int} (h : l5 X) (hl : Lv X < B) (hB : B < 100000000000000000000000000000000) : X 0 = 0 := by
  have a0 := h 0 (by decide) (by decide)
  have a1 := h 1 (by decide) (by decide)
  have a2 := h 2 (by decide) (by decide)
  have a3 := h 3 (by decide) (by decide)
  have a4 := h 4 (by decide) (by decide)
  unfold Lv at hl
  omega
theorem DwI.step {A B z : Int} {G G1 X X1 X2 X3 : Int → Int} {n : Nat} (h : DwI A B G X n) (hn : n < 5) (hB : 0 < B ∧ B < 100000000000000000000000000000000) (h5 : l5 X1) (h1 : Lv X1 + z * B = Lv X) (h2 : Lv X1 < B) (hz : 0 ≤ z ∧ z < 100000000) (eG : G1 = uI G n z) (e2 : ∀ q : Int, 0 ≤ q → X2 q = if 0 ≤ q ∧ q < 0 + 4 then X1 (1 + (q - 0)) else X1 q) (e3 : X3 = uI X2 4 0) : DwI A B G1 X3 (n + 1) := by
  obtain ⟨g1, g2, g3, g4, g5⟩ := h
  have x0 := Lv_0 h5 h2 hB.2
  have s0 : X3 0 = X1 1 := by rw [e3, uI_n (by decide), e2 0 (by decide)]; rfl
  have s1 : X3 1 = X1 2 := by rw [e3, uI_n (by decide), e2 1 (by decide)]; rfl
  have s2 : X3 2 = X1 3 := by rw [e3, uI_n (by decide), e2 2 (by decide)]; rfl
  have s3 : X3 3 = X1 4 := by rw [e3, uI_n (by decide), e2 3 (by decide)]; rfl
  have s4 : X3 4 = 0 := by rw [e3, uI_s]
  have hL : Lv X3 = 100000000 * Lv X1 := by
    unfold Lv; rw [s0, s1, s2, s3, s4, x0]; omega
  refine ⟨?_, fun q a b => ?_, by omega, fun q a b => ?_, fun q a b => ?_⟩
  · have w1 : wv G1 (n + 1) = wv G n * 100000000 + z := by
      show wv G1 n * 100000000 + G1 n = _
      rw [wv_eq (G := G1) (G' := G) n (fun q a b => by rw [eG, uI_n (by omega)]), eG, uI_s]
    rw [w1, hL, show 8 * (n + 1) = 8 * n + 8 by omega, Int.pow_add, show (10 : Int) ^ 8 = 100000000 by decide, ← Int.mul_assoc, ← g1, ← h1, Int.add_mul, Int.mul_assoc (wv G n) 100000000 B, Int.mul_comm 100000000 B, ← Int.mul_assoc (wv G n) B]
    generalize wv G n * B = y
    generalize z * B = y2
    omega
  · have a1 := h5 1 (by decide) (by decide)
    have a2 := h5 2 (by decide) (by decide)
    have a3 := h5 3 (by decide) (by decide)
    have a4 := h5 4 (by decide) (by decide)
    rcases (show q = 0 ∨ q = 1 ∨ q = 2 ∨ q = 3 ∨ q = 4 by omega) with e | e | e | e | e <;> subst e
    · rw [s0]; exact a1
    · rw [s1]; exact a2
    · rw [s2]; exact a3
    · rw [s3]; exact a4
    · rw [s4]; decide
  · by_cases e : q = n
    · rw [eG, e, uI_s]; exact hz
    · rw [eG, uI_n e]; exact g4 q a b
  · rw [eG, uI_n (by omega)]; exact g5 q (by omega) b
theorem DwI.fin {A B : Nat} {G X : Int → Int} (h : DwI A B G X 5) (hB : 0 < B) : wv G 30 = ((A * 10 ^ 32 / B * 10 ^ 200 : Nat) : Int) := by
  obtain ⟨g1, g2, g3, g4, g5⟩ := h
  have w1 := wv_x (G := G) (n := 5) 25 (fun q a b => g5 q (by omega) (by omega))
  rw [show (8 * 25 : Nat) = 200 by decide] at w1
  have e : wv G 30 = wv G (5 + 25) := rfl
  rw [e, w1, Int.natCast_mul, p10c]
  congr 1
  have l0 : 0 ≤ Lv X := by
    have a0 := g2 0 (by decide) (by decide)
    have a1 := g2 1 (by decide) (by decide)
    have a2 := g2 2 (by decide) (by decide)
    have a3 := g2 3 (by decide) (by decide)
    have a4 := g2 4 (by decide) (by decide)
    unfold Lv; omega
  rw [show (8 * 5 : Nat) = 32 + 8 by decide, Int.pow_add, show (10 : Int) ^ 8 = 100000000 by decide, ← Int.mul_assoc] at g1
  rw [Int.natCast_ediv, Int.natCast_mul, p10c]
  symm
  rw [Int.ediv_eq_iff_of_pos (by omega)]
  have e2 : (wv G 5 + 1) * (B : Int) = wv G 5 * B + B := by rw [Int.add_mul, Int.one_mul]
  generalize wv G 5 * (B : Int) = y at *
  generalize (A : Int) * 10 ^ 32 = y2 at *
  omega
theorem div_ok {P : Nat} {va vb : Int} (hP : 1 ≤ P ∧ P ≤ 31) (ha : dB va) (hb : dB vb) (h0 : vb ≠ 0) : fin P (mN va * 10 ^ 32 / mN vb * 10 ^ 200) (tp va - tp vb + 8 - 1 - 239) (sgn va * sgn vb) = sDiv P va vb := by
  have ta := ha.t
  have tb := hb.t
  have B0 := mN_ge hb h0
  have B1 := mN_lt hb
  have p31p := p10N 31
  unfold sDiv
  rw [if_neg h0, show tp va - tp vb + 8 - 1 - 239 = (tp va - tp vb - 32) - ((200 : Nat) : Int) by omega, fin_mul]
  by_cases ha0 : va = 0
  · subst ha0
    rw [mN_0]
    simp
    rw [fin_0, fin_0]
  have A0 := mN_ge ha ha0
  obtain ⟨i, hi⟩ : ∃ i : Nat, (i : Int) = tp va - tp vb + 368 := ⟨(tp va - tp vb + 368).toNat, by omega⟩
  have e2 : va.natAbs * 10 ^ 400 / vb.natAbs = mN va * 10 ^ (32 + i) / mN vb := by
    rw [abs_l ha, abs_l hb, Nat.mul_assoc, ← Nat.pow_add, show (tp va + 269).toNat + 400 = (32 + i) + (tp vb + 269).toNat by omega, Nat.pow_add, ← Nat.mul_assoc, Nat.mul_div_mul_right _ _ (p10N _)]
  have e3 : mN va * 10 ^ (32 + i) / mN vb / 10 ^ i = mN va * 10 ^ 32 / mN vb := by
    rw [Nat.pow_add, ← Nat.mul_assoc, Nat.div_div_eq_div_mul, Nat.mul_div_mul_right _ _ (p10N _)]
  have q31 : 10 ^ 31 ≤ mN va * 10 ^ 32 / mN vb := by
    rw [Nat.le_div_iff_mul_le (by omega)]
    exact Nat.mul_le_mul A0 (Nat.le_of_lt B1)
  have hnd : P ≤ nd (mN va * 10 ^ (32 + i) / mN vb / 10 ^ i) := by
    rw [e3]
    rcases Nat.lt_or_ge (nd (mN va * 10 ^ 32 / mN vb)) 32 with h | h
    · have := nd_lt (mN va * 10 ^ 32 / mN vb)
      have h3 : 10 ^ nd (mN va * 10 ^ 32 / mN vb) ≤ 10 ^ 31 := Nat.pow_le_pow_right (by decide) (by omega)
      omega
    · omega
  obtain ⟨c1, c2⟩ := cut_more (x := tp va - tp vb - 32) hP.1 hnd
  rw [e3, show tp va - tp vb - 32 - (i : Int) = -400 by omega] at c1 c2
  rw [e2]
  unfold fin
  rw [c1, c2]

set_option maxHeartbeats 4000000 in
set_option maxRecDepth 100000 in
/-- K_dv -/
theorem K_dv {p : Program} {l : Launch} {e : Env} {s : State} {m : MethodId} {args : Array Value} {below : List Frame} {meth : Method} {c : Code} {Q : State → Prop} {D : va_G} {cs : Nat → ClassId} {Z : (Nat → Prop) → State → Heap → Prop} {A : Nat → Prop}  (S : CallFix p m c c_Ca_divide 5 s args wA "ArithmeticForms$Calculator") (hK : va_K D clsA (tysA cs) s) (hZo : fm_Zok Z) (tT : Nat) (hZc : ∀ A U H, Z A U H → Zc tT A U H) (hZ : Z A s s.heap) (hA : ∀ q, s.heap.size ≤ q → A q) (μ0 : fm_Mu) (k w lf on P : Nat) (h a ga la gb lb : Nat) (co sg tq ct va vb : Int) (F FA FB : Int → Int) (hda : dF FA va) (hva : dB va) (hdb : dF FB vb) (hvb : dB vb) (hv0 : vb ≠ 0) (hBB : 0 < (mN vb : Int) ∧ (mN vb : Int) < 100000000000000000000000000000000) (kk100 : ∀ (μ1 : fm_Mu) (i : Int) (n : Nat) (G1 : Int → Int) (X1 : Int → Int) (H : Heap) (locs : List Loc) (ls : Array Slot), (n = 5) → (DwI (mN va : Int) (mN vb : Int) G1 X1 n) → (μ1 k = some (oE 1 [.int (iN ((P : Int))), .ref w, .ref lf, .ref on])) → (μ1 w = some (lE cs 30 G1)) → (μ1 lf = some (lE cs 5 X1)) → (μ1 h = some (oE 2 [.int (iN (co)), .int (iN (sg)), .int (iN (tq)), .int (iN (ct)), .ref a])) → (μ1 a = some (lE cs 4 F)) → (μ1 ga = some (oE 2 [.int (iN (0)), .int (iN ((sgn va))), .int (iN ((tp va))), .int (iN ((nd (cN va) : Int))), .ref la])) → (μ1 la = some (lE cs 4 FA)) → (μ1 gb = some (oE 2 [.int (iN (0)), .int (iN ((sgn vb))), .int (iN ((tp vb))), .int (iN ((nd (cN vb) : Int))), .ref lb])) → (μ1 lb = some (lE cs 4 FB)) → fm_O μ0 μ1 [h, a, w, lf] → lv_has ls 5 [(4, .int (iN (i))), (0, .ref k), (1, .ref h), (2, .ref ga), (3, .ref gb)] → fm_W D clsA A s.heap μ1 H locs → W p l e ({ frames := 4, cells := 0, slots := 0, locals := 98 }) s m args below meth c H locs 0 0 Q (F0 m 100 ls [])) : ∀ (fu : Nat) (μ1 : fm_Mu) (i : Int) (n : Nat) (G1 : Int → Int) (X1 : Int → Int) (H : Heap) (locs : List Loc) (ls : Array Slot), 10 - i < (fu : Int) → (i = (n : Int) ∧ n ≤ 5) → (DwI (mN va : Int) (mN vb : Int) G1 X1 n) → (μ1 k = some (oE 1 [.int (iN ((P : Int))), .ref w, .ref lf, .ref on])) → (μ1 w = some (lE cs 30 G1)) → (μ1 lf = some (lE cs 5 X1)) → (μ1 h = some (oE 2 [.int (iN (co)), .int (iN (sg)), .int (iN (tq)), .int (iN (ct)), .ref a])) → (μ1 a = some (lE cs 4 F)) → (μ1 ga = some (oE 2 [.int (iN (0)), .int (iN ((sgn va))), .int (iN ((tp va))), .int (iN ((nd (cN va) : Int))), .ref la])) → (μ1 la = some (lE cs 4 FA)) → (μ1 gb = some (oE 2 [.int (iN (0)), .int (iN ((sgn vb))), .int (iN ((tp vb))), .int (iN ((nd (cN vb) : Int))), .ref lb])) → (μ1 lb = some (lE cs 4 FB)) → fm_O μ0 μ1 [h, a, w, lf] → lv_has ls 5 [(4, .int (iN (i))), (0, .ref k), (1, .ref h), (2, .ref ga), (3, .ref gb)] → fm_W D clsA A s.heap μ1 H locs → W p l e ({ frames := 4, cells := 0, slots := 0, locals := 98 }) s m args below meth c H locs 0 0 Q (F0 m 55 ls []) := by
  obtain ⟨hx, hb, hml, hown, hts⟩ := id S
  have hzc := hZc _ _ _ hZ
  intro fu
  induction fu with
  | zero =>
    intro μ1 i n G1 X1 H locs ls hn hi hDv c_k c_w c_lf c_h c_a c_ga c_la c_gb c_lb hO0 hl hw
    exfalso; omega
  | succ fu ih =>
    intro μ1 i n G1 X1 H locs ls hn hi hDv c_k c_w c_lf c_h c_a c_ga c_la c_gb c_lb hO0 hl hw
    refine lv_iload hx hb d_Ca_divide_55 (lv_at hl 0 rfl) ?_
    refine fm_iconst S d_Ca_divide_57 ?_
    refine fm_icmp_gt (tgt := 100) S (by omega) (by omega) d_Ca_divide_58 (by decide) (fun c1 => ?_) (fun c1 => ?_)
    · exact kk100 μ1 i n G1 X1 _ _ _ (by omega) (hDv) c_k c_w c_lf c_h c_a c_ga c_la c_gb c_lb hO0 (lv_sub hl [0, 1, 2, 3, 4] rfl) hw
    · refine lv_aload_n hx hb d_Ca_divide_61 rfl (lv_at hl 1 rfl) ?_
      refine fm_get S hK hw c_k i_Ca rfl 1 (by decide) (hts _ k100) (fun _ h => h) rfl d_Ca_divide_62 ?_
      refine lv_iload hx hb d_Ca_divide_65 (lv_at hl 0 rfl) ?_
      refine lv_aload_n hx hb d_Ca_divide_67 rfl (lv_at hl 1 rfl) ?_
      refine lv_aload_n hx hb d_Ca_divide_68 rfl (lv_at hl 4 rfl) ?_
      refine fm_calll (va_runV (As := [.ref gb]) (rest := [.int (iN (i)), .ref w]) S (t_Ca_takeOut l D cs Z hZo tT hZc μ1 _ k w lf on P X1 gb lb 0 vb FB (hDv.2.1) hdb hvb (hv0) (hDv.2.2.1) c_k c_lf c_gb c_lb) (cwV 1 hts (gV k231 k233 ks6 k3 k234) rfl rfl rfl (by decide +kernel) (by decide)) (fm_preV hZo hK hw hZ hA c_k rfl _) rfl rfl hl.1 rfl (lv_room (Nat.le_of_ble_eq_true rfl)) d_Ca_divide_69 ⟨Nat.le_of_ble_eq_true rfl, Nat.le_of_ble_eq_true rfl⟩) hw hA (fun x3 μ4 H locs q2 hw => ?_)
      obtain ⟨X5, hq, hl5X5, hLvX5, hltX5, hzX5, hO⟩ := q2
      have k_k : μ4 k = some (oE 1 [.int (iN ((P : Int))), .ref w, .ref lf, .ref on]) := hO.at (nmc (fm_kn c_k c_lf rfl) nm0) c_k
      have k_w : μ4 w = some (lE cs 30 G1) := hO.at (nmc (fm_kn c_w c_lf rfl) nm0) c_w
      have k_h : μ4 h = some (oE 2 [.int (iN (co)), .int (iN (sg)), .int (iN (tq)), .int (iN (ct)), .ref a]) := hO.at (nmc (fm_kn c_h c_lf rfl) nm0) c_h
      have k_a : μ4 a = some (lE cs 4 F) := hO.at (nmc (fm_kn c_a c_lf rfl) nm0) c_a
      have k_ga : μ4 ga = some (oE 2 [.int (iN (0)), .int (iN ((sgn va))), .int (iN ((tp va))), .int (iN ((nd (cN va) : Int))), .ref la]) := hO.at (nmc (fm_kn c_ga c_lf rfl) nm0) c_ga
      have k_la : μ4 la = some (lE cs 4 FA) := hO.at (nmc (fm_kn c_la c_lf rfl) nm0) c_la
      have k_gb : μ4 gb = some (oE 2 [.int (iN (0)), .int (iN ((sgn vb))), .int (iN ((tp vb))), .int (iN ((nd (cN vb) : Int))), .ref lb]) := hO.at (nmc (fm_kn c_gb c_lf rfl) nm0) c_gb
      have k_lb : μ4 lb = some (lE cs 4 FB) := hO.at (nmc (fm_kn c_lb c_lf rfl) nm0) c_lb
      have k_lf : μ4 lf = some (lE cs 5 X5) := hq
      have hO0 := hO0.tr1 hO (by simp)
      clear c_k c_w c_lf c_h c_a c_ga c_la c_gb c_lb
      have c_k := k_k; clear k_k
      have c_w := k_w; clear k_w
      have c_h := k_h; clear k_h
      have c_a := k_a; clear k_a
      have c_ga := k_ga; clear k_ga
      have c_la := k_la; clear k_la
      have c_gb := k_gb; clear k_gb
      have c_lb := k_lb; clear k_lb
      have c_lf := k_lf; clear k_lf
      clear hq hO
      refine cl_last S hK hw c_w (by omega) d_Ca_divide_72 (fun F6 μ7 H locs eF6 hw hq hO => ?_)
      have k_k : μ7 k = some (oE 1 [.int (iN ((P : Int))), .ref w, .ref lf, .ref on]) := hO.at (nmc (fm_kn c_k c_w rfl) nm0) c_k
      have k_h : μ7 h = some (oE 2 [.int (iN (co)), .int (iN (sg)), .int (iN (tq)), .int (iN (ct)), .ref a]) := hO.at (nmc (fm_kn c_h c_w rfl) nm0) c_h
      have k_a : μ7 a = some (lE cs 4 F) := hO.at (nmc (fm_kn c_a c_w rfl) nm0) c_a
      have k_ga : μ7 ga = some (oE 2 [.int (iN (0)), .int (iN ((sgn va))), .int (iN ((tp va))), .int (iN ((nd (cN va) : Int))), .ref la]) := hO.at (nmc (fm_kn c_ga c_w rfl) nm0) c_ga
      have k_la : μ7 la = some (lE cs 4 FA) := hO.at (nmc (fm_kn c_la c_w rfl) nm0) c_la
      have k_gb : μ7 gb = some (oE 2 [.int (iN (0)), .int (iN ((sgn vb))), .int (iN ((tp vb))), .int (iN ((nd (cN vb) : Int))), .ref lb]) := hO.at (nmc (fm_kn c_gb c_w rfl) nm0) c_gb
      have k_lb : μ7 lb = some (lE cs 4 FB) := hO.at (nmc (fm_kn c_lb c_w rfl) nm0) c_lb
      have k_lf : μ7 lf = some (lE cs 5 X5) := hO.at (nmc (fm_kn c_lf c_w rfl) nm0) c_lf
      have k_w : μ7 w = some (lE cs 30 F6) := hq
      have hO0 := hO0.tr1 hO (by simp)
      clear c_k c_w c_h c_a c_ga c_la c_gb c_lb c_lf
      have c_k := k_k; clear k_k
      have c_h := k_h; clear k_h
      have c_a := k_a; clear k_a
      have c_ga := k_ga; clear k_ga
      have c_la := k_la; clear k_la
      have c_gb := k_gb; clear k_gb
      have c_lb := k_lb; clear k_lb
      have c_lf := k_lf; clear k_lf
      have c_w := k_w; clear k_w
      clear hq hO
      refine lv_aload_n hx hb d_Ca_divide_73 rfl (lv_at hl 1 rfl) ?_
      refine fm_get S hK hw c_k i_Ca rfl 2 (by decide) (hts _ k101) (fun _ h => h) rfl d_Ca_divide_74 ?_
      refine fm_iconst S d_Ca_divide_77 ?_
      refine lv_aload_n hx hb d_Ca_divide_78 rfl (lv_at hl 1 rfl) ?_
      refine fm_get S hK hw c_k i_Ca rfl 2 (by decide) (hts _ k101) (fun _ h => h) rfl d_Ca_divide_79 ?_
      refine fm_iconst S d_Ca_divide_82 ?_
      refine fm_iconst S d_Ca_divide_83 ?_
      refine cl_copy S (by rw [hml]; exact hl.1.symm) hK hw hzc.2.2.2.2.2 k230 k197 k7 c_lf c_lf (by omega) (Nat.le_of_ble_eq_true rfl) (Nat.le_of_ble_eq_true rfl) d_Ca_divide_84 (fun F8 μ9 H locs eF8 hw hq hO => ?_)
      have k_k : μ9 k = some (oE 1 [.int (iN ((P : Int))), .ref w, .ref lf, .ref on]) := hO.at (nmc (fm_kn c_k c_lf rfl) nm0) c_k
      have k_h : μ9 h = some (oE 2 [.int (iN (co)), .int (iN (sg)), .int (iN (tq)), .int (iN (ct)), .ref a]) := hO.at (nmc (fm_kn c_h c_lf rfl) nm0) c_h
      have k_a : μ9 a = some (lE cs 4 F) := hO.at (nmc (fm_kn c_a c_lf rfl) nm0) c_a
      have k_ga : μ9 ga = some (oE 2 [.int (iN (0)), .int (iN ((sgn va))), .int (iN ((tp va))), .int (iN ((nd (cN va) : Int))), .ref la]) := hO.at (nmc (fm_kn c_ga c_lf rfl) nm0) c_ga
      have k_la : μ9 la = some (lE cs 4 FA) := hO.at (nmc (fm_kn c_la c_lf rfl) nm0) c_la
      have k_gb : μ9 gb = some (oE 2 [.int (iN (0)), .int (iN ((sgn vb))), .int (iN ((tp vb))), .int (iN ((nd (cN vb) : Int))), .ref lb]) := hO.at (nmc (fm_kn c_gb c_lf rfl) nm0) c_gb
      have k_lb : μ9 lb = some (lE cs 4 FB) := hO.at (nmc (fm_kn c_lb c_lf rfl) nm0) c_lb
      have k_w : μ9 w = some (lE cs 30 F6) := hO.at (nmc (fm_kn c_w c_lf rfl) nm0) c_w
      have k_lf : μ9 lf = some (lE cs 5 F8) := hq
      have hO0 := hO0.tr1 hO (by simp)
      clear c_k c_h c_a c_ga c_la c_gb c_lb c_lf c_w
      have c_k := k_k; clear k_k
      have c_h := k_h; clear k_h
      have c_a := k_a; clear k_a
      have c_ga := k_ga; clear k_ga
      have c_la := k_la; clear k_la
      have c_gb := k_gb; clear k_gb
      have c_lb := k_lb; clear k_lb
      have c_w := k_w; clear k_w
      have c_lf := k_lf; clear k_lf
      clear hq hO
      refine lv_aload_n hx hb d_Ca_divide_87 rfl (lv_at hl 1 rfl) ?_
      refine fm_get S hK hw c_k i_Ca rfl 2 (by decide) (hts _ k101) (fun _ h => h) rfl d_Ca_divide_88 ?_
      refine fm_iconst S d_Ca_divide_91 ?_
      refine fm_lconst0 S d_Ca_divide_92 ?_
      refine cl_last S hK hw c_lf (by omega) d_Ca_divide_93 (fun F10 μ11 H locs eF10 hw hq hO => ?_)
      have k_k : μ11 k = some (oE 1 [.int (iN ((P : Int))), .ref w, .ref lf, .ref on]) := hO.at (nmc (fm_kn c_k c_lf rfl) nm0) c_k
      have k_h : μ11 h = some (oE 2 [.int (iN (co)), .int (iN (sg)), .int (iN (tq)), .int (iN (ct)), .ref a]) := hO.at (nmc (fm_kn c_h c_lf rfl) nm0) c_h
      have k_a : μ11 a = some (lE cs 4 F) := hO.at (nmc (fm_kn c_a c_lf rfl) nm0) c_a
      have k_ga : μ11 ga = some (oE 2 [.int (iN (0)), .int (iN ((sgn va))), .int (iN ((tp va))), .int (iN ((nd (cN va) : Int))), .ref la]) := hO.at (nmc (fm_kn c_ga c_lf rfl) nm0) c_ga
      have k_la : μ11 la = some (lE cs 4 FA) := hO.at (nmc (fm_kn c_la c_lf rfl) nm0) c_la
      have k_gb : μ11 gb = some (oE 2 [.int (iN (0)), .int (iN ((sgn vb))), .int (iN ((tp vb))), .int (iN ((nd (cN vb) : Int))), .ref lb]) := hO.at (nmc (fm_kn c_gb c_lf rfl) nm0) c_gb
      have k_lb : μ11 lb = some (lE cs 4 FB) := hO.at (nmc (fm_kn c_lb c_lf rfl) nm0) c_lb
      have k_w : μ11 w = some (lE cs 30 F6) := hO.at (nmc (fm_kn c_w c_lf rfl) nm0) c_w
      have k_lf : μ11 lf = some (lE cs 5 F10) := hq
      have hO0 := hO0.tr1 hO (by simp)
      clear c_k c_h c_a c_ga c_la c_gb c_lb c_w c_lf
      have c_k := k_k; clear k_k
      have c_h := k_h; clear k_h
      have c_a := k_a; clear k_a
      have c_ga := k_ga; clear k_ga
      have c_la := k_la; clear k_la
      have c_gb := k_gb; clear k_gb
      have c_lb := k_lb; clear k_lb
      have c_w := k_w; clear k_w
      have c_lf := k_lf; clear k_lf
      clear hq hO
      refine lv_iinc (v := iN ((i + 1))) (lv' := [(4, .int (iN ((i + 1)))), (0, .ref k), (1, .ref h), (2, .ref ga), (3, .ref gb)]) hx hb d_Ca_divide_94 hl (k := 0) rfl (iN_add _ _) (by decide) rfl (fun ls hl => ?_)
      refine lv_goto (tgt := 55) hx hb d_Ca_divide_97 (by decide) ?_
      exact ih μ11 (i + 1) (n + 1) F6 F10 _ _ _ (by omega) (by omega) (hDv.step (by omega) hBB hl5X5 hLvX5 hltX5 hzX5 (by rw [← hi.1]; exact eF6) eF8 eF10) c_k c_w c_lf c_h c_a c_ga c_la c_gb c_lb hO0 (lv_sub hl [0, 1, 2, 3, 4] rfl) hw

set_option maxHeartbeats 4000000 in
set_option maxRecDepth 100000 in
/-- divide(into, a, b) -/
theorem t_Ca_divide (l : Launch) (D : va_G) (cs : Nat → ClassId) (Z : (Nat → Prop) → State → Heap → Prop) (hZo : fm_Zok Z) (tT : Nat) (hZc : ∀ A U H, Z A U H → Zc tT A U H) (μ : fm_Mu) (sz : Nat) (k : Nat) (w : Nat) (lf : Nat) (on : Nat) (P : Nat) (G : Int → Int) (X : Int → Int) (h : Nat) (a : Nat) (co : Int) (sg : Int) (tq : Int) (ct : Int) (F : Int → Int) (ga : Nat) (la : Nat) (ca : Int) (va : Int) (FA : Int → Int) (gb : Nat) (lb : Nat) (cb : Int) (vb : Int) (FB : Int → Int) (hca : inI ca) (hcb : inI cb) (hda : dF FA va) (hva : dB va) (hdb : dF FB vb) (hvb : dB vb) (hP : 1 ≤ P ∧ P ≤ 31) (c_k : μ k = some (oE 1 [.int (iN ((P : Int))), .ref w, .ref lf, .ref on])) (c_w : μ w = some (lE cs 30 G)) (c_h : μ h = some (oE 2 [.int (iN (co)), .int (iN (sg)), .int (iN (tq)), .int (iN (ct)), .ref a])) (c_a : μ a = some (lE cs 4 F)) (c_ga : μ ga = some (oE 2 [.int (iN (ca)), .int (iN ((sgn va))), .int (iN ((tp va))), .int (iN ((nd (cN va) : Int))), .ref la])) (c_la : μ la = some (lE cs 4 FA)) (c_gb : μ gb = some (oE 2 [.int (iN (cb)), .int (iN ((sgn vb))), .int (iN ((tp vb))), .int (iN ((nd (cN vb) : Int))), .ref lb])) (c_lb : μ lb = some (lE cs 4 FB)) (c_lf : μ lf = some (lE cs 5 X)) : Met l y_Ca_divide (Cond.code y_Ca_divide c_Ca_divide 5 none :: wA) ({ frames := 4, cells := 0, slots := 0, locals := 98 }) (fm_Pc D clsA (tysA cs) Z μ sz [.ref k, .ref h, .ref ga, .ref gb]) (fm_Qv D clsA (tysA cs) μ sz (fun μ' => Dc cs μ' h a (opW ca cb (sDiv P va vb)).1 (opW ca cb (sDiv P va vb)).2 ∧ (∃ G' : Int → Int, μ' w = some (lE cs 30 G')) ∧ (∃ X' : Int → Int, μ' lf = some (lE cs 5 X')) ∧ fm_O μ μ' [h, a, w, lf])) 0 0 (fm_A μ sz) := by
  refine cl_of (by decide +kernel) (Nat.le_of_ble_eq_true rfl) (fun p e s m below meth c S hr hlocks hnm hsz hw hK hZ hA ls hl => ?_)
  subst hsz
  replace S : CallFix p m c c_Ca_divide 5 s _ wA "ArithmeticForms$Calculator" := S
  obtain ⟨hx, hb, hml, hown, hts⟩ := id S
  have hzc := hZc _ _ _ hZ
  have hO0 : fm_O μ μ [h, a, w, lf] := fm_O.rf
  have hl : lv_has ls 5 [(0, .ref k), (1, .ref h), (2, .ref ga), (3, .ref gb)] := hl
  refine lv_aload_n hx hb d_Ca_divide_0 rfl (lv_at hl 1 rfl) ?_
  refine lv_aload_n hx hb d_Ca_divide_1 rfl (lv_at hl 2 rfl) ?_
  refine lv_aload_n hx hb d_Ca_divide_2 rfl (lv_at hl 3 rfl) ?_
  refine fm_calli (va_runS (As := [.ref h, .ref ga, .ref gb]) (rest := []) S (t_Ca_passOn l D cs Z hZo tT hZc μ _ h a co sg tq ct F ga la ca va FA gb lb cb vb FB (by omega) (by omega) c_h c_a c_ga c_la c_gb c_lb) (va_cwS 3 hts (gS k166 k167 k3 k168) rfl rfl rfl (by decide +kernel) (by decide)) (fm_pre hZo hK hw hZ hA _) rfl rfl hl.1 rfl (lv_room (Nat.le_of_ble_eq_true rfl)) d_Ca_divide_3 ⟨Nat.le_of_ble_eq_true rfl, Nat.le_of_ble_eq_true rfl⟩) hw hA (fun x2 μ3 H locs q1 hw => ?_)
  rcases q1 with ⟨hz, hc1, hc2, hmu⟩ | ⟨hz, hc1, hDc, hO⟩
  · subst hz
    rw [hmu] at hw
    clear hmu
    refine fm_if_eq (tgt := 10) S (by omega) d_Ca_divide_6 (by decide) (fun c4 => ?_) (fun c4 => ?_)
    · subst hc1
      subst hc2
      have htva := hva.t
      have htvb := hvb.t
      have hsa := sgn_in va
      have hsb := sgn_in vb
      refine lv_aload_n hx hb d_Ca_divide_10 rfl (lv_at hl 3 rfl) ?_
      refine fm_get S hK hw c_gb i_De rfl 1 (by decide) (hts _ k36) (fun _ h => h) rfl d_Ca_divide_11 ?_
      refine fm_if_ne (tgt := 23) S (by omega) d_Ca_divide_14 (by decide) (fun c5 => ?_) (fun c5 => ?_)
      · have hv0 : vb ≠ 0 := fun z => (show ¬ sgn vb = 0 by assumption) (by rw [z, sgn_0])
        have hB1 := mN_ge hvb hv0
        have hB2 := mN_lt hvb
        have hA2 := mN_lt hva
        rw [p31] at hB1
        rw [p32] at hB2 hA2
        refine lv_aload_n hx hb d_Ca_divide_23 rfl (lv_at hl 0 rfl) ?_
        refine fm_get S hK hw c_k i_Ca rfl 1 (by decide) (hts _ k100) (fun _ h => h) rfl d_Ca_divide_24 ?_
        refine fm_lconst0 S d_Ca_divide_27 ?_
        refine fm_callv (va_runS (As := [.ref w, .long (jN (0))]) (rest := []) S (t_Ar_fill l D cs Z hZo tT hZc μ _ w 30 G 0 (by decide) c_w) (va_cwS 2 hts (gS k206 k81 k5 k82) rfl rfl rfl (by decide +kernel) (by decide)) (fm_pre hZo hK hw hZ hA _) rfl rfl hl.1 rfl (lv_room (Nat.le_of_ble_eq_true rfl)) d_Ca_divide_28 ⟨Nat.le_of_ble_eq_true rfl, Nat.le_of_ble_eq_true rfl⟩) hw hA (fun μ7 H locs q6 hw => ?_)
        obtain ⟨F8, hq, eF8, hO⟩ := q6
        have k_k : μ7 k = some (oE 1 [.int (iN ((P : Int))), .ref w, .ref lf, .ref on]) := hO.at (nmc (fm_kn c_k c_w rfl) nm0) c_k
        have k_h : μ7 h = some (oE 2 [.int (iN (co)), .int (iN (sg)), .int (iN (tq)), .int (iN (ct)), .ref a]) := hO.at (nmc (fm_kn c_h c_w rfl) nm0) c_h
        have k_a : μ7 a = some (lE cs 4 F) := hO.at (nmc (fm_kn c_a c_w rfl) nm0) c_a
        have k_ga : μ7 ga = some (oE 2 [.int (iN (0)), .int (iN ((sgn va))), .int (iN ((tp va))), .int (iN ((nd (cN va) : Int))), .ref la]) := hO.at (nmc (fm_kn c_ga c_w rfl) nm0) c_ga
        have k_la : μ7 la = some (lE cs 4 FA) := hO.at (nmc (fm_kn c_la c_w rfl) nm0) c_la
        have k_gb : μ7 gb = some (oE 2 [.int (iN (0)), .int (iN ((sgn vb))), .int (iN ((tp vb))), .int (iN ((nd (cN vb) : Int))), .ref lb]) := hO.at (nmc (fm_kn c_gb c_w rfl) nm0) c_gb
        have k_lb : μ7 lb = some (lE cs 4 FB) := hO.at (nmc (fm_kn c_lb c_w rfl) nm0) c_lb
        have k_lf : μ7 lf = some (lE cs 5 X) := hO.at (nmc (fm_kn c_lf c_w rfl) nm0) c_lf
        have k_w : μ7 w = some (lE cs 30 F8) := hq
        have hO0 := hO0.tr1 hO (by simp)
        clear c_k c_w c_h c_a c_ga c_la c_gb c_lb c_lf
        have c_k := k_k; clear k_k
        have c_h := k_h; clear k_h
        have c_a := k_a; clear k_a
        have c_ga := k_ga; clear k_ga
        have c_la := k_la; clear k_la
        have c_gb := k_gb; clear k_gb
        have c_lb := k_lb; clear k_lb
        have c_lf := k_lf; clear k_lf
        have c_w := k_w; clear k_w
        clear hq hO
        refine lv_aload_n hx hb d_Ca_divide_31 rfl (lv_at hl 0 rfl) ?_
        refine fm_get S hK hw c_k i_Ca rfl 2 (by decide) (hts _ k101) (fun _ h => h) rfl d_Ca_divide_32 ?_
        refine fm_iconst S d_Ca_divide_35 ?_
        refine fm_lconst0 S d_Ca_divide_36 ?_
        refine cl_last S hK hw c_lf (by omega) d_Ca_divide_37 (fun F9 μ10 H locs eF9 hw hq hO => ?_)
        have k_k : μ10 k = some (oE 1 [.int (iN ((P : Int))), .ref w, .ref lf, .ref on]) := hO.at (nmc (fm_kn c_k c_lf rfl) nm0) c_k
        have k_h : μ10 h = some (oE 2 [.int (iN (co)), .int (iN (sg)), .int (iN (tq)), .int (iN (ct)), .ref a]) := hO.at (nmc (fm_kn c_h c_lf rfl) nm0) c_h
        have k_a : μ10 a = some (lE cs 4 F) := hO.at (nmc (fm_kn c_a c_lf rfl) nm0) c_a
        have k_ga : μ10 ga = some (oE 2 [.int (iN (0)), .int (iN ((sgn va))), .int (iN ((tp va))), .int (iN ((nd (cN va) : Int))), .ref la]) := hO.at (nmc (fm_kn c_ga c_lf rfl) nm0) c_ga
        have k_la : μ10 la = some (lE cs 4 FA) := hO.at (nmc (fm_kn c_la c_lf rfl) nm0) c_la
        have k_gb : μ10 gb = some (oE 2 [.int (iN (0)), .int (iN ((sgn vb))), .int (iN ((tp vb))), .int (iN ((nd (cN vb) : Int))), .ref lb]) := hO.at (nmc (fm_kn c_gb c_lf rfl) nm0) c_gb
        have k_lb : μ10 lb = some (lE cs 4 FB) := hO.at (nmc (fm_kn c_lb c_lf rfl) nm0) c_lb
        have k_w : μ10 w = some (lE cs 30 F8) := hO.at (nmc (fm_kn c_w c_lf rfl) nm0) c_w
        have k_lf : μ10 lf = some (lE cs 5 F9) := hq
        have hO0 := hO0.tr1 hO (by simp)
        clear c_k c_h c_a c_ga c_la c_gb c_lb c_lf c_w
        have c_k := k_k; clear k_k
        have c_h := k_h; clear k_h
        have c_a := k_a; clear k_a
        have c_ga := k_ga; clear k_ga
        have c_la := k_la; clear k_la
        have c_gb := k_gb; clear k_gb
        have c_lb := k_lb; clear k_lb
        have c_w := k_w; clear k_w
        have c_lf := k_lf; clear k_lf
        clear hq hO
        refine lv_aload_n hx hb d_Ca_divide_38 rfl (lv_at hl 2 rfl) ?_
        refine fm_get S hK hw c_ga i_De rfl 4 (by decide) (hts _ k45) (fun _ h => h) rfl d_Ca_divide_39 ?_
        refine fm_iconst S d_Ca_divide_42 ?_
        refine lv_aload_n hx hb d_Ca_divide_43 rfl (lv_at hl 0 rfl) ?_
        refine fm_get S hK hw c_k i_Ca rfl 2 (by decide) (hts _ k101) (fun _ h => h) rfl d_Ca_divide_44 ?_
        refine fm_iconst S d_Ca_divide_47 ?_
        refine fm_iconst S d_Ca_divide_48 ?_
        refine cl_copy S (by rw [hml]; exact hl.1.symm) hK hw hzc.2.2.2.2.2 k230 k197 k7 c_la c_lf (by omega) (Nat.le_of_ble_eq_true rfl) (Nat.le_of_ble_eq_true rfl) d_Ca_divide_49 (fun F11 μ12 H locs eF11 hw hq hO => ?_)
        have k_k : μ12 k = some (oE 1 [.int (iN ((P : Int))), .ref w, .ref lf, .ref on]) := hO.at (nmc (fm_kn c_k c_lf rfl) nm0) c_k
        have k_h : μ12 h = some (oE 2 [.int (iN (co)), .int (iN (sg)), .int (iN (tq)), .int (iN (ct)), .ref a]) := hO.at (nmc (fm_kn c_h c_lf rfl) nm0) c_h
        have k_a : μ12 a = some (lE cs 4 F) := hO.at (nmc (fm_kn c_a c_lf rfl) nm0) c_a
        have k_ga : μ12 ga = some (oE 2 [.int (iN (0)), .int (iN ((sgn va))), .int (iN ((tp va))), .int (iN ((nd (cN va) : Int))), .ref la]) := hO.at (nmc (fm_kn c_ga c_lf rfl) nm0) c_ga
        have k_la : μ12 la = some (lE cs 4 FA) := hO.at (nmc (fm_kn c_la c_lf rfl) nm0) c_la
        have k_gb : μ12 gb = some (oE 2 [.int (iN (0)), .int (iN ((sgn vb))), .int (iN ((tp vb))), .int (iN ((nd (cN vb) : Int))), .ref lb]) := hO.at (nmc (fm_kn c_gb c_lf rfl) nm0) c_gb
        have k_lb : μ12 lb = some (lE cs 4 FB) := hO.at (nmc (fm_kn c_lb c_lf rfl) nm0) c_lb
        have k_w : μ12 w = some (lE cs 30 F8) := hO.at (nmc (fm_kn c_w c_lf rfl) nm0) c_w
        have k_lf : μ12 lf = some (lE cs 5 F11) := hq
        have hO0 := hO0.tr1 hO (by simp)
        clear c_k c_h c_a c_ga c_la c_gb c_lb c_w c_lf
        have c_k := k_k; clear k_k
        have c_h := k_h; clear k_h
        have c_a := k_a; clear k_a
        have c_ga := k_ga; clear k_ga
        have c_la := k_la; clear k_la
        have c_gb := k_gb; clear k_gb
        have c_lb := k_lb; clear k_lb
        have c_w := k_w; clear k_w
        have c_lf := k_lf; clear k_lf
        clear hq hO
        refine fm_iconst S d_Ca_divide_52 ?_
        refine lv_istore (lv' := [(4, .int (iN (0))), (0, .ref k), (1, .ref h), (2, .ref ga), (3, .ref gb)]) hx hb d_Ca_divide_53 hl (by decide) rfl (fun ls hl => ?_)
        have hX0 : F11 0 = 0 := by rw [eF11 0 (by decide)]; simp; rw [eF9, uI_s]
        have hXq : ∀ q : Int, 0 ≤ q → q < 4 → F11 (q + 1) = FA q := fun q p1 p2 => by rw [eF11 (q + 1) (by omega), if_pos (by omega)]; congr 1; omega
        have hL0 : Lv F11 = (mN va : Int) := by rw [Lv_s, hX0, lim_same (F := fun q => F11 (q + 1)) (G := FA) (fun q p1 p2 => hXq q p1 p2), hda.2]; omega
        have h50 : l5 F11 := fun q p1 p2 => by
          by_cases hq0 : q = 0
          · rw [hq0, hX0]; decide
          · have hq1 := hXq (q - 1) (by omega) (by omega)
            rw [show q - 1 + 1 = q by omega] at hq1
            rw [hq1]; exact hda.1 _ (by omega) (by omega)
        have hDv0 : DwI (mN va : Int) (mN vb : Int) F8 F11 0 := ⟨by rw [hL0]; show 0 * _ * _ + _ = _ * 1; omega, h50, by omega, fun q p1 p2 => by rw [eF8 q p1 (by omega)]; decide, fun q p1 p2 => eF8 q (by omega) (by omega)⟩
        refine K_dv (Z := Z) S hK hZo tT hZc hZ hA μ k w lf on P h a ga la gb lb co sg tq ct va vb F FA FB hda hva hdb hvb hv0 (by omega) (fun μ13 i n G1 X1 H locs ls hn5 hDv c_k c_w c_lf c_h c_a c_ga c_la c_gb c_lb hO0 hl hw => ?_) (20) μ12 0 0 F8 F11 _ _ _ (by omega) (by omega) (hDv0) c_k c_w c_lf c_h c_a c_ga c_la c_gb c_lb hO0 (lv_sub hl [0, 1, 2, 3, 4] rfl) hw
        subst hn5
        have hTw := hDv.fin (by omega)
        refine lv_aload_n hx hb d_Ca_divide_100 rfl (lv_at hl 1 rfl) ?_
        refine lv_aload_n hx hb d_Ca_divide_101 rfl (lv_at hl 2 rfl) ?_
        refine lv_aload_n hx hb d_Ca_divide_102 rfl (lv_at hl 3 rfl) ?_
        refine fm_get S hK hw c_ga i_De rfl 1 (by decide) (hts _ k36) (fun _ h => h) rfl d_Ca_divide_103 ?_
        refine lv_aload_n hx hb d_Ca_divide_106 rfl (lv_at hl 4 rfl) ?_
        refine fm_get S hK hw c_gb i_De rfl 1 (by decide) (hts _ k36) (fun _ h => h) rfl d_Ca_divide_107 ?_
        refine fm_imul S d_Ca_divide_110 ?_
        refine lv_aload_n hx hb d_Ca_divide_111 rfl (lv_at hl 3 rfl) ?_
        refine fm_get S hK hw c_ga i_De rfl 2 (by decide) (hts _ k40) (fun _ h => h) rfl d_Ca_divide_112 ?_
        refine lv_aload_n hx hb d_Ca_divide_115 rfl (lv_at hl 4 rfl) ?_
        refine fm_get S hK hw c_gb i_De rfl 2 (by decide) (hts _ k40) (fun _ h => h) rfl d_Ca_divide_116 ?_
        refine fm_isub S d_Ca_divide_119 ?_
        refine fm_bipush S d_Ca_divide_120 (by decide) ?_
        refine fm_iadd S d_Ca_divide_122 ?_
        refine fm_iconst S d_Ca_divide_123 ?_
        refine fm_isub S d_Ca_divide_124 ?_
        refine fm_callv (va_runV (As := [.ref h, .int (iN (((sgn va) * (sgn vb)))), .int (iN (((((tp va) - (tp vb)) + 8) - 1)))]) (rest := []) S (t_Ca_settle l D cs Z hZo tT hZc μ13 _ k w lf on P G1 h a co sg tq ct F (mN va * 10 ^ 32 / mN vb * 10 ^ 200) ((sgn va) * (sgn vb)) ((((tp va) - (tp vb)) + 8) - 1) hDv.2.2.2.1 hTw hP (fun q => sg_mul (fun z => q (by rw [z, mN_0]; simp)) hv0) (by omega) c_k c_w c_h c_a) (cwV 3 hts (gV k215 k217 ks4 k3 k218) rfl rfl rfl (by decide +kernel) (by decide)) (fm_preV hZo hK hw hZ hA c_k rfl _) rfl rfl hl.1 rfl (lv_room (Nat.le_of_ble_eq_true rfl)) d_Ca_divide_125 ⟨Nat.le_of_ble_eq_true rfl, Nat.le_of_ble_eq_true rfl⟩) hw hA (fun μ15 H locs q14 hw => ?_)
        obtain ⟨hDc, hO⟩ := q14
        have k_k : μ15 k = some (oE 1 [.int (iN ((P : Int))), .ref w, .ref lf, .ref on]) := hO.at (nmc (fm_kn c_k c_h rfl) (nmc (fm_kn c_k c_a rfl) nm0)) c_k
        have k_w : μ15 w = some (lE cs 30 G1) := hO.at (nmc (fm_kn c_w c_h rfl) (nmc (fm_kn c_w c_a rfl) nm0)) c_w
        have k_lf : μ15 lf = some (lE cs 5 X1) := hO.at (nmc (fm_kn c_lf c_h rfl) (nmc (fm_kn c_lf c_a rfl) nm0)) c_lf
        have hO0 := hO0.tr1 hO (by simp)
        clear c_k c_w c_lf c_h c_a c_ga c_la c_gb c_lb
        have c_k := k_k; clear k_k
        have c_w := k_w; clear k_w
        have c_lf := k_lf; clear k_lf
        refine fm_vret S hr hlocks hK hw d_Ca_divide_128 ?_
        rw [opW_0, ← div_ok hP hva hvb hv0]
        exact ⟨hDc, ⟨_, c_w⟩, ⟨_, c_lf⟩, hO0⟩
      · refine lv_aload_n hx hb d_Ca_divide_17 rfl (lv_at hl 1 rfl) ?_
        refine fm_iconst S d_Ca_divide_18 ?_
        refine fm_callv (va_runV (As := [.int (iN (2))]) (rest := []) S (t_De_raise l D cs Z hZo tT hZc μ _ h a co sg tq ct F 2 c_h c_a) (cwV 1 hts (gV k169 k170 k171 k2 k172) rfl rfl rfl (by decide +kernel) (by decide)) (fm_preV hZo hK hw hZ hA c_h rfl _) rfl rfl hl.1 rfl (lv_room (Nat.le_of_ble_eq_true rfl)) d_Ca_divide_19 ⟨Nat.le_of_ble_eq_true rfl, Nat.le_of_ble_eq_true rfl⟩) hw hA (fun μ17 H locs q16 hw => ?_)
        obtain ⟨F18, hq, hq2, eF18, hO⟩ := q16
        have k_k : μ17 k = some (oE 1 [.int (iN ((P : Int))), .ref w, .ref lf, .ref on]) := hO.at (nmc (fm_kn c_k c_h rfl) (nmc (fm_kn c_k c_a rfl) nm0)) c_k
        have k_w : μ17 w = some (lE cs 30 G) := hO.at (nmc (fm_kn c_w c_h rfl) (nmc (fm_kn c_w c_a rfl) nm0)) c_w
        have k_lf : μ17 lf = some (lE cs 5 X) := hO.at (nmc (fm_kn c_lf c_h rfl) (nmc (fm_kn c_lf c_a rfl) nm0)) c_lf
        have k_h : μ17 h = some (oE 2 [.int (iN (2)), .int (iN (0)), .int (iN (0)), .int (iN (0)), .ref a]) := hq
        have k_a : μ17 a = some (lE cs 4 F18) := hq2
        have hO0 := hO0.tr1 hO (by simp)
        clear c_k c_w c_h c_a c_ga c_la c_gb c_lb c_lf
        have c_k := k_k; clear k_k
        have c_w := k_w; clear k_w
        have c_lf := k_lf; clear k_lf
        have c_h := k_h; clear k_h
        have c_a := k_a; clear k_a
        clear hq hq2 hO
        refine fm_vret S hr hlocks hK hw d_Ca_divide_22 ?_
        have hv0 : vb = 0 := Classical.byContradiction fun z => by rcases sgn_nz z with z1 | z1 <;> omega
        rw [opW_0]
        unfold sDiv
        rw [if_pos hv0]
        exact ⟨⟨F18, by rw [sgn_0, tp_0, nz_0]; exact c_h, c_a, dF.z eF18, dB_0⟩, ⟨_, c_w⟩, ⟨_, c_lf⟩, hO0⟩
    · exact absurd c4 (by decide)
  · subst hz
    have k_k : μ3 k = some (oE 1 [.int (iN ((P : Int))), .ref w, .ref lf, .ref on]) := hO.at (nmc (fm_kn c_k c_h rfl) (nmc (fm_kn c_k c_a rfl) nm0)) c_k
    have k_w : μ3 w = some (lE cs 30 G) := hO.at (nmc (fm_kn c_w c_h rfl) (nmc (fm_kn c_w c_a rfl) nm0)) c_w
    have k_lf : μ3 lf = some (lE cs 5 X) := hO.at (nmc (fm_kn c_lf c_h rfl) (nmc (fm_kn c_lf c_a rfl) nm0)) c_lf
    have hO0 := hO0.tr1 hO (by simp)
    clear c_k c_w c_h c_a c_ga c_la c_gb c_lb c_lf
    have c_k := k_k; clear k_k
    have c_w := k_w; clear k_w
    have c_lf := k_lf; clear k_lf
    refine fm_if_eq (tgt := 10) S (by omega) d_Ca_divide_6 (by decide) (fun c19 => ?_) (fun c19 => ?_)
    · exact absurd c19 (by decide)
    · refine fm_vret S hr hlocks hK hw d_Ca_divide_9 ?_
      rw [opW_r hc1]
      exact ⟨hDc, ⟨_, c_w⟩, ⟨_, c_lf⟩, hO0⟩
