-- THE WIDE ROW (own work)
def wv (G : Int → Int) : Nat → Int
  | 0 => 0
  | n + 1 => wv G n * 100000000 + G n
theorem wv_up {G G' : Int → Int} {j x : Int} (n : Nat) (hj : 0 ≤ j ∧ j < (n : Int)) (e : G' = uI G j x) : wv G' n = wv G n + (x - G j) * 10 ^ (8 * (n - 1 - j)).toNat := by
  induction n with
  | zero => omega
  | succ n ih =>
    show wv G' n * 100000000 + G' n = wv G n * 100000000 + G n + (x - G j) * 10 ^ (8 * (((n + 1 : Nat) : Int) - 1 - j)).toNat
    by_cases h : j = n
    · have h1 : ∀ m : Nat, (m : Int) ≤ j → wv G' m = wv G m := by
        intro m
        induction m with
        | zero => intro _; rfl
        | succ m ihm =>
          intro hm
          show wv G' m * 100000000 + G' m = wv G m * 100000000 + G m
          rw [ihm (by omega), e, uI_n (by omega)]
      rw [h1 n (by omega), e, ← h, uI_s, show (8 * (((n + 1 : Nat) : Int) - 1 - j)).toNat = 0 by omega]
      simp
      omega
    · rw [ih (by omega), show G' n = G n by rw [e, uI_n (by omega)], show (8 * (((n + 1 : Nat) : Int) - 1 - j)).toNat = (8 * ((n : Int) - 1 - j)).toNat + 8 by omega, Int.pow_add, show (10 : Int) ^ 8 = 100000000 by decide, Int.add_mul, Int.mul_assoc]
      omega
theorem wv_z {G : Int → Int} (n : Nat) (h : ∀ q : Int, 0 ≤ q → q < n → G q = 0) : wv G n = 0 := by
  induction n with
  | zero => rfl
  | succ n ih =>
    show wv G n * 100000000 + G n = 0
    rw [ih (fun q a b => h q a (by omega)), h n (by omega) (by omega)]; rfl
theorem wv_eq {G G' : Int → Int} (n : Nat) (h : ∀ q : Int, 0 ≤ q → q < n → G q = G' q) : wv G n = wv G' n := by
  induction n with
  | zero => rfl
  | succ n ih =>
    show wv G n * 100000000 + G n = wv G' n * 100000000 + G' n
    rw [ih (fun q a b => h q a (by omega)), h n (by omega) (by omega)]
def wOk (G : Int → Int) : Prop := ∀ q : Int, 0 ≤ q → q < 30 → 0 ≤ G q ∧ G q < 100000000
def wvN (g : Nat → Nat) : Nat → Nat
  | 0 => 0
  | n + 1 => wvN g n * 10 ^ 8 + g n
theorem wvN_hi {g : Nat → Nat} {n : Nat} (k : Nat) (h : ∀ q, n ≤ q → q < n + k → g q < 10 ^ 8) : wvN g (n + k) / 10 ^ (8 * k) = wvN g n := by
  induction k with
  | zero => simp
  | succ k ih =>
    show (wvN g (n + k) * 10 ^ 8 + g (n + k)) / 10 ^ (8 * (k + 1)) = wvN g n
    rw [show 8 * (k + 1) = 8 + 8 * k by omega, Nat.pow_add, ← Nat.div_div_eq_div_mul, Nat.add_comm, Nat.mul_comm, Nat.add_mul_div_left _ _ (p10N 8), Nat.div_eq_of_lt (h (n + k) (by omega) (by omega)), Nat.zero_add, ih (fun q a b => h q a (by omega))]
theorem wvN_ext {g : Nat → Nat} {n : Nat} (k : Nat) (h : ∀ q, n ≤ q → g q = 0) : wvN g (n + k) = wvN g n * 10 ^ (8 * k) := by
  induction k with
  | zero => simp
  | succ k ih =>
    show wvN g (n + k) * 10 ^ 8 + g (n + k) = _
    rw [ih, h (n + k) (by omega), Nat.add_zero, Nat.mul_assoc, ← Nat.pow_add]; congr 1
theorem wvN_0 {g : Nat → Nat} (n : Nat) (h : ∀ q, q < n → g q = 0) : wvN g n = 0 := by
  induction n with
  | zero => rfl
  | succ n ih =>
    show wvN g n * 10 ^ 8 + g n = 0
    rw [ih (fun q a => h q (by omega)), h n (by omega)]
/-- limb q of the row, 0 outside of it -/
def gx (G : Int → Int) (q : Int) : Int := if q < 0 ∨ 30 ≤ q then 0 else G q
def gxN (G : Int → Int) (q : Nat) : Nat := (gx G q).toNat
theorem gx_in {G : Int → Int} (h : wOk G) (q : Int) : 0 ≤ gx G q ∧ gx G q < 100000000 := by
  unfold gx
  split
  · decide
  · exact h q (by omega) (by omega)
theorem gxN_e {G : Int → Int} (h : wOk G) (q : Nat) : gx G q = gxN G q ∧ gxN G q < 10 ^ 8 := by
  have := gx_in h q
  unfold gxN
  have e : (10 : Nat) ^ 8 = 100000000 := by decide
  omega
theorem wv_N {G : Int → Int} (h : wOk G) (n : Nat) (hn : n ≤ 30) : wv G n = wvN (gxN G) n := by
  induction n with
  | zero => rfl
  | succ n ih =>
    show wv G n * 100000000 + G n = ((wvN (gxN G) n * 10 ^ 8 + gxN G n : Nat) : Int)
    have h1 := gxN_e h n
    have h2 : gx G n = G n := by unfold gx; rw [if_neg (by omega)]
    rw [ih (by omega), ← h2, h1.1]
    have e : (10 : Nat) ^ 8 = 100000000 := by decide
    rw [e]
    omega
-- carry
def CyI (G0 G : Int → Int) (i : Int) : Prop := wv G 30 = wv G0 30 ∧ (∀ q : Int, i < q → q < 30 → 0 ≤ G q ∧ G q < 100000000) ∧ (∀ q : Int, 0 ≤ q → q < i → G q = G0 q) ∧ (-200000000000000000 ≤ G i ∧ G i ≤ 200000000000000000)
theorem CyI.step {G0 G G1 G2 : Int → Int} {i o : Int} (h : CyI G0 G i) (hb : ∀ q : Int, 0 ≤ q → q < 30 → -100000000000000000 ≤ G0 q ∧ G0 q ≤ 100000000000000000) (hi : 1 ≤ i ∧ i ≤ 29) (ho : o = G i / 100000000) (e1 : G1 = uI G i (G i - o * 100000000)) (e2 : G2 = uI G1 (i - 1) (G1 (i - 1) + o)) : CyI G0 G2 (i + -1) := by
  obtain ⟨h1, h2, h3, h4⟩ := h
  have hp : G1 (i - 1) = G0 (i - 1) := by rw [e1, uI_n (by omega), h3 _ (by omega) (by omega)]
  have hb1 := hb (i - 1) (by omega) (by omega)
  refine ⟨?_, ?_, ?_, ?_⟩
  · rw [wv_up 30 (by omega) e2, wv_up 30 (by omega) e1, h1]
    rw [show (8 * (((30 : Nat) : Int) - 1 - (i - 1))).toNat = (8 * (((30 : Nat) : Int) - 1 - i)).toNat + 8 by omega, Int.pow_add, show (10 : Int) ^ 8 = 100000000 by decide]
    rw [show G1 (i - 1) + o - G1 (i - 1) = o by omega, show G i - o * 100000000 - G i = -(o * 100000000) by omega, Int.neg_mul]
    rw [Int.mul_assoc o, Int.mul_comm 100000000]
    omega
  · intro q a b
    by_cases h5 : q = i
    · subst h5
      rw [e2, uI_n (by omega), e1, uI_s]; omega
    · rw [e2, uI_n (by omega), e1, uI_n h5]; exact h2 q (by omega) b
  · intro q a b
    rw [e2, uI_n (by omega), e1, uI_n (by omega)]; exact h3 q a (by omega)
  · rw [show i + -1 = i - 1 by omega, e2, uI_s, hp]; omega
theorem wv_rest {G : Int → Int} (k : Nat) (h : ∀ q : Int, 0 < q → q < ((k + 1 : Nat) : Int) → 0 ≤ G q ∧ G q < 100000000) : G 0 * 10 ^ (8 * k) ≤ wv G (k + 1) ∧ wv G (k + 1) < (G 0 + 1) * 10 ^ (8 * k) := by
  induction k with
  | zero =>
    show G 0 * 10 ^ (8 * 0) ≤ 0 * 100000000 + G 0 ∧ 0 * 100000000 + G 0 < (G 0 + 1) * 10 ^ (8 * 0)
    simp
    omega
  | succ k ih =>
    have h1 := ih (fun q a b => h q a (by omega))
    have h2 := h ((k + 1 : Nat) : Int) (by omega) (by omega)
    show G 0 * 10 ^ (8 * (k + 1)) ≤ wv G (k + 1) * 100000000 + G ((k + 1 : Nat) : Int) ∧ wv G (k + 1) * 100000000 + G ((k + 1 : Nat) : Int) < (G 0 + 1) * 10 ^ (8 * (k + 1))
    rw [show 8 * (k + 1) = 8 * k + 8 by omega, Int.pow_add, show (10 : Int) ^ 8 = 100000000 by decide, ← Int.mul_assoc, ← Int.mul_assoc]
    omega
theorem CyI.fin {G0 G : Int → Int} (h : CyI G0 G 0) (hT : 0 ≤ wv G0 30 ∧ wv G0 30 < 10 ^ 240) : wOk G ∧ wv G 30 = wv G0 30 := by
  obtain ⟨h1, h2, h3, h4⟩ := h
  have h5 := wv_rest (G := G) 29 (fun q a b => h2 q a (by omega))
  have e : wv G (29 + 1) = wv G 30 := rfl
  rw [e, h1] at h5
  have hp := p10 (8 * 29)
  have e2 : (10 : Int) ^ 240 = 100000000 * 10 ^ (8 * 29) := by rw [show (240 : Nat) = 8 + 8 * 29 by decide, Int.pow_add]; rfl
  rw [e2] at hT
  refine ⟨fun q a b => ?_, h1⟩
  by_cases hq : q = 0
  · subst hq
    refine ⟨?_, ?_⟩
    · rcases Int.lt_or_le (G 0) 0 with h6 | h6
      · have : (G 0 + 1) * 10 ^ (8 * 29) ≤ 0 := Int.mul_nonpos_of_nonpos_of_nonneg (by omega) (by omega)
        omega
      · exact h6
    · rcases Int.lt_or_le (G 0) 100000000 with h6 | h6
      · exact h6
      · have : 100000000 * 10 ^ (8 * 29) ≤ G 0 * 10 ^ (8 * 29) := Int.mul_le_mul_of_nonneg_right h6 (by omega)
        omega
  · exact h2 q (by omega) b
-- settle
def sF (G : Int → Int) (fi em q : Int) : Int := gx G (fi + q) % 10 ^ (8 - em).toNat * 10 ^ em.toNat + gx G (fi + q + 1) / 10 ^ (8 - em).toNat
theorem nd_T {G : Int → Int} {T : Nat} {fi em : Int} (hG : wOk G) (hT : wv G 30 = T) (hf : 0 ≤ fi ∧ fi < 30) (hz : ∀ q : Int, 0 ≤ q → q < fi → G q = 0) (he : 0 ≤ em ∧ em ≤ 7) (h1 : G fi < 10 ^ (8 - em).toNat) (h2 : 10 ^ (7 - em).toNat ≤ G fi) : (nd T : Int) = 240 - 8 * fi - em ∧ T ≠ 0 := by
  have hN : T = wvN (gxN G) 30 := by have := wv_N hG 30 (by decide); omega
  have h3 := wvN_hi (g := gxN G) (n := fi.toNat + 1) (30 - (fi.toNat + 1)) (fun q a b => (gxN_e hG q).2)
  rw [show fi.toNat + 1 + (30 - (fi.toNat + 1)) = 30 by omega, ← hN] at h3
  have h4 : wvN (gxN G) (fi.toNat + 1) = gxN G fi.toNat := by
    show wvN (gxN G) fi.toNat * 10 ^ 8 + gxN G fi.toNat = _
    rw [wvN_0 fi.toNat (fun q a => by
      unfold gxN gx
      rw [if_neg (by omega), hz q (by omega) (by omega)]; rfl)]
    omega
  have h5 : (gxN G fi.toNat : Int) = G fi := by
    rw [← (gxN_e hG fi.toNat).1]
    unfold gx
    rw [if_neg (by omega), Int.toNat_of_nonneg hf.1]
  have h6 : nd (gxN G fi.toNat) = 8 - em.toNat := by
    rw [show 8 - em.toNat = (7 - em.toNat) + 1 by omega]
    apply nd_uniq
    · have := p10c (7 - em).toNat
      rw [show (7 - em).toNat = 7 - em.toNat by omega] at this h2
      omega
    · have := p10c (8 - em).toNat
      rw [show (8 - em).toNat = 7 - em.toNat + 1 by omega] at this h1
      omega
  have h7 := nd_div (n := T) (k := 8 * (30 - (fi.toNat + 1)))
  rw [h3, h4, h6] at h7
  refine ⟨by omega, fun e => ?_⟩
  rw [e, nd_0] at h7
  omega
theorem sF_ok {G : Int → Int} {T : Nat} {fi em : Int} {F : Int → Int} (hG : wOk G) (hT : wv G 30 = T) (hf : 0 ≤ fi ∧ fi < 30) (hz : ∀ q : Int, 0 ≤ q → q < fi → G q = 0) (he : 0 ≤ em ∧ em ≤ 7) (h1 : G fi < 10 ^ (8 - em).toNat) (hnd : (nd T : Int) = 240 - 8 * fi - em) (hF : ∀ q : Int, 0 ≤ q → q < 4 → F q = sF G fi em q) : fOk F ∧ L4 F = (n32 T : Int) := by
  obtain ⟨d, hd⟩ : ∃ d : Int, d = 10 ^ (8 - em).toNat := ⟨_, rfl⟩
  obtain ⟨u, hu⟩ : ∃ u : Int, u = 10 ^ em.toNat := ⟨_, rfl⟩
  have hdu : d * u = 100000000 := by rw [hd, hu, ← Int.pow_add, show (8 - em).toNat + em.toNat = 8 by omega]; rfl
  have hd0 : 0 < d := by rw [hd]; exact p10 _
  have hu0 : 0 < u := by rw [hu]; exact p10 _
  have sFe : ∀ q : Int, sF G fi em q = gx G (fi + q) % d * u + gx G (fi + q + 1) / d := fun q => by unfold sF; rw [hd, hu]
  have lim : ∀ q : Int, 0 ≤ gx G (fi + q) % d * u + gx G (fi + q + 1) / d ∧ gx G (fi + q) % d * u + gx G (fi + q + 1) / d < 100000000 := by
    intro q
    have a1 := Int.emod_nonneg (gx G (fi + q)) (show d ≠ 0 by omega)
    have a2 := Int.emod_lt_of_pos (gx G (fi + q)) hd0
    have b := gx_in hG (fi + q + 1)
    have b1 := Int.ediv_nonneg b.1 (show 0 ≤ d by omega)
    have b2 : gx G (fi + q + 1) / d < u := by
      apply Int.ediv_lt_of_lt_mul hd0
      rw [Int.mul_comm, hdu]; exact b.2
    have c1 : gx G (fi + q) % d * u ≤ (d - 1) * u := Int.mul_le_mul_of_nonneg_right (by omega) (by omega)
    have c2 := Int.mul_nonneg a1 (show 0 ≤ u by omega)
    rw [Int.sub_mul, hdu] at c1
    omega
  refine ⟨fun q a b => by rw [hF q a b, sFe]; exact lim q, ?_⟩
  have g0 : gx G (fi + 0) = G fi := by unfold gx; rw [if_neg (by omega), Int.add_zero]
  have hg0 : gx G (fi + 0) % d = gx G (fi + 0) := Int.emod_eq_of_lt (gx_in hG _).1 (by rw [g0, hd]; exact h1)
  -- five limbs
  have A5 : L4 F = (gx G (fi + 0) * 100000000000000000000000000000000 + gx G (fi + 1) * 1000000000000000000000000 + gx G (fi + 2) * 10000000000000000 + gx G (fi + 3) * 100000000 + gx G (fi + 4)) / d := by
    unfold L4
    rw [hF 0 (by decide) (by decide), hF 1 (by decide) (by decide), hF 2 (by decide) (by decide), hF 3 (by decide) (by decide), sFe, sFe, sFe, sFe, hg0]
    rw [show fi + 0 + 1 = fi + 1 by omega, show fi + 1 + 1 = fi + 2 by omega, show fi + 2 + 1 = fi + 3 by omega, show fi + 3 + 1 = fi + 4 by omega]
    have k1 := Int.mul_ediv_add_emod (gx G (fi + 1)) d
    have k2 := Int.mul_ediv_add_emod (gx G (fi + 2)) d
    have k3 := Int.mul_ediv_add_emod (gx G (fi + 3)) d
    have k4 := Int.mul_ediv_add_emod (gx G (fi + 4)) d
    have m4 := Int.emod_nonneg (gx G (fi + 4)) (show d ≠ 0 by omega)
    have l4 := Int.emod_lt_of_pos (gx G (fi + 4)) hd0
    have mu : ∀ x : Int, d * (x * u) = x * 100000000 := fun x => by rw [Int.mul_comm x u, ← Int.mul_assoc, hdu, Int.mul_comm]
    symm
    rw [Int.ediv_eq_iff_of_pos hd0]
    have e : d * ((gx G (fi + 0) * u + gx G (fi + 1) / d) * 1000000000000000000000000 + (gx G (fi + 1) % d * u + gx G (fi + 2) / d) * 10000000000000000 + (gx G (fi + 2) % d * u + gx G (fi + 3) / d) * 100000000 + (gx G (fi + 3) % d * u + gx G (fi + 4) / d)) = (d * (gx G (fi + 0) * u) + d * (gx G (fi + 1) / d)) * 1000000000000000000000000 + (d * (gx G (fi + 1) % d * u) + d * (gx G (fi + 2) / d)) * 10000000000000000 + (d * (gx G (fi + 2) % d * u) + d * (gx G (fi + 3) / d)) * 100000000 + (d * (gx G (fi + 3) % d * u) + d * (gx G (fi + 4) / d)) := by
      simp only [Int.mul_add, ← Int.mul_assoc]
    rw [mu, mu, mu, mu] at e
    rw [Int.mul_comm] at e
    omega
  rw [A5]
  have hN : T = wvN (gxN G) 30 := by have := wv_N hG 30 (by decide); omega
  have z0 : wvN (gxN G) fi.toNat = 0 := wvN_0 fi.toNat (fun q a => by
      unfold gxN gx
      rw [if_neg (by omega), hz q (by omega) (by omega)]; rfl)
  have ge : ∀ k : Nat, gx G (fi + k) = gxN G (fi.toNat + k) := fun k => by
    rw [← (gxN_e hG (fi.toNat + k)).1]; congr 1; omega
  have W5 : wvN (gxN G) (fi.toNat + 5) = (gxN G (fi.toNat + 0)) * 100000000000000000000000000000000 + gxN G (fi.toNat + 1) * 1000000000000000000000000 + gxN G (fi.toNat + 2) * 10000000000000000 + gxN G (fi.toNat + 3) * 100000000 + gxN G (fi.toNat + 4) := by
    show ((((wvN (gxN G) fi.toNat * 10 ^ 8 + gxN G (fi.toNat + 0)) * 10 ^ 8 + gxN G (fi.toNat + 1)) * 10 ^ 8 + gxN G (fi.toNat + 2)) * 10 ^ 8 + gxN G (fi.toNat + 3)) * 10 ^ 8 + gxN G (fi.toNat + 4) = _
    rw [z0, show (10 : Nat) ^ 8 = 100000000 by decide]
    omega
  have k0 := ge 0
  have k1 := ge 1
  have k2 := ge 2
  have k3 := ge 3
  have k4 := ge 4
  rw [show fi + 0 = fi + ((0 : Nat) : Int) by rfl, show fi + 1 = fi + ((1 : Nat) : Int) by rfl, show fi + 2 = fi + ((2 : Nat) : Int) by rfl, show fi + 3 = fi + ((3 : Nat) : Int) by rfl, show fi + 4 = fi + ((4 : Nat) : Int) by rfl, k0, k1, k2, k3, k4, hd, ← p10c]
  have E5 : ((gxN G (fi.toNat + 0) : Int) * 100000000000000000000000000000000 + (gxN G (fi.toNat + 1) : Int) * 1000000000000000000000000 + (gxN G (fi.toNat + 2) : Int) * 10000000000000000 + (gxN G (fi.toNat + 3) : Int) * 100000000 + (gxN G (fi.toNat + 4) : Int)) = ((wvN (gxN G) (fi.toNat + 5) : Nat) : Int) := by rw [W5]; omega
  rw [E5, ← Int.natCast_ediv]
  congr 1
  unfold n32
  by_cases h25 : fi ≤ 25
  · rw [if_neg (by omega)]
    have h3 := wvN_hi (g := gxN G) (n := fi.toNat + 5) (25 - fi.toNat) (fun q a b => (gxN_e hG q).2)
    rw [show fi.toNat + 5 + (25 - fi.toNat) = 30 by omega, ← hN] at h3
    rw [← h3, Nat.div_div_eq_div_mul, ← Nat.pow_add]
    congr 2
    omega
  · rw [if_pos (by omega)]
    have h3 := wvN_ext (g := gxN G) (n := 30) (fi.toNat - 25) (fun q a => by unfold gxN gx; rw [if_pos (by omega)]; rfl)
    rw [show 30 + (fi.toNat - 25) = fi.toNat + 5 by omega, ← hN] at h3
    rw [h3, show 8 * (fi.toNat - 25) = (32 - nd T) + (8 - em).toNat by omega, Nat.pow_add, ← Nat.mul_assoc, Nat.mul_div_cancel _ (p10N _)]
theorem T_0 {G : Int → Int} {T : Nat} (hT : wv G 30 = T) (hz : ∀ q : Int, 0 ≤ q → q < 30 → G q = 0) : T = 0 := by
  rw [wv_z 30 (fun q a b => hz q a (by omega))] at hT; omega
theorem fin_0 (P : Nat) (x s : Int) : fin P 0 x s = (0, 0) := by
  unfold fin cuz
  rw [if_pos (by simp), cuv0, Int.mul_zero]
