-- THE REFERENCE'S REGISTERS (own work)
/-- register r has n digits of the value N, exponent x, sign sg -/
def Rg (M : Nat → Int → Int) (r : Int) (n N : Nat) (x sg : Int) : Prop := M 2 r = n ∧ M 3 r = x ∧ M 4 r = sg ∧ dOk (M 1) (320 * r) n ∧ dv (M 1) (320 * r) n = N
/-- only register r differs -/
def Fr (M M' : Nat → Int → Int) (r : Int) : Prop := (∀ k : Nat, k = 0 ∨ 6 ≤ k → M' k = M k) ∧ (∀ q : Int, q < 320 * r ∨ 320 * r + 320 ≤ q → M' 1 q = M 1 q) ∧ (∀ q : Int, q ≠ r → M' 2 q = M 2 q ∧ M' 3 q = M 3 q ∧ M' 4 q = M 4 q)
theorem Fr.rf {M : Nat → Int → Int} {r : Int} : Fr M M r := ⟨fun _ _ => rfl, fun _ _ => rfl, fun _ _ => ⟨rfl, rfl, rfl⟩⟩
theorem Fr.tr {M M' M'' : Nat → Int → Int} {r : Int} (h1 : Fr M M' r) (h2 : Fr M' M'' r) : Fr M M'' r := ⟨fun k h => (h2.1 k h).trans (h1.1 k h), fun q h => (h2.2.1 q h).trans (h1.2.1 q h), fun q h => ⟨((h2.2.2 q h).1).trans (h1.2.2 q h).1, ((h2.2.2 q h).2.1).trans (h1.2.2 q h).2.1, ((h2.2.2 q h).2.2).trans (h1.2.2 q h).2.2⟩⟩
theorem Fr.rg {M M' : Nat → Int → Int} {r r' : Int} {n N : Nat} {x sg : Int} (h : Fr M M' r) (hne : r' ≠ r) (hn : n ≤ 320) (hg : Rg M r' n N x sg) : Rg M' r' n N x sg := by
  obtain ⟨h1, h2, h3, h4, h5⟩ := hg
  have e := h.2.2 r' hne
  have ed : ∀ k : Int, 0 ≤ k → k < n → M' 1 (320 * r' + k) = M 1 (320 * r' + k) := fun k a b => h.2.1 _ (by omega)
  refine ⟨e.1.trans h1, e.2.1.trans h2, e.2.2.trans h3, fun k a b => by rw [ed k a b]; exact h4 k a b, ?_⟩
  rw [← h5]
  exact dv_congr ed
theorem Fr.d {M M' : Nat → Int → Int} {r k x : Int} (e : M' = setA M 1 (320 * r + k) x) (hk : 0 ≤ k ∧ k < 320) : Fr M M' r := by
  subst e
  refine ⟨fun j h => setA_n (by omega), fun q h => ?_, fun q h => ⟨by rw [setA_n (by decide)], by rw [setA_n (by decide)], by rw [setA_n (by decide)]⟩⟩
  rw [setA_s, uI_n (by omega)]
theorem Fr.s {M M' : Nat → Int → Int} {r x : Int} {j : Nat} (e : M' = setA M j r x) (hj : j = 2 ∨ j = 3 ∨ j = 4) : Fr M M' r := by
  subst e
  refine ⟨fun k h => setA_n (by omega), fun q h => by rw [setA_n (by omega)], fun q h => ?_⟩
  rcases hj with rfl | rfl | rfl
  · exact ⟨by rw [setA_s, uI_n h], by rw [setA_n (by decide)], by rw [setA_n (by decide)]⟩
  · exact ⟨by rw [setA_n (by decide)], by rw [setA_s, uI_n h], by rw [setA_n (by decide)]⟩
  · exact ⟨by rw [setA_n (by decide)], by rw [setA_n (by decide)], by rw [setA_s, uI_n h]⟩
theorem Rg.lt {M : Nat → Int → Int} {r : Int} {n N : Nat} {x sg : Int} (h : Rg M r n N x sg) : N < 10 ^ n := by
  have h1 := (dv_lt h.2.2.2.1).2
  rw [h.2.2.2.2, ← p10c] at h1
  omega
/-- digit of N * 10^x at 10^p -/
def dgt (N : Nat) (x p : Int) : Int := if p < x then 0 else ((N / 10 ^ (p - x).toNat % 10 : Nat) : Int)
theorem Rg.dig {M : Nat → Int → Int} {r : Int} {n N : Nat} {x sg k : Int} (h : Rg M r n N x sg) (h0 : 0 ≤ k) (hk : k < n) : M 1 (320 * r + k) = ((N / 10 ^ k.toNat % 10 : Nat) : Int) := by
  have h1 := dv_dig h.2.2.2.1 (k := k.toNat) (by omega)
  rw [h.2.2.2.2, Int.toNat_of_nonneg h0] at h1
  rw [← h1]
  simp
theorem Rg.hi {M : Nat → Int → Int} {r : Int} {n N : Nat} {x sg : Int} (h : Rg M r n N x sg) {k : Nat} (hk : n ≤ k) : N / 10 ^ k = 0 := by
  apply Nat.div_eq_of_lt
  exact Nat.lt_of_lt_of_le h.lt (Nat.pow_le_pow_right (by decide) hk)
theorem dgt_in (N : Nat) (x p : Int) : 0 ≤ dgt N x p ∧ dgt N x p ≤ 9 := by
  unfold dgt
  split
  · decide
  · have := Nat.mod_lt (N / 10 ^ (p - x).toNat) (show 10 > 0 by decide)
    omega
theorem Rg.at {M : Nat → Int → Int} {r : Int} {n N : Nat} {x sg P : Int} (h : Rg M r n N x sg) (h0 : 0 ≤ P - x) (hk : P - x < n) : M 1 (320 * r + (P - x)) = dgt N x P := by
  rw [h.dig h0 hk, dgt, if_neg (by omega)]
theorem Rg.out {M : Nat → Int → Int} {r : Int} {n N : Nat} {x sg P : Int} (h : Rg M r n N x sg) (h0 : P - x < 0 ∨ n ≤ P - x) : dgt N x P = 0 := by
  unfold dgt
  by_cases h1 : P < x
  · rw [if_pos h1]
  · rw [if_neg h1, h.hi (by omega)]; rfl
/-- copying digits from register f to t: k of them are there -/
def CpI (M0 M : Nat → Int → Int) (f t k : Int) : Prop := Fr M0 M t ∧ (M 2 = M0 2 ∧ M 3 = M0 3 ∧ M 4 = M0 4) ∧ ∀ q : Int, 0 ≤ q → q < k → M 1 (320 * t + q) = M0 1 (320 * f + q)
theorem CpI.start (M : Nat → Int → Int) (f t : Int) : CpI M M f t 0 := ⟨Fr.rf, ⟨rfl, rfl, rfl⟩, fun q h1 h2 => by omega⟩
theorem CpI.step {M0 M M1 : Nat → Int → Int} {f t k : Int} (h : CpI M0 M f t k) (hne : f ≠ t) (hk : 0 ≤ k ∧ k < 320) (e : M1 = setA M 1 (320 * t + k) (M 1 (320 * f + k))) : CpI M0 M1 f t (k + 1) := by
  refine ⟨h.1.tr (Fr.d e hk), ?_, fun q h1 h2 => ?_⟩
  · subst e
    exact ⟨(setA_n (by decide)).trans h.2.1.1, (setA_n (by decide)).trans h.2.1.2.1, (setA_n (by decide)).trans h.2.1.2.2⟩
  · subst e
    rw [setA_s]
    by_cases hq : q = k
    · subst hq
      rw [uI_s]
      exact h.1.2.1 _ (by omega)
    · rw [uI_n (by omega)]
      exact h.2.2 q h1 (by omega)
theorem CpI.fin {M0 M M1 M2 M3 : Nat → Int → Int} {f t : Int} {n N : Nat} {x sg : Int} (h : CpI M0 M f t n) (hne : f ≠ t) (hg : Rg M0 f n N x sg) (e1 : M1 = setA M 2 t (M 2 f)) (e2 : M2 = setA M1 3 t (M1 3 f)) (e3 : M3 = setA M2 4 t (M2 4 f)) : Fr M0 M3 t ∧ Rg M3 t n N x sg := by
  have hF := h.1.tr ((Fr.s e1 (by decide)).tr ((Fr.s e2 (by decide)).tr (Fr.s e3 (by decide))))
  obtain ⟨g1, g2, g3, g4, g5⟩ := hg
  obtain ⟨s1, s2, s3⟩ := h.2.1
  have d1 : M3 1 = M 1 := by subst e3 e2 e1; simp [setA]
  refine ⟨hF, ?_, ?_, ?_, ?_, ?_⟩
  · subst e3 e2 e1; simp [setA, uI]; rw [s1]; exact g1
  · subst e3 e2 e1; simp [setA, uI]; rw [s2]; exact g2
  · subst e3 e2 e1; simp [setA, uI]; rw [s3]; exact g3
  · intro k h1 h2
    rw [d1, h.2.2 k h1 h2]; exact g4 k h1 h2
  · rw [d1, ← g5]
    exact dv_congr (fun k h1 h2 => h.2.2 k h1 h2)
/-- moving the digits of register r down by d: k of them are there -/
def DrI (M0 M : Nat → Int → Int) (r d k : Int) : Prop := Fr M0 M r ∧ (M 2 = M0 2 ∧ M 3 = M0 3 ∧ M 4 = M0 4) ∧ (∀ q : Int, 0 ≤ q → q < k → M 1 (320 * r + q) = M0 1 (320 * r + q + d)) ∧ ∀ q : Int, k ≤ q → M 1 (320 * r + q) = M0 1 (320 * r + q)
theorem DrI.start (M : Nat → Int → Int) (r d : Int) : DrI M M r d 0 := ⟨Fr.rf, ⟨rfl, rfl, rfl⟩, fun q h1 h2 => by omega, fun _ _ => rfl⟩
theorem DrI.step {M0 M M1 : Nat → Int → Int} {r d k : Int} (h : DrI M0 M r d k) (hd : 0 ≤ d) (hk : 0 ≤ k ∧ k < 320) (e : M1 = setA M 1 (320 * r + k) (M 1 (320 * r + k + d))) : DrI M0 M1 r d (k + 1) := by
  refine ⟨h.1.tr (Fr.d e hk), ?_, fun q h1 h2 => ?_, fun q h1 => ?_⟩
  · subst e
    exact ⟨(setA_n (by decide)).trans h.2.1.1, (setA_n (by decide)).trans h.2.1.2.1, (setA_n (by decide)).trans h.2.1.2.2⟩
  · subst e
    rw [setA_s]
    by_cases hq : q = k
    · subst hq
      rw [uI_s, Int.add_assoc]
      exact h.2.2.2 _ (by omega)
    · rw [uI_n (by omega)]
      exact h.2.2.1 q h1 (by omega)
  · subst e
    rw [setA_s, uI_n (by omega)]
    exact h.2.2.2 q (by omega)
theorem DrI.fin {M0 M1 M2 M : Nat → Int → Int} {r : Int} {d n N : Nat} {x sg : Int} (hd : d ≤ n) (hg : Rg M0 r n N x sg) (e1 : M1 = setA M0 2 r (M0 2 r - d)) (e2 : M2 = setA M1 3 r (M1 3 r + d)) (h : DrI M2 M r d ((n - d : Nat) : Int)) : Fr M0 M r ∧ Rg M r (n - d) (N / 10 ^ d) (x + d) sg := by
  have hF := (Fr.s e1 (by decide)).tr ((Fr.s e2 (by decide)).tr h.1)
  obtain ⟨g1, g2, g3, g4, g5⟩ := hg
  obtain ⟨s1, s2, s3⟩ := h.2.1
  have d1 : M2 1 = M0 1 := by subst e2 e1; simp [setA]
  have hdig : ∀ k : Int, 0 ≤ k → k < (n - d : Nat) → M 1 (320 * r + k) = M0 1 (320 * r + d + k) := fun k h1 h2 => by
    rw [h.2.2.1 k h1 h2, d1]; congr 1; omega
  refine ⟨hF, ?_, ?_, ?_, ?_, ?_⟩
  · rw [s1]; subst e2 e1; simp [setA, uI]; rw [g1]; omega
  · rw [s2]; subst e2 e1; simp [setA, uI]; exact g2
  · rw [s3]; subst e2 e1; simp [setA]; exact g3
  · intro k h1 h2
    rw [hdig k h1 h2]
    have := g4 (d + k) (by omega) (by omega)
    rw [← Int.add_assoc] at this
    exact this
  · rw [dv_congr (G := M0 1) (c := 320 * r + d) hdig, ← dv_div (g4.le hd), show d + (n - d) = n by omega, g5]
    simp
def sgn (v : Int) : Int := if v < 0 then -1 else if 0 < v then 1 else 0
/-- the digits of |v| into register r: j of them are there, left is what is left -/
def WhI (M0 M : Nat → Int → Int) (r v left : Int) (j : Nat) : Prop := Fr M0 M r ∧ Rg M r j (v.natAbs % 10 ^ j) 0 0 ∧ left.natAbs = v.natAbs / 10 ^ j ∧ (0 ≤ v → 0 ≤ left) ∧ (v ≤ 0 → left ≤ 0) ∧ (j = 0 ∨ 10 ^ (j - 1) ≤ v.natAbs)
theorem WhI.start {M0 M : Nat → Int → Int} {r v : Int} (h : Fr M0 M r) (hg : Rg M r 0 0 0 0) : WhI M0 M r v v 0 := ⟨h, by simpa [Nat.mod_one] using hg, by simp, id, id, Or.inl rfl⟩
theorem WhI.lt {M0 M : Nat → Int → Int} {r v left : Int} {j : Nat} (h : WhI M0 M r v left j) (hv : inJ v) (hl : left ≠ 0) : j < 19 := by
  have h1 := h.2.2.1
  rcases Nat.lt_or_ge j 19 with h2 | h2
  · exact h2
  · have h3 : 10 ^ 19 ≤ 10 ^ j := Nat.pow_le_pow_right (by decide) h2
    have h5 : v.natAbs < 10 ^ 19 := by
      have h6 : (10 : Nat) ^ 19 = 10000000000000000000 := by decide
      omega
    have h4 : v.natAbs / 10 ^ j = 0 := Nat.div_eq_of_lt (Nat.lt_of_lt_of_le h5 h3)
    omega
theorem WhI.bd {M0 M : Nat → Int → Int} {r v left : Int} {j : Nat} (h : WhI M0 M r v left j) (hv : inJ v) : inJ left := by
  have h1 := h.2.2.1
  have h2 : v.natAbs / 10 ^ j ≤ v.natAbs := Nat.div_le_self _ _
  have h3 := h.2.2.2
  rcases Int.le_total 0 v with h4 | h4
  · have := h3.1 h4; omega
  · have := h3.2.1 h4; omega
theorem WhI.step {M0 M M1 M2 : Nat → Int → Int} {r v left d : Int} {j : Nat} (h : WhI M0 M r v left j) (hj : j < 320) (hl : left ≠ 0) (hd : d = ((left.natAbs % 10 : Nat) : Int)) (e1 : M1 = setA M 1 (320 * r + M 2 r) d) (e2 : M2 = setA M1 2 r (M1 2 r + 1)) : WhI M0 M2 r v (left.tdiv 10) (j + 1) := by
  obtain ⟨hF, ⟨g1, g2, g3, g4, g5⟩, hL, hp, hn, ht⟩ := h
  rw [g1] at e1
  have hF2 := hF.tr ((Fr.d e1 (by omega)).tr (Fr.s e2 (by decide)))
  have hm : left.natAbs % 10 < 10 := Nat.mod_lt _ (by decide)
  have d1 : M2 1 = uI (M 1) (320 * r + j) d := by subst e2 e1; simp [setA]
  have hlow : ∀ k : Int, 0 ≤ k → k < j → M2 1 (320 * r + k) = M 1 (320 * r + k) := fun k a b => by rw [d1, uI_n (by omega)]
  have htop : M2 1 (320 * r + j) = d := by rw [d1, uI_s]
  have hL2 : (left.tdiv 10).natAbs = v.natAbs / 10 ^ (j + 1) := by
    rw [Int.natAbs_tdiv, hL, Nat.pow_succ, ← Nat.div_div_eq_div_mul]; rfl
  refine ⟨hF2, ⟨?_, ?_, ?_, ?_, ?_⟩, hL2, fun a => Int.tdiv_nonneg (hp a) (by decide), fun a => ?_, Or.inr ?_⟩
  · subst e2 e1; simp [setA, uI]; exact g1
  · subst e2 e1; simp [setA]; exact g2
  · subst e2 e1; simp [setA]; exact g3
  · intro k a b
    by_cases hk : k < j
    · rw [hlow k a hk]; exact g4 k a hk
    · rw [show k = j by omega, htop]; omega
  · show dv (M2 1) (320 * r) j + M2 1 (320 * r + j) * 10 ^ j = _
    rw [dv_congr hlow, g5, htop, hd, hL, Nat.pow_succ, Nat.mod_mul]
    push_cast
    rw [Int.mul_comm]
  · have h1 := hn a
    have h2 : (-left).tdiv 10 = -(left.tdiv 10) := Int.neg_tdiv ..
    have h3 : 0 ≤ (-left).tdiv 10 := Int.tdiv_nonneg (by omega) (by decide)
    omega
  · rw [Nat.add_sub_cancel]
    have h1 : v.natAbs / 10 ^ j ≠ 0 := by omega
    rcases Nat.lt_or_ge v.natAbs (10 ^ j) with h2 | h2
    · exact absurd (Nat.div_eq_of_lt h2) h1
    · exact h2
theorem WhI.fin {M0 M M1 M2 : Nat → Int → Int} {r v x ex sg : Int} {j : Nat} (h : WhI M0 M r v 0 j) (e1 : M1 = setA M 4 r sg) (e2 : M2 = setA M1 3 r x) (hs : sg = sgn v) (hx : x = if v = 0 then 0 else ex) : Fr M0 M2 r ∧ Rg M2 r (nd v.natAbs) v.natAbs (if v = 0 then 0 else ex) (sgn v) := by
  obtain ⟨hF, ⟨g1, g2, g3, g4, g5⟩, hL, hp, hn, ht⟩ := h
  have h1 : v.natAbs < 10 ^ j := by
    have h2 : v.natAbs / 10 ^ j = 0 := by rw [← hL]; rfl
    exact Nat.lt_of_div_eq_zero (p10N j) h2
  have h3 : nd v.natAbs = j := by
    rcases ht with h4 | h4
    · subst h4; simp at h1; subst h1; exact nd_0
    · cases j with
      | zero => simp at h1; subst h1; exact nd_0
      | succ j => rw [Nat.add_sub_cancel] at h4; exact nd_uniq h4 h1
  have d1 : M2 1 = M 1 := by subst e2 e1; simp [setA]
  rw [h3]
  refine ⟨hF.tr ((Fr.s e1 (by decide)).tr (Fr.s e2 (by decide))), ?_, ?_, ?_, ?_, ?_⟩
  · subst e2 e1; simp [setA]; exact g1
  · subst e2 e1; simp [setA, uI]; exact hx
  · subst e2 e1; simp [setA, uI]; exact hs
  · rw [d1]; exact g4
  · rw [d1, g5, Nat.mod_eq_of_lt h1]
/-- cut to so many digits, the zeros behind taken off -/
def cutC (most N : Nat) : Nat := N / 10 ^ (nd N - most) / 10 ^ tz (N / 10 ^ (nd N - most))
def cutX (most N : Nat) (x : Int) : Int := x + (nd N - most : Nat) + tz (N / 10 ^ (nd N - most))
/-- what a register holds behind cut, and what cut answers -/
def cutOk (M : Nat → Int → Int) (r : Int) (most N : Nat) (x sg z : Int) : Prop := ((N = 0 ∨ (nd N : Int) + x - 1 < -99) ∧ z = 0 ∧ Rg M r 0 0 0 0) ∨ (N ≠ 0 ∧ -99 ≤ (nd N : Int) + x - 1 ∧ z = (if 99 ≤ (nd N : Int) + x - 1 then 1 else 0) ∧ Rg M r (nd (cutC most N)) (cutC most N) (cutX most N x) sg)
theorem Rg.set2 {M M1 : Nat → Int → Int} {r x sg v : Int} {n n' N : Nat} (hg : Rg M r n N x sg) (e : M1 = setA M 2 r v) (hv : v = n') (hn : n' ≤ n) (hd : dv (M 1) (320 * r) n' = N) : Rg M1 r n' N x sg := by
  obtain ⟨g1, g2, g3, g4, g5⟩ := hg
  have d1 : M1 1 = M 1 := by subst e; simp [setA]
  refine ⟨?_, ?_, ?_, ?_, ?_⟩
  · subst e; simp [setA, uI]; exact hv
  · subst e; simp [setA]; exact g2
  · subst e; simp [setA]; exact g3
  · rw [d1]; exact g4.le hn
  · rw [d1]; exact hd
theorem Rg.strip {M M1 : Nat → Int → Int} {r x sg v : Int} {n N : Nat} (hg : Rg M r (n + 1) N x sg) (hz : M 1 (320 * r + n) = 0) (e : M1 = setA M 2 r v) (hv : v = n) : Rg M1 r n N x sg := by
  refine hg.set2 e hv (by omega) ?_
  have h := hg.2.2.2.2
  have h2 : dv (M 1) (320 * r) (n + 1) = dv (M 1) (320 * r) n + M 1 (320 * r + n) * 10 ^ n := rfl
  rw [h2, hz] at h
  omega
theorem Rg.ndE {M : Nat → Int → Int} {r x sg : Int} {n N : Nat} (hg : Rg M r n N x sg) (h : n = 0 ∨ M 1 (320 * r + ((n : Int) - 1)) ≠ 0) : n = nd N := by
  cases n with
  | zero => have h1 := hg.lt; simp at h1; subst h1; exact nd_0.symm
  | succ n =>
    have h1 := hg.dig (k := (n : Int)) (by omega) (by omega)
    have e : ((n + 1 : Nat) : Int) - 1 = n := by omega
    rw [e, h1, Int.toNat_natCast] at h
    have h2 := hg.lt
    have h3 : 10 ^ n ≤ N := by
      rcases Nat.lt_or_ge N (10 ^ n) with h4 | h4
      · rw [Nat.div_eq_of_lt h4] at h
        rcases h with h | h
        · omega
        · exact absurd rfl h
      · exact h4
    exact (nd_uniq h3 h2).symm
theorem dv_zero {F : Int → Int} {b : Int} {n : Nat} (h : ∀ k : Int, 0 ≤ k → k < n → F (b + k) = 0) : dv F b n = 0 := by
  induction n with
  | zero => rfl
  | succ n ih =>
    show dv F b n + F (b + n) * 10 ^ n = 0
    rw [ih (fun k h1 h2 => h k h1 (by omega)), h n (by omega) (by omega)]
    simp
theorem Rg.tzE {M : Nat → Int → Int} {r x sg k : Int} {n N : Nat} (hg : Rg M r n N x sg) (hn : n = nd N) (hz : ∀ q : Int, 0 ≤ q → q < k → M 1 (320 * r + q) = 0) (hk : 0 ≤ k ∧ k ≤ n) (he : k = n ∨ M 1 (320 * r + k) ≠ 0) : k = tz N := by
  by_cases h0 : N = 0
  · subst h0; rw [nd_0] at hn; rw [tz_0]; omega
  · obtain ⟨j, rfl⟩ : ∃ j : Nat, k = j := ⟨k.toNat, by omega⟩
    have h1 : dv (M 1) (320 * r) j = 0 := dv_zero hz
    have h2 : N % 10 ^ j = 0 := by
      have h3 := dv_mod (F := M 1) (b := 320 * r) (d := j) (m := n - j) (hg.2.2.2.1.le (by omega))
      rw [show j + (n - j) = n by omega, hg.2.2.2.2, h1, ← p10c, ← Int.natCast_emod] at h3
      omega
    have h4 : (j : Int) ≠ n := fun e => h0 (by
      have e2 : j = n := by omega
      subst e2
      have := hg.2.2.2.2
      omega)
    have h5 := hg.dig (k := (j : Int)) (by omega) (by omega)
    have h6 : N / 10 ^ j % 10 ≠ 0 := fun e => by
      rw [Int.toNat_natCast, e] at h5
      rcases he with he | he
      · exact h4 he
      · exact he h5
    rw [tz_uniq h2 h6]
theorem cut_nd {most N : Nat} {x : Int} (hm : 1 ≤ most) : (N = 0 → nd (cutC most N) = 0) ∧ (N ≠ 0 → nd (cutC most N) ≠ 0 ∧ (nd (cutC most N) : Int) + cutX most N x = nd N + x) := by
  refine ⟨fun h => by subst h; unfold cutC; simp [nd_0], fun h => ?_⟩
  have h1 : nd N ≠ 0 := by rw [nd_pos h]; omega
  have h2 := nd_div (n := N) (k := nd N - most)
  have h3 : N / 10 ^ (nd N - most) ≠ 0 := fun e => by rw [e, nd_0] at h2; omega
  have h4 := tz_lt h3
  have h5 := nd_div (n := N / 10 ^ (nd N - most)) (k := tz (N / 10 ^ (nd N - most)))
  unfold cutC cutX
  omega
theorem cut_bd (N : Nat) (x : Int) {most : Nat} (hm : 1 ≤ most) : x ≤ cutX most N x ∧ cutX most N x ≤ x + nd N ∧ nd (cutC most N) ≤ nd N := by
  have h2 := nd_div (n := N) (k := nd N - most)
  have h5 := nd_div (n := N / 10 ^ (nd N - most)) (k := tz (N / 10 ^ (nd N - most)))
  by_cases h : N / 10 ^ (nd N - most) = 0
  · have e : cutC most N = 0 := by unfold cutC; rw [h]; simp
    have e2 : cutX most N x = x + (nd N - most : Nat) := by unfold cutX; rw [h, tz_0]; simp
    rw [e, e2, nd_0]
    omega
  · have h4 := tz_lt h
    unfold cutC cutX
    omega
