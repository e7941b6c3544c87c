-- THE REFERENCE'S REGISTERS (own work)
/-- register r has n digits of the value N, exponent x, sign sg -/
def Rg (M : Nat → Int → Int) (r : Int) (n N : Nat) (x sg : Int) : Prop := M 2 r = n ∧ M 3 r = x ∧ M 4 r = sg ∧ dOk (M 1) (320 * r) n ∧ dv (M 1) (320 * r) n = N
/-- only register r differs -/
def Fr (M M' : Nat → Int → Int) (r : Int) : Prop := (∀ k : Nat, k = 0 ∨ 5 ≤ k → M' k = M k) ∧ (∀ q : Int, q < 320 * r ∨ 320 * r + 320 ≤ q → M' 1 q = M 1 q) ∧ (∀ q : Int, q ≠ r → M' 2 q = M 2 q ∧ M' 3 q = M 3 q ∧ M' 4 q = M 4 q)
theorem Fr.rf {M : Nat → Int → Int} {r : Int} : Fr M M r := ⟨fun _ _ => rfl, fun _ _ => rfl, fun _ _ => ⟨rfl, rfl, rfl⟩⟩
theorem Fr.tr {M M' M'' : Nat → Int → Int} {r : Int} (h1 : Fr M M' r) (h2 : Fr M' M'' r) : Fr M M'' r := ⟨fun k h => (h2.1 k h).trans (h1.1 k h), fun q h => (h2.2.1 q h).trans (h1.2.1 q h), fun q h => ⟨((h2.2.2 q h).1).trans (h1.2.2 q h).1, ((h2.2.2 q h).2.1).trans (h1.2.2 q h).2.1, ((h2.2.2 q h).2.2).trans (h1.2.2 q h).2.2⟩⟩
theorem Fr.rg {M M' : Nat → Int → Int} {r r' : Int} {n N : Nat} {x sg : Int} (h : Fr M M' r) (hne : r' ≠ r) (hn : n ≤ 320) (hg : Rg M r' n N x sg) : Rg M' r' n N x sg := by
  obtain ⟨h1, h2, h3, h4, h5⟩ := hg
  have e := h.2.2 r' hne
  have ed : ∀ k : Int, 0 ≤ k → k < n → M' 1 (320 * r' + k) = M 1 (320 * r' + k) := fun k a b => h.2.1 _ (by omega)
  refine ⟨e.1.trans h1, e.2.1.trans h2, e.2.2.trans h3, fun k a b => by rw [ed k a b]; exact h4 k a b, ?_⟩
  rw [← h5]
  exact dv_congr ed
theorem Fr.d {M M' : Nat → Int → Int} {r k x : Int} (e : M' = setA M 1 (320 * r + k) x) (hk : 0 ≤ k ∧ k < 320) : Fr M M' r := by
  subst e
  refine ⟨fun j h => setA_n (by omega), fun q h => ?_, fun q h => ⟨by rw [setA_n (by decide)], by rw [setA_n (by decide)], by rw [setA_n (by decide)]⟩⟩
  rw [setA_s, uI_n (by omega)]
theorem Fr.s {M M' : Nat → Int → Int} {r x : Int} {j : Nat} (e : M' = setA M j r x) (hj : j = 2 ∨ j = 3 ∨ j = 4) : Fr M M' r := by
  subst e
  refine ⟨fun k h => setA_n (by omega), fun q h => by rw [setA_n (by omega)], fun q h => ?_⟩
  rcases hj with rfl | rfl | rfl
  · exact ⟨by rw [setA_s, uI_n h], by rw [setA_n (by decide)], by rw [setA_n (by decide)]⟩
  · exact ⟨by rw [setA_n (by decide)], by rw [setA_s, uI_n h], by rw [setA_n (by decide)]⟩
  · exact ⟨by rw [setA_n (by decide)], by rw [setA_n (by decide)], by rw [setA_s, uI_n h]⟩
theorem Rg.lt {M : Nat → Int → Int} {r : Int} {n N : Nat} {x sg : Int} (h : Rg M r n N x sg) : N < 10 ^ n := by
  have h1 := (dv_lt h.2.2.2.1).2
  rw [h.2.2.2.2, ← p10c] at h1
  omega
/-- digit of N * 10^x at 10^p -/
def dgt (N : Nat) (x p : Int) : Int := if p < x then 0 else ((N / 10 ^ (p - x).toNat % 10 : Nat) : Int)
theorem Rg.dig {M : Nat → Int → Int} {r : Int} {n N : Nat} {x sg k : Int} (h : Rg M r n N x sg) (h0 : 0 ≤ k) (hk : k < n) : M 1 (320 * r + k) = ((N / 10 ^ k.toNat % 10 : Nat) : Int) := by
  have h1 := dv_dig h.2.2.2.1 (k := k.toNat) (by omega)
  rw [h.2.2.2.2, Int.toNat_of_nonneg h0] at h1
  rw [← h1]
  simp
theorem Rg.hi {M : Nat → Int → Int} {r : Int} {n N : Nat} {x sg : Int} (h : Rg M r n N x sg) {k : Nat} (hk : n ≤ k) : N / 10 ^ k = 0 := by
  apply Nat.div_eq_of_lt
  exact Nat.lt_of_lt_of_le h.lt (Nat.pow_le_pow_right (by decide) hk)
theorem dgt_in (N : Nat) (x p : Int) : 0 ≤ dgt N x p ∧ dgt N x p ≤ 9 := by
  unfold dgt
  split
  · decide
  · have := Nat.mod_lt (N / 10 ^ (p - x).toNat) (show 10 > 0 by decide)
    omega
theorem Rg.at {M : Nat → Int → Int} {r : Int} {n N : Nat} {x sg P : Int} (h : Rg M r n N x sg) (h0 : 0 ≤ P - x) (hk : P - x < n) : M 1 (320 * r + (P - x)) = dgt N x P := by
  rw [h.dig h0 hk, dgt, if_neg (by omega)]
theorem Rg.out {M : Nat → Int → Int} {r : Int} {n N : Nat} {x sg P : Int} (h : Rg M r n N x sg) (h0 : P - x < 0 ∨ n ≤ P - x) : dgt N x P = 0 := by
  unfold dgt
  by_cases h1 : P < x
  · rw [if_pos h1]
  · rw [if_neg h1, h.hi (by omega)]; rfl
/-- copying digits from register f to t: k of them are there -/
def CpI (M0 M : Nat → Int → Int) (f t k : Int) : Prop := Fr M0 M t ∧ (M 2 = M0 2 ∧ M 3 = M0 3 ∧ M 4 = M0 4) ∧ ∀ q : Int, 0 ≤ q → q < k → M 1 (320 * t + q) = M0 1 (320 * f + q)
theorem CpI.start (M : Nat → Int → Int) (f t : Int) : CpI M M f t 0 := ⟨Fr.rf, ⟨rfl, rfl, rfl⟩, fun q h1 h2 => by omega⟩
theorem CpI.step {M0 M M1 : Nat → Int → Int} {f t k : Int} (h : CpI M0 M f t k) (hne : f ≠ t) (hk : 0 ≤ k ∧ k < 320) (e : M1 = setA M 1 (320 * t + k) (M 1 (320 * f + k))) : CpI M0 M1 f t (k + 1) := by
  refine ⟨h.1.tr (Fr.d e hk), ?_, fun q h1 h2 => ?_⟩
  · subst e
    exact ⟨(setA_n (by decide)).trans h.2.1.1, (setA_n (by decide)).trans h.2.1.2.1, (setA_n (by decide)).trans h.2.1.2.2⟩
  · subst e
    rw [setA_s]
    by_cases hq : q = k
    · subst hq
      rw [uI_s]
      exact h.1.2.1 _ (by omega)
    · rw [uI_n (by omega)]
      exact h.2.2 q h1 (by omega)
theorem CpI.fin {M0 M M1 M2 M3 : Nat → Int → Int} {f t : Int} {n N : Nat} {x sg : Int} (h : CpI M0 M f t n) (hne : f ≠ t) (hg : Rg M0 f n N x sg) (e1 : M1 = setA M 2 t (M 2 f)) (e2 : M2 = setA M1 3 t (M1 3 f)) (e3 : M3 = setA M2 4 t (M2 4 f)) : Fr M0 M3 t ∧ Rg M3 t n N x sg := by
  have hF := h.1.tr ((Fr.s e1 (by decide)).tr ((Fr.s e2 (by decide)).tr (Fr.s e3 (by decide))))
  obtain ⟨g1, g2, g3, g4, g5⟩ := hg
  obtain ⟨s1, s2, s3⟩ := h.2.1
  have d1 : M3 1 = M 1 := by subst e3 e2 e1; simp [setA]
  refine ⟨hF, ?_, ?_, ?_, ?_, ?_⟩
  · subst e3 e2 e1; simp [setA, uI]; rw [s1]; exact g1
  · subst e3 e2 e1; simp [setA, uI]; rw [s2]; exact g2
  · subst e3 e2 e1; simp [setA, uI]; rw [s3]; exact g3
  · intro k h1 h2
    rw [d1, h.2.2 k h1 h2]; exact g4 k h1 h2
  · rw [d1, ← g5]
    exact dv_congr (fun k h1 h2 => h.2.2 k h1 h2)
/-- moving the digits of register r down by d: k of them are there -/
def DrI (M0 M : Nat → Int → Int) (r d k : Int) : Prop := Fr M0 M r ∧ (M 2 = M0 2 ∧ M 3 = M0 3 ∧ M 4 = M0 4) ∧ (∀ q : Int, 0 ≤ q → q < k → M 1 (320 * r + q) = M0 1 (320 * r + q + d)) ∧ ∀ q : Int, k ≤ q → M 1 (320 * r + q) = M0 1 (320 * r + q)
theorem DrI.start (M : Nat → Int → Int) (r d : Int) : DrI M M r d 0 := ⟨Fr.rf, ⟨rfl, rfl, rfl⟩, fun q h1 h2 => by omega, fun _ _ => rfl⟩
theorem DrI.step {M0 M M1 : Nat → Int → Int} {r d k : Int} (h : DrI M0 M r d k) (hd : 0 ≤ d) (hk : 0 ≤ k ∧ k < 320) (e : M1 = setA M 1 (320 * r + k) (M 1 (320 * r + k + d))) : DrI M0 M1 r d (k + 1) := by
  refine ⟨h.1.tr (Fr.d e hk), ?_, fun q h1 h2 => ?_, fun q h1 => ?_⟩
  · subst e
    exact ⟨(setA_n (by decide)).trans h.2.1.1, (setA_n (by decide)).trans h.2.1.2.1, (setA_n (by decide)).trans h.2.1.2.2⟩
  · subst e
    rw [setA_s]
    by_cases hq : q = k
    · subst hq
      rw [uI_s, Int.add_assoc]
      exact h.2.2.2 _ (by omega)
    · rw [uI_n (by omega)]
      exact h.2.2.1 q h1 (by omega)
  · subst e
    rw [setA_s, uI_n (by omega)]
    exact h.2.2.2 q (by omega)
theorem DrI.fin {M0 M1 M2 M : Nat → Int → Int} {r : Int} {d n N : Nat} {x sg : Int} (hd : d ≤ n) (hg : Rg M0 r n N x sg) (e1 : M1 = setA M0 2 r (M0 2 r - d)) (e2 : M2 = setA M1 3 r (M1 3 r + d)) (h : DrI M2 M r d ((n - d : Nat) : Int)) : Fr M0 M r ∧ Rg M r (n - d) (N / 10 ^ d) (x + d) sg := by
  have hF := (Fr.s e1 (by decide)).tr ((Fr.s e2 (by decide)).tr h.1)
  obtain ⟨g1, g2, g3, g4, g5⟩ := hg
  obtain ⟨s1, s2, s3⟩ := h.2.1
  have d1 : M2 1 = M0 1 := by subst e2 e1; simp [setA]
  have hdig : ∀ k : Int, 0 ≤ k → k < (n - d : Nat) → M 1 (320 * r + k) = M0 1 (320 * r + d + k) := fun k h1 h2 => by
    rw [h.2.2.1 k h1 h2, d1]; congr 1; omega
  refine ⟨hF, ?_, ?_, ?_, ?_, ?_⟩
  · rw [s1]; subst e2 e1; simp [setA, uI]; rw [g1]; omega
  · rw [s2]; subst e2 e1; simp [setA, uI]; exact g2
  · rw [s3]; subst e2 e1; simp [setA]; exact g3
  · intro k h1 h2
    rw [hdig k h1 h2]
    have := g4 (d + k) (by omega) (by omega)
    rw [← Int.add_assoc] at this
    exact this
  · rw [dv_congr (G := M0 1) (c := 320 * r + d) hdig, ← dv_div (g4.le hd), show d + (n - d) = n by omega, g5]
    simp
