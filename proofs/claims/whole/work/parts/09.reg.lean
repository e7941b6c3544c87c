-- THE REFERENCE'S REGISTERS (own work)
/-- register r has n digits of the value N, exponent x, sign sg -/
def Rg (M : Nat → Int → Int) (r : Int) (n N : Nat) (x sg : Int) : Prop := M 2 r = n ∧ M 3 r = x ∧ M 4 r = sg ∧ dOk (M 1) (320 * r) n ∧ dv (M 1) (320 * r) n = N
/-- only register r differs -/
def Fr (M M' : Nat → Int → Int) (r : Int) : Prop := (∀ k : Nat, k = 0 ∨ 5 ≤ k → M' k = M k) ∧ (∀ q : Int, q < 320 * r ∨ 320 * r + 320 ≤ q → M' 1 q = M 1 q) ∧ (∀ q : Int, q ≠ r → M' 2 q = M 2 q ∧ M' 3 q = M 3 q ∧ M' 4 q = M 4 q)
theorem Fr.rf {M : Nat → Int → Int} {r : Int} : Fr M M r := ⟨fun _ _ => rfl, fun _ _ => rfl, fun _ _ => ⟨rfl, rfl, rfl⟩⟩
theorem Fr.tr {M M' M'' : Nat → Int → Int} {r : Int} (h1 : Fr M M' r) (h2 : Fr M' M'' r) : Fr M M'' r := ⟨fun k h => (h2.1 k h).trans (h1.1 k h), fun q h => (h2.2.1 q h).trans (h1.2.1 q h), fun q h => ⟨((h2.2.2 q h).1).trans (h1.2.2 q h).1, ((h2.2.2 q h).2.1).trans (h1.2.2 q h).2.1, ((h2.2.2 q h).2.2).trans (h1.2.2 q h).2.2⟩⟩
theorem Fr.rg {M M' : Nat → Int → Int} {r r' : Int} {n N : Nat} {x sg : Int} (h : Fr M M' r) (hne : r' ≠ r) (hn : n ≤ 320) (hg : Rg M r' n N x sg) : Rg M' r' n N x sg := by
  obtain ⟨h1, h2, h3, h4, h5⟩ := hg
  have e := h.2.2 r' hne
  have ed : ∀ k : Int, 0 ≤ k → k < n → M' 1 (320 * r' + k) = M 1 (320 * r' + k) := fun k a b => h.2.1 _ (by omega)
  refine ⟨e.1.trans h1, e.2.1.trans h2, e.2.2.trans h3, fun k a b => by rw [ed k a b]; exact h4 k a b, ?_⟩
  rw [← h5]
  exact dv_congr ed
theorem Fr.d {M M' : Nat → Int → Int} {r k x : Int} (e : M' = setA M 1 (320 * r + k) x) (hk : 0 ≤ k ∧ k < 320) : Fr M M' r := by
  subst e
  refine ⟨fun j h => setA_n (by omega), fun q h => ?_, fun q h => ⟨by rw [setA_n (by decide)], by rw [setA_n (by decide)], by rw [setA_n (by decide)]⟩⟩
  rw [setA_s, uI_n (by omega)]
theorem Fr.s {M M' : Nat → Int → Int} {r x : Int} {j : Nat} (e : M' = setA M j r x) (hj : j = 2 ∨ j = 3 ∨ j = 4) : Fr M M' r := by
  subst e
  refine ⟨fun k h => setA_n (by omega), fun q h => by rw [setA_n (by omega)], fun q h => ?_⟩
  rcases hj with rfl | rfl | rfl
  · exact ⟨by rw [setA_s, uI_n h], by rw [setA_n (by decide)], by rw [setA_n (by decide)]⟩
  · exact ⟨by rw [setA_n (by decide)], by rw [setA_s, uI_n h], by rw [setA_n (by decide)]⟩
  · exact ⟨by rw [setA_n (by decide)], by rw [setA_n (by decide)], by rw [setA_s, uI_n h]⟩
theorem Rg.lt {M : Nat → Int → Int} {r : Int} {n N : Nat} {x sg : Int} (h : Rg M r n N x sg) : N < 10 ^ n := by
  have h1 := (dv_lt h.2.2.2.1).2
  rw [h.2.2.2.2, ← p10c] at h1
  omega
/-- digit of N * 10^x at 10^p -/
def dgt (N : Nat) (x p : Int) : Int := if p < x then 0 else ((N / 10 ^ (p - x).toNat % 10 : Nat) : Int)
theorem Rg.dig {M : Nat → Int → Int} {r : Int} {n N : Nat} {x sg k : Int} (h : Rg M r n N x sg) (h0 : 0 ≤ k) (hk : k < n) : M 1 (320 * r + k) = ((N / 10 ^ k.toNat % 10 : Nat) : Int) := by
  have h1 := dv_dig h.2.2.2.1 (k := k.toNat) (by omega)
  rw [h.2.2.2.2, Int.toNat_of_nonneg h0] at h1
  rw [← h1]
  simp
theorem Rg.hi {M : Nat → Int → Int} {r : Int} {n N : Nat} {x sg : Int} (h : Rg M r n N x sg) {k : Nat} (hk : n ≤ k) : N / 10 ^ k = 0 := by
  apply Nat.div_eq_of_lt
  exact Nat.lt_of_lt_of_le h.lt (Nat.pow_le_pow_right (by decide) hk)
theorem dgt_in (N : Nat) (x p : Int) : 0 ≤ dgt N x p ∧ dgt N x p ≤ 9 := by
  unfold dgt
  split
  · decide
  · have := Nat.mod_lt (N / 10 ^ (p - x).toNat) (show 10 > 0 by decide)
    omega
theorem Rg.at {M : Nat → Int → Int} {r : Int} {n N : Nat} {x sg P : Int} (h : Rg M r n N x sg) (h0 : 0 ≤ P - x) (hk : P - x < n) : M 1 (320 * r + (P - x)) = dgt N x P := by
  rw [h.dig h0 hk, dgt, if_neg (by omega)]
theorem Rg.out {M : Nat → Int → Int} {r : Int} {n N : Nat} {x sg P : Int} (h : Rg M r n N x sg) (h0 : P - x < 0 ∨ n ≤ P - x) : dgt N x P = 0 := by
  unfold dgt
  by_cases h1 : P < x
  · rw [if_pos h1]
  · rw [if_neg h1, h.hi (by omega)]; rfl
