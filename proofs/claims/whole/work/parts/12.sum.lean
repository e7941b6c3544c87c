-- SUMS (own work)
theorem dgt_sh {N : Nat} {x p low : Int} (h1 : low ≤ x) (h2 : low ≤ p) : dgt N x p = ((N * 10 ^ (x - low).toNat / 10 ^ (p - low).toNat % 10 : Nat) : Int) := by
  unfold dgt
  by_cases h : p < x
  · rw [if_pos h]
    have e : (x - low).toNat = (p - low).toNat + ((x - p).toNat - 1) + 1 := by omega
    rw [e, Nat.pow_succ, Nat.pow_add, Nat.mul_comm N, Nat.mul_assoc, Nat.mul_assoc, Nat.mul_div_cancel_left _ (p10N _), ← Nat.mul_assoc, Nat.mul_comm _ 10, Nat.mul_assoc, Nat.mul_mod_right]
    rfl
  · rw [if_neg h]
    have e : (p - low).toNat = (x - low).toNat + (p - x).toNat := by omega
    rw [e, Nat.pow_add, ← Nat.div_div_eq_div_mul, Nat.mul_div_cancel _ (p10N _)]
theorem nat_top {a b i : Nat} (h : a / 10 ^ (i + 1) = b / 10 ^ (i + 1)) (hd : a / 10 ^ i % 10 < b / 10 ^ i % 10) : a < b := by
  have e1 : a / 10 ^ (i + 1) = a / 10 ^ i / 10 := by rw [Nat.div_div_eq_div_mul, Nat.pow_succ]
  have e2 : b / 10 ^ (i + 1) = b / 10 ^ i / 10 := by rw [Nat.div_div_eq_div_mul, Nat.pow_succ]
  have h3 : a / 10 ^ i < b / 10 ^ i := by omega
  rcases Nat.lt_or_ge a b with h4 | h4
  · exact h4
  · have := Nat.div_le_div_right (c := 10 ^ i) h4
    omega
theorem nat_same {a b i : Nat} (h : a / 10 ^ (i + 1) = b / 10 ^ (i + 1)) (hd : a / 10 ^ i % 10 = b / 10 ^ i % 10) : a / 10 ^ i = b / 10 ^ i := by
  have e1 : a / 10 ^ (i + 1) = a / 10 ^ i / 10 := by rw [Nat.div_div_eq_div_mul, Nat.pow_succ]
  have e2 : b / 10 ^ (i + 1) = b / 10 ^ i / 10 := by rw [Nat.div_div_eq_div_mul, Nat.pow_succ]
  omega
/-- comparing from the highest digit on: what an order's answer says -/
def ordOk (a b : Nat) (z : Int) : Prop := -9 ≤ z ∧ z ≤ 9 ∧ (z < 0 → a < b) ∧ (0 < z → b < a) ∧ (z = 0 → a = b)
