-- SUMS (own work)
theorem dgt_sh {N : Nat} {x p low : Int} (h1 : low ≤ x) (h2 : low ≤ p) : dgt N x p = ((N * 10 ^ (x - low).toNat / 10 ^ (p - low).toNat % 10 : Nat) : Int) := by
  unfold dgt
  by_cases h : p < x
  · rw [if_pos h]
    have e : (x - low).toNat = (p - low).toNat + ((x - p).toNat - 1) + 1 := by omega
    rw [e, Nat.pow_succ, Nat.pow_add, Nat.mul_comm N, Nat.mul_assoc, Nat.mul_assoc, Nat.mul_div_cancel_left _ (p10N _), ← Nat.mul_assoc, Nat.mul_comm _ 10, Nat.mul_assoc, Nat.mul_mod_right]
    rfl
  · rw [if_neg h]
    have e : (p - low).toNat = (x - low).toNat + (p - x).toNat := by omega
    rw [e, Nat.pow_add, ← Nat.div_div_eq_div_mul, Nat.mul_div_cancel _ (p10N _)]
theorem nat_top {a b i : Nat} (h : a / 10 ^ (i + 1) = b / 10 ^ (i + 1)) (hd : a / 10 ^ i % 10 < b / 10 ^ i % 10) : a < b := by
  have e1 : a / 10 ^ (i + 1) = a / 10 ^ i / 10 := by rw [Nat.div_div_eq_div_mul, Nat.pow_succ]
  have e2 : b / 10 ^ (i + 1) = b / 10 ^ i / 10 := by rw [Nat.div_div_eq_div_mul, Nat.pow_succ]
  have h3 : a / 10 ^ i < b / 10 ^ i := by omega
  rcases Nat.lt_or_ge a b with h4 | h4
  · exact h4
  · have := Nat.div_le_div_right (c := 10 ^ i) h4
    omega
theorem nat_same {a b i : Nat} (h : a / 10 ^ (i + 1) = b / 10 ^ (i + 1)) (hd : a / 10 ^ i % 10 = b / 10 ^ i % 10) : a / 10 ^ i = b / 10 ^ i := by
  have e1 : a / 10 ^ (i + 1) = a / 10 ^ i / 10 := by rw [Nat.div_div_eq_div_mul, Nat.pow_succ]
  have e2 : b / 10 ^ (i + 1) = b / 10 ^ i / 10 := by rw [Nat.div_div_eq_div_mul, Nat.pow_succ]
  omega
/-- comparing from the highest digit on: what an order's answer says -/
def ordOk (a b : Nat) (z : Int) : Prop := -9 ≤ z ∧ z ≤ 9 ∧ (z < 0 → a < b) ∧ (0 < z → b < a) ∧ (z = 0 → a = b)
/-- the value of sg * N * 10^x, in units of 10^-300 -/
def vI (sg : Int) (N : Nat) (x : Int) : Int := sg * N * 10 ^ (x + 300).toNat
/-- adding or taking off, digit by digit: i digits are done -/
def AdI (M0 M : Nat → Int → Int) (i : Nat) (cy σ : Int) (VB VL : Nat) : Prop := Fr M0 M 2 ∧ (M 2 = M0 2 ∧ M 3 = M0 3 ∧ M 4 = M0 4) ∧ dOk (M 1) 640 i ∧ -1 ≤ cy ∧ cy ≤ 1 ∧ dv (M 1) 640 i + cy * 10 ^ i = ((VB % 10 ^ i : Nat) : Int) + σ * ((VL % 10 ^ i : Nat) : Int)
theorem AdI.start (M : Nat → Int → Int) (σ : Int) (VB VL : Nat) : AdI M M 0 0 σ VB VL := ⟨Fr.rf, ⟨rfl, rfl, rfl⟩, fun k h1 h2 => by omega, by omega, by omega, by simp [dv, Nat.mod_one]⟩
theorem AdI.step {M0 M M1 : Nat → Int → Int} {i : Nat} {cy cy' σ d k : Int} {VB VL : Nat} (h : AdI M0 M i cy σ VB VL) (hi : i < 320) (hk : k = 640 + i) (hd : d = ((VB / 10 ^ i % 10 : Nat) : Int) + σ * ((VL / 10 ^ i % 10 : Nat) : Int) + cy) (hσ : σ = 1 ∨ σ = -1) (hcy : (d < 0 ∧ cy' = -1) ∨ (9 < d ∧ cy' = 1) ∨ (0 ≤ d ∧ d ≤ 9 ∧ cy' = 0)) (e : M1 = setA M 1 k (d - 10 * cy')) : AdI M0 M1 (i + 1) cy' σ VB VL := by
  obtain ⟨hF, hs, hok, hc1, hc2, hv⟩ := h
  subst hk
  have hm1 := Nat.mod_lt (VB / 10 ^ i) (show 10 > 0 by decide)
  have hm2 := Nat.mod_lt (VL / 10 ^ i) (show 10 > 0 by decide)
  have hdb : -10 ≤ d ∧ d ≤ 19 := by rcases hσ with h | h <;> subst h <;> omega
  have hF1 : Fr M M1 2 := Fr.d (r := 2) (k := (i : Int)) e (by omega)
  have d1 : M1 1 = uI (M 1) (640 + i) (d - 10 * cy') := by subst e; simp [setA]
  have hlow : ∀ q : Int, 0 ≤ q → q < i → M1 1 (640 + q) = M 1 (640 + q) := fun q a b => by rw [d1, uI_n (by omega)]
  have htop : M1 1 (640 + i) = d - 10 * cy' := by rw [d1, uI_s]
  refine ⟨hF.tr hF1, ?_, ?_, by omega, by omega, ?_⟩
  · subst e
    exact ⟨(setA_n (by decide)).trans hs.1, (setA_n (by decide)).trans hs.2.1, (setA_n (by decide)).trans hs.2.2⟩
  · intro q a b
    by_cases hq : q < i
    · rw [hlow q a hq]; exact hok q a hq
    · rw [show q = i by omega, htop]; omega
  · show dv (M1 1) 640 i + M1 1 (640 + i) * 10 ^ i + cy' * 10 ^ (i + 1) = _
    rw [dv_congr hlow, htop, Nat.pow_succ, Nat.mod_mul, Nat.mod_mul, Int.pow_succ]
    push_cast
    have e1 : dv (M 1) 640 i = ((VB % 10 ^ i : Nat) : Int) + σ * ((VL % 10 ^ i : Nat) : Int) - cy * 10 ^ i := by omega
    rw [e1, hd]
    push_cast
    rcases hσ with h | h <;> subst h
    · simp only [Int.add_mul, Int.sub_mul, Int.mul_add, Int.one_mul, Int.mul_comm (10 ^ i), Int.mul_assoc, Int.mul_left_comm]
      omega
    · simp only [Int.add_mul, Int.sub_mul, Int.mul_add, Int.neg_mul, Int.one_mul, Int.mul_comm (10 ^ i), Int.mul_assoc, Int.mul_left_comm]
      omega
theorem AdI.fin {M0 M M1 M2 M3 : Nat → Int → Int} {i : Nat} {cy σ low sg : Int} {VB VL T : Nat} (h : AdI M0 M i cy σ VB VL) (hB : VB < 10 ^ i) (hL : VL < 10 ^ i) (hT : (T : Int) = VB + σ * VL) (hTl : T < 10 ^ i) (e1 : M1 = setA M 2 2 i) (e2 : M2 = setA M1 3 2 low) (e3 : M3 = setA M2 4 2 sg) : Fr M0 M3 2 ∧ Rg M3 2 i T low sg := by
  obtain ⟨hF, hs, hok, hc1, hc2, hv⟩ := h
  rw [Nat.mod_eq_of_lt hB, Nat.mod_eq_of_lt hL, ← hT] at hv
  have h1 := dv_lt hok
  have h2 : (T : Int) < 10 ^ i := by rw [← p10c]; omega
  have h3 : cy = 0 := by
    rcases (show cy = -1 ∨ cy = 0 ∨ cy = 1 by omega) with h | h | h
    · subst h; omega
    · exact h
    · subst h; omega
  subst h3
  have d1 : M3 1 = M 1 := by subst e3 e2 e1; simp [setA]
  refine ⟨hF.tr ((Fr.s e1 (by decide)).tr ((Fr.s e2 (by decide)).tr (Fr.s e3 (by decide)))), ?_, ?_, ?_, ?_, ?_⟩
  · subst e3 e2 e1; simp [setA, uI]
  · subst e3 e2 e1; simp [setA, uI]
  · subst e3 e2 e1; simp [setA, uI]
  · rw [d1]; exact hok
  · rw [d1]
    show dv (M 1) (320 * 2) i = T
    rw [show (320 * 2 : Int) = 640 by decide]
    omega
theorem sc_lt {N n : Nat} {x low : Int} {h : Nat} (hN : N < 10 ^ n) (hx : low ≤ x) (hh : x - low + n ≤ h) : N * 10 ^ (x - low).toNat < 10 ^ h := by
  have h1 : N * 10 ^ (x - low).toNat < 10 ^ n * 10 ^ (x - low).toNat := Nat.mul_lt_mul_of_pos_right hN (p10N _)
  rw [← Nat.pow_add] at h1
  exact Nat.lt_of_lt_of_le h1 (Nat.pow_le_pow_right (by decide) (by omega))
theorem vI_sc {sg x low : Int} {N : Nat} (h1 : low ≤ x) (h2 : -300 ≤ low) : vI sg N x = sg * ((N * 10 ^ (x - low).toNat : Nat) : Int) * 10 ^ (low + 300).toNat := by
  unfold vI
  push_cast
  rw [show (x + 300).toNat = (x - low).toNat + (low + 300).toNat by omega, Int.pow_add]
  simp only [Int.mul_assoc]
