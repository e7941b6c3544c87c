-- PRODUCTS (own work)
theorem dv_set {F : Int → Int} {b y : Int} {n k : Nat} (hk : k < n) : dv (uI F (b + k) y) b n = dv F b n + (y - F (b + k)) * 10 ^ k := by
  induction n with
  | zero => omega
  | succ n ih =>
    show dv (uI F (b + k) y) b n + uI F (b + k) y (b + n) * 10 ^ n = dv F b n + F (b + n) * 10 ^ n + (y - F (b + k)) * 10 ^ k
    by_cases h : k = n
    · subst h
      rw [uI_s, dv_congr (G := F) (c := b) (fun q h1 h2 => uI_n (by omega)), Int.sub_mul]
      omega
    · rw [ih (by omega), uI_n (by omega)]
      omega
/-- the product's digits: valid, 0 from z on, of the value T -/
def MuI (M0 M : Nat → Int → Int) (n z : Nat) (T : Int) : Prop := Fr M0 M 2 ∧ (M 2 = M0 2 ∧ M 3 = M0 3 ∧ M 4 = M0 4) ∧ dOk (M 1) 640 n ∧ (∀ q : Int, z ≤ q → q < n → M 1 (640 + q) = 0) ∧ dv (M 1) 640 n = T
theorem MuI.put {M0 M M1 : Nat → Int → Int} {n z z' k : Nat} {T T' y i : Int} (h : MuI M0 M n z T) (hn : n ≤ 320) (hk : k < n) (hi : i = 640 + k) (hz : z ≤ z') (hkz : k < z') (hy : 0 ≤ y ∧ y ≤ 9) (e : M1 = setA M 1 i y) (hT : T' = T + (y - M 1 i) * 10 ^ k) : MuI M0 M1 n z' T' := by
  obtain ⟨hF, hs, hok, hz0, hv⟩ := h
  subst hi
  have d1 : M1 1 = uI (M 1) (640 + k) y := by subst e; simp [setA]
  refine ⟨hF.tr (Fr.d (r := 2) (k := (k : Int)) e (by omega)), ?_, ?_, ?_, ?_⟩
  · subst e
    exact ⟨(setA_n (by decide)).trans hs.1, (setA_n (by decide)).trans hs.2.1, (setA_n (by decide)).trans hs.2.2⟩
  · intro q a b
    rw [d1]
    by_cases hq : q = k
    · rw [hq, uI_s]; exact hy
    · rw [uI_n (by omega)]; exact hok q a b
  · intro q a b
    rw [d1, uI_n (by omega)]
    exact hz0 q (by omega) b
  · rw [d1, dv_set hk, hv, hT]
/-- zeroing: k places are 0 -/
def ZeI (M0 M : Nat → Int → Int) (k : Int) : Prop := Fr M0 M 2 ∧ (M 2 = M0 2 ∧ M 3 = M0 3 ∧ M 4 = M0 4) ∧ ∀ q : Int, 0 ≤ q → q < k → M 1 (640 + q) = 0
theorem ZeI.start (M : Nat → Int → Int) : ZeI M M 0 := ⟨Fr.rf, ⟨rfl, rfl, rfl⟩, fun q h1 h2 => by omega⟩
theorem ZeI.step {M0 M M1 : Nat → Int → Int} {k : Int} (h : ZeI M0 M k) (hk : 0 ≤ k ∧ k < 320) (e : M1 = setA M 1 (640 + k) 0) : ZeI M0 M1 (k + 1) := by
  refine ⟨h.1.tr (Fr.d (r := 2) (k := k) e hk), ?_, fun q h1 h2 => ?_⟩
  · subst e
    exact ⟨(setA_n (by decide)).trans h.2.1.1, (setA_n (by decide)).trans h.2.1.2.1, (setA_n (by decide)).trans h.2.1.2.2⟩
  · subst e
    rw [setA_s]
    by_cases hq : q = k
    · rw [hq, uI_s]
    · rw [uI_n (by omega)]; exact h.2.2 q h1 (by omega)
theorem ZeI.mu {M0 M : Nat → Int → Int} {n : Nat} (h : ZeI M0 M n) (z : Nat) : MuI M0 M n z 0 := ⟨h.1, h.2.1, fun q h1 h2 => by rw [h.2.2 q h1 h2]; decide, fun q h1 h2 => h.2.2 q (by omega) h2, dv_zero h.2.2⟩
theorem mul_in {T B a cy d c : Int} {NB i k : Nat} (hT : T = B + a * ((NB % 10 ^ k : Nat) : Int) * 10 ^ i - cy * 10 ^ (i + k)) (hd : d = c + a * ((NB / 10 ^ k % 10 : Nat) : Int) + cy) : B + a * ((NB % 10 ^ (k + 1) : Nat) : Int) * 10 ^ i - d / 10 * 10 ^ (i + (k + 1)) = T + (d % 10 - c) * 10 ^ (i + k) := by
  have e1 : d % 10 = d - 10 * (d / 10) := by omega
  rw [e1, hT, Nat.pow_succ, Nat.mod_mul, ← Nat.add_assoc, Int.pow_succ, Int.pow_add]
  generalize NB / 10 ^ k % 10 = b at *
  generalize NB % 10 ^ k = g at *
  push_cast
  generalize (10 : Int) ^ i = p at *
  generalize (10 : Int) ^ k = q at *
  generalize d / 10 = f at *
  subst hd
  simp only [Int.add_mul, Int.sub_mul, Int.mul_add, Int.mul_sub, Int.mul_assoc, Int.mul_comm, Int.mul_left_comm]
  omega
theorem mul_out {NA NB ii nb : Nat} {cy T y : Int} (h : NB < 10 ^ nb) (hT : T = ((NA % 10 ^ ii : Nat) : Int) * NB + ((NA / 10 ^ ii % 10 : Nat) : Int) * ((NB % 10 ^ nb : Nat) : Int) * 10 ^ ii - cy * 10 ^ (ii + nb) := by rfl) (hy : y = 0 + cy := by omega) : ((NA % 10 ^ (ii + 1) : Nat) : Int) * NB = T + (y - 0) * 10 ^ (ii + nb) := by
  rw [hT, hy, Nat.mod_eq_of_lt h, Nat.pow_succ, Nat.mod_mul]
  generalize NA / 10 ^ ii % 10 = b
  generalize NA % 10 ^ ii = g
  push_cast
  rw [Int.pow_add]
  generalize (10 : Int) ^ ii = p
  generalize (10 : Int) ^ nb = q
  simp only [Int.add_mul, Int.mul_add, Int.mul_assoc, Int.mul_comm, Int.mul_left_comm, Int.zero_add, Int.sub_zero]
  omega
theorem MuI.fin {M0 M M1 M2 M3 : Nat → Int → Int} {na nb NA NB : Nat} {xa xb sa sb nI : Int} {z : Nat} (h : MuI M0 M (na + nb) z ((NA : Int) * NB)) (e1 : M1 = setA M 2 2 nI) (e2 : M2 = setA M1 3 2 (M1 3 0 + M1 3 1)) (e3 : M3 = setA M2 4 2 (M2 4 0 * M2 4 1)) (hn : nI = (na : Int) + nb) (x0 : M0 3 0 = xa) (x1 : M0 3 1 = xb) (s0 : M0 4 0 = sa) (s1 : M0 4 1 = sb) : Fr M0 M3 2 ∧ Rg M3 2 (na + nb) (NA * NB) (xa + xb) (sa * sb) := by
  obtain ⟨hF, hs, hok, hz0, hv⟩ := h
  have d1 : M3 1 = M 1 := by subst e3 e2 e1; simp [setA]
  refine ⟨hF.tr ((Fr.s e1 (by decide)).tr ((Fr.s e2 (by decide)).tr (Fr.s e3 (by decide)))), ?_, ?_, ?_, ?_, ?_⟩
  · subst e3 e2 e1; simp [setA, uI]; exact hn
  · subst e3 e2 e1; simp [setA, uI]; rw [hs.2.1, x0, x1]
  · subst e3 e2 e1; simp [setA, uI]; rw [hs.2.2, s0, s1]
  · rw [d1]; exact hok
  · rw [d1]; push_cast; exact hv
theorem prod81 {a b : Int} (ha : 0 ≤ a ∧ a ≤ 9) (hb : 0 ≤ b ∧ b ≤ 9) : 0 ≤ a * b ∧ a * b ≤ 81 := by
  refine ⟨Int.mul_nonneg ha.1 hb.1, ?_⟩
  have h := Int.mul_le_mul_of_nonneg_right (c := b) ha.2 hb.1
  omega
