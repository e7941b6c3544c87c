-- ROUNDING (own work)
def uU (s : Int) : Nat := 10 ^ (300 - s).toNat
/-- whole units of 10^-s, and what is left -/
def uW (v s : Int) : Nat := v.natAbs / uU s
def uR (v s : Int) : Nat := v.natAbs % uU s
def rUp (mode v s : Int) : Int := if uR v s = 0 then 0 else if mode = 1 then 1 else if mode = 2 then (if uU s ≤ 2 * uR v s then 1 else 0) else if mode = 3 then (if uU s < 2 * uR v s ∨ (2 * uR v s = uU s ∧ uW v s % 2 = 1) then 1 else 0) else if mode = 4 then (if uU s < 2 * uR v s then 1 else 0) else if mode = 5 then (if 0 < v then 1 else 0) else if mode = 6 then (if v < 0 then 1 else 0) else 0
/-- the rounded number without its sign -/
def rW (mode v s : Int) : Nat := uW v s + (rUp mode v s).toNat
theorem rUp_01 (mode v s : Int) : rUp mode v s = 0 ∨ rUp mode v s = 1 := by unfold rUp; (repeat' split) <;> simp
theorem dgt_v {v p : Int} (hp : -300 ≤ p) : dgt (cN v) (cX v) p = ((v.natAbs / 10 ^ (p + 300).toNat % 10 : Nat) : Int) := by
  by_cases h : v = 0
  · subst h; rw [cN_0]; unfold dgt; split <;> simp
  · rw [dgt_sh (low := -300) cX_ge hp, show (cX v - -300).toNat = (cX v + 300).toNat by omega, cN_back h, show (p - -300).toNat = (p + 300).toNat by omega]
theorem tz_dvd {n k : Nat} (h : n ≠ 0) : n % 10 ^ k = 0 ↔ k ≤ tz n := by
  have h1 := tz_spec h
  constructor
  · intro h2
    rcases Nat.lt_or_ge (tz n) k with h3 | h3
    · exfalso
      apply h1.2
      have h4 : n % 10 ^ (tz n + 1) = 0 := Nat.mod_eq_zero_of_dvd (Nat.dvd_trans (Nat.pow_dvd_pow 10 h3) (Nat.dvd_of_mod_eq_zero h2))
      rw [Nat.pow_succ, Nat.mod_mul, h1.1, Nat.zero_add] at h4
      have h5 := p10N (tz n)
      rcases Nat.mul_eq_zero.mp h4 with h6 | h6
      · omega
      · exact h6
    · exact h3
  · intro h2
    exact Nat.mod_eq_zero_of_dvd (Nat.dvd_trans (Nat.pow_dvd_pow 10 h2) (Nat.dvd_of_mod_eq_zero h1.1))
theorem cX_dvd {v low : Int} (h : v ≠ 0) (hl : -300 ≤ low) : low ≤ cX v ↔ v.natAbs % 10 ^ (low + 300).toNat = 0 := by
  rw [tz_dvd (by omega)]
  unfold cX
  rw [if_neg h]
  omega
theorem uR_0 {s : Int} : uR 0 s = 0 := by unfold uR; simp
theorem half_eq {n k half rest : Nat} (h1 : half = n / 10 ^ k % 10) (h2 : rest = n % 10 ^ k) : (10 ^ (k + 1) ≤ 2 * (n % 10 ^ (k + 1)) ↔ 5 ≤ half) ∧ (10 ^ (k + 1) < 2 * (n % 10 ^ (k + 1)) ↔ (5 < half ∨ (half = 5 ∧ rest ≠ 0))) ∧ (2 * (n % 10 ^ (k + 1)) = 10 ^ (k + 1) ↔ (half = 5 ∧ rest = 0)) := by
  have h3 : half < 10 := by rw [h1]; exact Nat.mod_lt _ (by decide)
  have h4 : rest < 10 ^ k := by rw [h2]; exact Nat.mod_lt _ (p10N k)
  rw [Nat.pow_succ, Nat.mod_mul, ← h1, ← h2]
  generalize 10 ^ k = p at *
  rcases (show half = 0 ∨ half = 1 ∨ half = 2 ∨ half = 3 ∨ half = 4 ∨ half = 5 ∨ half = 6 ∨ half = 7 ∨ half = 8 ∨ half = 9 by omega) with h | h | h | h | h | h | h | h | h | h <;> rw [h] <;> omega
theorem half_v {v s : Int} {half rest : Nat} (hs : 0 ≤ s ∧ s ≤ 18) (h1 : half = v.natAbs / 10 ^ (299 - s).toNat % 10) (h2 : rest = v.natAbs % 10 ^ (299 - s).toNat) : (uU s ≤ 2 * uR v s ↔ 5 ≤ half) ∧ (uU s < 2 * uR v s ↔ (5 < half ∨ (half = 5 ∧ rest ≠ 0))) ∧ (2 * uR v s = uU s ↔ (half = 5 ∧ rest = 0)) := by
  have h := half_eq h1 h2
  unfold uR uU
  rw [show (300 - s).toNat = (299 - s).toNat + 1 by omega]
  exact h
theorem uW_dig {v s : Int} (i : Nat) (hs : 0 ≤ s ∧ s ≤ 18) : dgt (cN v) (cX v) (-s + i) = ((uW v s / 10 ^ i % 10 : Nat) : Int) := by
  rw [dgt_v (by omega)]
  unfold uW uU
  rw [Nat.div_div_eq_div_mul, ← Nat.pow_add, show (-s + (i : Int) + 300).toNat = (300 - s).toNat + i by omega]
theorem uW_lt {v s : Int} {h : Nat} (hs : 0 ≤ s ∧ s ≤ 18) (hh : (nd (cN v) : Int) + cX v + s ≤ h) : uW v s < 10 ^ h := by
  by_cases h0 : v = 0
  · subst h0; unfold uW; simp; exact p10N h
  · unfold uW uU
    rw [Nat.div_lt_iff_lt_mul (p10N _), ← cN_back h0, ← Nat.pow_add]
    have h1 := nd_lt (cN v)
    have h2 := cX_ge (v := v)
    calc cN v * 10 ^ (cX v + 300).toNat < 10 ^ nd (cN v) * 10 ^ (cX v + 300).toNat := Nat.mul_lt_mul_of_pos_right h1 (p10N _)
      _ = 10 ^ (nd (cN v) + (cX v + 300).toNat) := (Nat.pow_add ..).symm
      _ ≤ 10 ^ (h + (300 - s).toNat) := Nat.pow_le_pow_right (by decide) (by omega)
/-- adding up: i digits are done -/
def RnI (W up many i : Nat) (cy vv tn : Int) (lg : Int) : Prop := cy = (((W % 10 ^ i + up) / 10 ^ i : Nat) : Int) ∧ vv = (((W + up) % 10 ^ (min i 18) : Nat) : Int) ∧ tn = 10 ^ (min i 18) ∧ lg = (if 10 ^ many ≤ (W + up) % 10 ^ i then 1 else 0)
theorem RnI.start (W up many : Nat) (hu : up ≤ 1) : RnI W up many 0 up 0 1 0 := by
  refine ⟨by simp [Nat.mod_one], by simp [Nat.mod_one], by simp, ?_⟩
  rw [if_neg]
  simp [Nat.mod_one]
theorem RnI.step {W up many i : Nat} {cy vv tn lg d2 vv' tn' lg' : Int} (h : RnI W up many i cy vv tn lg) (hu : up ≤ 1) (hd : d2 = ((W / 10 ^ i % 10 : Nat) : Int) + cy) (hv : (i < 18 ∧ vv' = vv + tn * (d2 % 10) ∧ tn' = tn * 10) ∨ (18 ≤ i ∧ vv' = vv ∧ tn' = tn)) (hl : (lg' = 1 ∧ (lg = 1 ∨ (0 < d2 % 10 ∧ many ≤ i))) ∨ (lg' = 0 ∧ ¬ (lg = 1 ∨ (0 < d2 % 10 ∧ many ≤ i)))) : RnI W up many (i + 1) (d2 / 10) vv' tn' lg' ∧ 0 ≤ d2 ∧ d2 ≤ 10 := by
  obtain ⟨h1, h2, h3, h4⟩ := h
  have hp := p10N i
  have hm := Nat.mod_lt W hp
  obtain ⟨c, hc⟩ : ∃ c, c = (W % 10 ^ i + up) / 10 ^ i := ⟨_, rfl⟩
  have hc1 : c ≤ 1 := by rw [hc]; exact Nat.lt_succ_iff.mp ((Nat.div_lt_iff_lt_mul hp).mpr (by omega))
  have hT : (W + up) / 10 ^ i = W / 10 ^ i + c := by
    have e : W + up = 10 ^ i * (W / 10 ^ i) + (W % 10 ^ i + up) := by have := Nat.div_add_mod W (10 ^ i); omega
    rw [e, Nat.mul_add_div hp, ← hc]
  have hd9 := Nat.mod_lt (W / 10 ^ i) (show 10 > 0 by decide)
  rw [← hc] at h1
  subst h1
  obtain ⟨d, hd'⟩ : ∃ d, d = W / 10 ^ i % 10 := ⟨_, rfl⟩
  rw [← hd'] at hd hd9
  have hdig : (W + up) / 10 ^ i % 10 = (d + c) % 10 := by rw [hT, hd']; omega
  have hd2 : d2 = ((d + c : Nat) : Int) := by rw [hd]; omega
  have hmod : d2 % 10 = (((W + up) / 10 ^ i % 10 : Nat) : Int) := by rw [hdig, hd2]; omega
  refine ⟨⟨?_, ?_, ?_, ?_⟩, by omega, by omega⟩
  · have e : W % 10 ^ (i + 1) + up = 10 ^ i * (d + c) + (W % 10 ^ i + up) % 10 ^ i := by
      have h5 := Nat.div_add_mod (W % 10 ^ i + up) (10 ^ i)
      rw [← hc] at h5
      rw [Nat.pow_succ, Nat.mod_mul, ← hd', Nat.mul_add]
      omega
    have h6 : (W % 10 ^ (i + 1) + up) / 10 ^ (i + 1) = (d + c) / 10 := by
      rw [Nat.pow_succ, ← Nat.div_div_eq_div_mul, ← Nat.pow_succ, e, Nat.mul_add_div hp, Nat.div_eq_of_lt (Nat.mod_lt _ hp), Nat.add_zero]
    rw [h6, hd2]; omega
  · rcases hv with ⟨a1, a2, a3⟩ | ⟨a1, a2, a3⟩
    · rw [a2, h2, h3, hmod, show min i 18 = i by omega, show min (i + 1) 18 = i + 1 by omega, Nat.pow_succ, Nat.mod_mul, ← p10c]
      push_cast
      rfl
    · rw [a2, h2, show min i 18 = 18 by omega, show min (i + 1) 18 = 18 by omega]
  · rcases hv with ⟨a1, a2, a3⟩ | ⟨a1, a2, a3⟩
    · rw [a3, h3, show min i 18 = i by omega, show min (i + 1) 18 = i + 1 by omega, Int.pow_succ]
    · rw [a3, h3, show min i 18 = 18 by omega, show min (i + 1) 18 = 18 by omega]
  · have e : (W + up) % 10 ^ (i + 1) = (W + up) % 10 ^ i + 10 ^ i * ((W + up) / 10 ^ i % 10) := by rw [Nat.pow_succ, Nat.mod_mul]
    have hlt := Nat.mod_lt (W + up) hp
    have key : 10 ^ many ≤ (W + up) % 10 ^ (i + 1) ↔ (lg = 1 ∨ (0 < d2 % 10 ∧ many ≤ i)) := by
      have hlg : lg = 1 ↔ 10 ^ many ≤ (W + up) % 10 ^ i := by rw [h4]; split <;> simp_all
      rw [hlg]
      constructor
      · intro q
        by_cases hz : 10 ^ many ≤ (W + up) % 10 ^ i
        · exact Or.inl hz
        · refine Or.inr ⟨?_, ?_⟩
          · rcases Nat.eq_zero_or_pos ((W + up) / 10 ^ i % 10) with h0 | h0
            · rw [e, h0] at q; omega
            · omega
          · rcases Nat.lt_or_ge i many with h0 | h0
            · have h7 := Nat.mod_lt (W + up) (p10N (i + 1))
              have h8 : 10 ^ (i + 1) ≤ 10 ^ many := Nat.pow_le_pow_right (by decide) h0
              omega
            · exact h0
      · rintro (q | ⟨q1, q2⟩)
        · omega
        · have h8 : 10 ^ many ≤ 10 ^ i := Nat.pow_le_pow_right (by decide) q2
          have h9 : 10 ^ i * 1 ≤ 10 ^ i * ((W + up) / 10 ^ i % 10) := Nat.mul_le_mul_left _ (by omega)
          omega
    rcases hl with ⟨a1, a2⟩ | ⟨a1, a2⟩
    · rw [if_pos (key.mpr a2)]; exact a1
    · rw [if_neg (fun q => a2 (key.mp q))]; exact a1
