-- NUMBERS (own work): digits and values
/-- how many decimal digits -/
def nd (n : Nat) : Nat := if h : n = 0 then 0 else nd (n / 10) + 1
termination_by n
decreasing_by omega
theorem nd_0 : nd 0 = 0 := by rw [nd]; simp
theorem nd_pos {n : Nat} (h : n ≠ 0) : nd n = nd (n / 10) + 1 := by rw [nd]; simp [h]
theorem nd_lt (n : Nat) : n < 10 ^ nd n := by
  induction n using Nat.strongRecOn with
  | _ n ih =>
    by_cases h : n = 0
    · subst h; rw [nd_0]; decide
    · rw [nd_pos h, Nat.pow_succ]
      have := ih (n / 10) (by omega)
      omega
theorem nd_ge {n : Nat} (h : n ≠ 0) : 10 ^ (nd n - 1) ≤ n := by
  induction n using Nat.strongRecOn with
  | _ n ih =>
    rw [nd_pos h, Nat.add_sub_cancel]
    by_cases h2 : n / 10 = 0
    · rw [h2, nd_0]; simp; omega
    · have h3 := ih (n / 10) (by omega) h2
      have h4 : nd (n / 10) = nd (n / 10) - 1 + 1 := by rw [nd_pos h2]; omega
      rw [h4, Nat.pow_succ]
      omega
theorem nd_uniq {n k : Nat} (h1 : 10 ^ k ≤ n) (h2 : n < 10 ^ (k + 1)) : nd n = k + 1 := by
  induction k generalizing n with
  | zero =>
    have h3 : n ≠ 0 := by simp at h1; omega
    rw [nd_pos h3]
    have h4 : n / 10 = 0 := by simp at h2; omega
    rw [h4, nd_0]
  | succ k ih =>
    have h3 : 0 < 10 ^ (k + 1) := Nat.pow_pos (by decide)
    have h5 : n ≠ 0 := by omega
    rw [nd_pos h5]
    have e1 : 10 ^ (k + 1) = 10 ^ k * 10 := Nat.pow_succ ..
    have e2 : 10 ^ (k + 1 + 1) = 10 ^ (k + 1) * 10 := Nat.pow_succ ..
    rw [ih (n := n / 10) (by omega) (by omega)]
theorem nd_le {n k : Nat} (h : n < 10 ^ k) : nd n ≤ k := by
  by_cases h0 : n = 0
  · subst h0; rw [nd_0]; omega
  · have h1 := nd_ge h0
    rcases Nat.lt_or_ge k (nd n) with h2 | h2
    · have h3 : 10 ^ k ≤ 10 ^ (nd n - 1) := Nat.pow_le_pow_right (by decide) (by omega)
      omega
    · exact h2
/-- the value of n digits from place b on -/
def dv (F : Int → Int) (b : Int) : Nat → Int
  | 0 => 0
  | n + 1 => dv F b n + F (b + n) * 10 ^ n
theorem dv_congr {F G : Int → Int} {b c : Int} {n : Nat} (h : ∀ k : Int, 0 ≤ k → k < n → F (b + k) = G (c + k)) : dv F b n = dv G c n := by
  induction n with
  | zero => rfl
  | succ n ih =>
    show dv F b n + F (b + n) * 10 ^ n = dv G c n + G (c + n) * 10 ^ n
    rw [ih (fun k h1 h2 => h k h1 (by omega)), h n (by omega) (by omega)]
/-- digits are digits -/
def dOk (F : Int → Int) (b : Int) (n : Nat) : Prop := ∀ k : Int, 0 ≤ k → k < n → 0 ≤ F (b + k) ∧ F (b + k) ≤ 9
theorem dOk.le {F : Int → Int} {b : Int} {n n' : Nat} (h : dOk F b n) (hn : n' ≤ n) : dOk F b n' := fun k h1 h2 => h k h1 (by omega)
theorem dv_lt {F : Int → Int} {b : Int} {n : Nat} (h : dOk F b n) : 0 ≤ dv F b n ∧ dv F b n < 10 ^ n := by
  induction n with
  | zero => exact ⟨Int.le_refl 0, by show (0 : Int) < 10 ^ 0; decide⟩
  | succ n ih =>
    have h1 := ih (h.le (by omega))
    have h2 := h n (by omega) (by omega)
    have h3 : (0 : Int) < 10 ^ n := Int.pow_pos (by decide)
    show 0 ≤ dv F b n + F (b + n) * 10 ^ n ∧ dv F b n + F (b + n) * 10 ^ n < 10 ^ (n + 1)
    have e : (10 : Int) ^ (n + 1) = 10 ^ n * 10 := Int.pow_succ 10 n
    have h4 : F (b + n) * 10 ^ n ≤ 9 * 10 ^ n := Int.mul_le_mul_of_nonneg_right h2.2 (by omega)
    have h5 : 0 ≤ F (b + n) * 10 ^ n := Int.mul_nonneg h2.1 (by omega)
    omega
theorem p10 (n : Nat) : (0 : Int) < 10 ^ n := Int.pow_pos (by decide)
theorem p10N (n : Nat) : 0 < 10 ^ n := Nat.pow_pos (by decide)
theorem p10c (n : Nat) : ((10 ^ n : Nat) : Int) = 10 ^ n := by simp
theorem dv_app {F : Int → Int} {b : Int} (d m : Nat) : dv F b (d + m) = dv F b d + 10 ^ d * dv F (b + d) m := by
  induction m with
  | zero => show dv F b d = dv F b d + 10 ^ d * 0; omega
  | succ m ih =>
    show dv F b (d + m) + F (b + ((d + m : Nat) : Int)) * 10 ^ (d + m) = dv F b d + 10 ^ d * (dv F (b + d) m + F (b + d + m) * 10 ^ m)
    rw [ih, Int.mul_add, Int.pow_add]
    have e : b + ((d + m : Nat) : Int) = b + d + m := by omega
    rw [e]
    have e2 : F (b + d + m) * (10 ^ d * 10 ^ m) = 10 ^ d * (F (b + d + m) * 10 ^ m) := by
      rw [← Int.mul_assoc, Int.mul_comm (F (b + d + m)) (10 ^ d), Int.mul_assoc]
    omega
theorem dv_div {F : Int → Int} {b : Int} {d m : Nat} (h : dOk F b d) : dv F b (d + m) / 10 ^ d = dv F (b + d) m := by
  have h1 := dv_lt h
  rw [dv_app, Int.add_mul_ediv_left _ _ (Int.ne_of_gt (p10 d)), Int.ediv_eq_zero_of_lt h1.1 h1.2, Int.zero_add]
theorem dv_mod {F : Int → Int} {b : Int} {d m : Nat} (h : dOk F b d) : dv F b (d + m) % 10 ^ d = dv F b d := by
  have h1 := dv_lt h
  rw [dv_app, Int.add_mul_emod_self_left, Int.emod_eq_of_lt h1.1 h1.2]
theorem dv_dig {F : Int → Int} {b : Int} {n k : Nat} (h : dOk F b n) (hk : k < n) : dv F b n / 10 ^ k % 10 = F (b + k) := by
  have e : n = k + (1 + (n - k - 1)) := by omega
  rw [e, dv_div (h.le (by omega)), dv_app]
  have e1 : dv F (b + k) 1 = F (b + k) := by show 0 + F (b + k + ((0 : Nat) : Int)) * 10 ^ 0 = _; simp
  have h2 := h k (by omega) (by omega)
  rw [e1, Int.pow_succ, Int.pow_zero, Int.one_mul, Int.add_mul_emod_self_left, Int.emod_eq_of_lt h2.1 (by omega)]
/-- trailing zeros -/
def tz (n : Nat) : Nat := if h : n = 0 then 0 else if n % 10 = 0 then tz (n / 10) + 1 else 0
termination_by n
decreasing_by omega
theorem tz_0 : tz 0 = 0 := by rw [tz]; simp
theorem tz_z {n : Nat} (h : n ≠ 0) (h2 : n % 10 = 0) : tz n = tz (n / 10) + 1 := by rw [tz]; simp [h, h2]
theorem tz_n {n : Nat} (h2 : n % 10 ≠ 0) : tz n = 0 := by rw [tz]; simp [h2]
theorem tz_uniq {t : Nat} : ∀ {n : Nat}, n % 10 ^ t = 0 → n / 10 ^ t % 10 ≠ 0 → tz n = t := by
  induction t with
  | zero => intro n _ h2; simp at h2; exact tz_n h2
  | succ t ih =>
    intro n h1 h2
    have e1 : 10 ^ (t + 1) = 10 * 10 ^ t := by rw [Nat.pow_succ, Nat.mul_comm]
    rw [e1] at h1 h2
    have h3 : n % 10 = 0 := by
      have := Nat.mod_mul_right_mod n 10 (10 ^ t)
      omega
    have h0 : n ≠ 0 := by intro h; subst h; simp at h2
    rw [tz_z h0 h3]
    have h4 : n / 10 % 10 ^ t = 0 := by
      have := Nat.mod_mul (x := n) (a := 10) (b := 10 ^ t)
      omega
    have h5 : n / 10 / 10 ^ t % 10 ≠ 0 := by rw [Nat.div_div_eq_div_mul]; exact h2
    rw [ih h4 h5]
theorem tz_spec {n : Nat} (h : n ≠ 0) : n % 10 ^ tz n = 0 ∧ n / 10 ^ tz n % 10 ≠ 0 := by
  induction n using Nat.strongRecOn with
  | _ n ih =>
    by_cases h2 : n % 10 = 0
    · have h3 := ih (n / 10) (by omega) (by omega)
      rw [tz_z h h2]
      have e1 : 10 ^ (tz (n / 10) + 1) = 10 * 10 ^ tz (n / 10) := by rw [Nat.pow_succ, Nat.mul_comm]
      rw [e1]
      refine ⟨?_, ?_⟩
      · have := Nat.mod_mul (x := n) (a := 10) (b := 10 ^ tz (n / 10))
        omega
      · rw [← Nat.div_div_eq_div_mul]; exact h3.2
    · rw [tz_n h2]; simp [h2, Nat.mod_one]
theorem nd_div {n k : Nat} : nd (n / 10 ^ k) = nd n - k := by
  induction k generalizing n with
  | zero => simp
  | succ k ih =>
    have e1 : 10 ^ (k + 1) = 10 * 10 ^ k := by rw [Nat.pow_succ, Nat.mul_comm]
    rw [e1, ← Nat.div_div_eq_div_mul, ih]
    by_cases h : n = 0
    · subst h; simp [nd_0]
    · rw [nd_pos h]; omega
theorem tz_lt {n : Nat} (h : n ≠ 0) : tz n < nd n := by
  have h1 := tz_spec h
  have h2 : n / 10 ^ tz n ≠ 0 := fun e => h1.2 (by rw [e])
  have h3 := nd_pos h2
  have h4 := nd_div (n := n) (k := tz n)
  omega
