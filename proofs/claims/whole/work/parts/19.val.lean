-- VALUES (own work): a decimal is v : Int, its value times 10^300
theorem nd_mul {n : Nat} (h : n ≠ 0) (k : Nat) : nd (n * 10 ^ k) = nd n + k := by
  have h1 := nd_lt n
  have h2 := nd_ge h
  have h3 : nd n ≠ 0 := by rw [nd_pos h]; omega
  obtain ⟨j, hj⟩ : ∃ j, nd n = j + 1 := ⟨nd n - 1, by omega⟩
  rw [hj] at h1 h2 ⊢
  rw [Nat.add_sub_cancel] at h2
  rw [show j + 1 + k = j + k + 1 by omega]
  refine nd_uniq ?_ ?_
  · rw [Nat.pow_add]; exact Nat.mul_le_mul_right _ h2
  · rw [show j + k + 1 = j + 1 + k by omega, Nat.pow_add]; exact Nat.mul_lt_mul_of_pos_right h1 (p10N k)
theorem tz_mul {n : Nat} (h : n ≠ 0) (k : Nat) : tz (n * 10 ^ k) = tz n + k := by
  have h1 := tz_spec h
  refine tz_uniq ?_ ?_
  · rw [Nat.pow_add, Nat.mul_mod_mul_right, h1.1, Nat.zero_mul]
  · rw [Nat.pow_add, Nat.mul_div_mul_right _ _ (p10N k)]; exact h1.2
def st (n : Nat) : Nat := n / 10 ^ tz n
theorem st_mul {n : Nat} (h : n ≠ 0) (k : Nat) : st (n * 10 ^ k) = st n := by
  unfold st
  rw [tz_mul h, Nat.pow_add, Nat.mul_div_mul_right _ _ (p10N k)]
theorem st_back {n : Nat} (h : n ≠ 0) : st n * 10 ^ tz n = n := Nat.div_mul_cancel (Nat.dvd_of_mod_eq_zero (tz_spec h).1)
theorem st_ne {n : Nat} (h : n ≠ 0) : st n % 10 ≠ 0 := (tz_spec h).2
theorem cutC_mul {N : Nat} (h : N ≠ 0) (P k : Nat) (x : Int) : cutC P (N * 10 ^ k) = cutC P N ∧ cutX P (N * 10 ^ k) (x - k) = cutX P N x := by
  unfold cutC cutX
  rw [nd_mul h]
  by_cases hP : P ≤ nd N
  · have e : nd N + k - P = nd N - P + k := by omega
    have e2 : N * 10 ^ k / 10 ^ (nd N - P + k) = N / 10 ^ (nd N - P) := by rw [Nat.pow_add, Nat.mul_div_mul_right _ _ (p10N k)]
    rw [e, e2]
    exact ⟨rfl, by omega⟩
  · have e : nd N - P = 0 := by omega
    rw [e, Nat.pow_zero, Nat.div_one]
    obtain ⟨j, hj⟩ : ∃ j, k = nd N + k - P + j := ⟨k - (nd N + k - P), by omega⟩
    generalize nd N + k - P = f at *
    subst hj
    rw [Nat.pow_add, Nat.mul_comm (10 ^ f), ← Nat.mul_assoc, Nat.mul_div_cancel _ (p10N f)]
    refine ⟨st_mul h j, ?_⟩
    rw [tz_mul h]
    omega
def cuz (N : Nat) (x : Int) : Int := if N ≠ 0 ∧ 99 ≤ (nd N : Int) + x - 1 then 1 else 0
def cuv (P N : Nat) (x : Int) : Int := if N = 0 ∨ (nd N : Int) + x - 1 < -99 then 0 else (cutC P N : Int) * 10 ^ (cutX P N x + 300).toNat
theorem cuz_mul {N : Nat} {x : Int} (k : Nat) : cuz (N * 10 ^ k) (x - k) = cuz N x := by
  unfold cuz
  by_cases h : N = 0
  · subst h; simp
  · have h2 : N * 10 ^ k ≠ 0 := Nat.ne_of_gt (Nat.mul_pos (Nat.pos_of_ne_zero h) (p10N k))
    rw [nd_mul h]
    by_cases h3 : 99 ≤ (nd N : Int) + x - 1
    · rw [if_pos ⟨h2, by omega⟩, if_pos ⟨h, h3⟩]
    · rw [if_neg (fun q => h3 (by have := q.2; omega)), if_neg (fun q => h3 q.2)]
theorem cuv_mul {P N : Nat} {x : Int} (k : Nat) : cuv P (N * 10 ^ k) (x - k) = cuv P N x := by
  unfold cuv
  by_cases h : N = 0
  · subst h; simp
  · have h2 : N * 10 ^ k ≠ 0 := Nat.ne_of_gt (Nat.mul_pos (Nat.pos_of_ne_zero h) (p10N k))
    rw [nd_mul h, (cutC_mul h P k x).1, (cutC_mul h P k x).2]
    by_cases h3 : (nd N : Int) + x - 1 < -99
    · rw [if_pos (Or.inr (by omega)), if_pos (Or.inr h3)]
    · rw [if_neg (fun q => q.elim h2 (fun q => h3 (by omega))), if_neg (fun q => q.elim h h3)]
/-- only the first P digits count -/
theorem cut_more {N2 P i : Nat} {x : Int} (hP : 1 ≤ P) (h : P ≤ nd (N2 / 10 ^ i)) : cuz N2 (x - i) = cuz (N2 / 10 ^ i) x ∧ cuv P N2 (x - i) = cuv P (N2 / 10 ^ i) x := by
  have h1 := nd_div (n := N2) (k := i)
  have hN1 : N2 / 10 ^ i ≠ 0 := fun e => by rw [e, nd_0] at h; omega
  have hN2 : N2 ≠ 0 := fun e => hN1 (by rw [e]; simp)
  have e1 : (nd N2 : Int) + (x - i) - 1 = (nd (N2 / 10 ^ i) : Int) + x - 1 := by omega
  have e2 : N2 / 10 ^ (nd N2 - P) = N2 / 10 ^ i / 10 ^ (nd (N2 / 10 ^ i) - P) := by
    rw [Nat.div_div_eq_div_mul, ← Nat.pow_add, h1]; congr 2; omega
  have e3 : cutC P N2 = cutC P (N2 / 10 ^ i) := by unfold cutC; rw [e2]
  have e4 : cutX P N2 (x - i) = cutX P (N2 / 10 ^ i) x := by unfold cutX; rw [e2, h1]; omega
  refine ⟨?_, ?_⟩
  · unfold cuz
    rw [e1]
    simp [hN1, hN2]
  · unfold cuv
    rw [e1, e3, e4]
    simp [hN1, hN2]
/-- coefficient and exponent of a value -/
def cN (v : Int) : Nat := st v.natAbs
def cX (v : Int) : Int := if v = 0 then 0 else (tz v.natAbs : Int) - 300
/-- register r holds v -/
def Rv (M : Nat → Int → Int) (r v : Int) : Prop := Rg M r (nd (cN v)) (cN v) (cX v) (sgn v)
theorem cN_0 : cN 0 = 0 := by unfold cN st; simp
theorem nz_0 : nd (cN 0) = 0 := by rw [cN_0, nd_0]
theorem Rv.zero {M : Nat → Int → Int} {r : Int} (h : Rg M r 0 0 0 0) : Rv M r 0 := by
  unfold Rv; rw [cN_0, nd_0]; exact h
theorem val_c {c : Nat} {X sg : Int} (hc : c % 10 ≠ 0) (hX : 0 ≤ X + 300) (hs : sg = 1 ∨ sg = -1) : cN (sg * ((c : Int) * 10 ^ (X + 300).toNat)) = c ∧ cX (sg * ((c : Int) * 10 ^ (X + 300).toNat)) = X ∧ sgn (sg * ((c : Int) * 10 ^ (X + 300).toNat)) = sg := by
  have h0 : c ≠ 0 := fun e => by subst e; exact hc rfl
  have e1 : (sg * ((c : Int) * 10 ^ (X + 300).toNat)).natAbs = c * 10 ^ (X + 300).toNat := by
    rw [Int.natAbs_mul, ← p10c, ← Int.natCast_mul, Int.natAbs_natCast]
    rcases hs with h | h <;> subst h <;> simp
  have h2 : c * 10 ^ (X + 300).toNat ≠ 0 := Nat.ne_of_gt (Nat.mul_pos (Nat.pos_of_ne_zero h0) (p10N _))
  have hv : sg * ((c : Int) * 10 ^ (X + 300).toNat) ≠ 0 := fun e => by rw [e] at e1; exact h2 e1.symm
  refine ⟨?_, ?_, ?_⟩
  · unfold cN; rw [e1, st_mul h0]; unfold st; rw [tz_n hc]; simp
  · unfold cX; rw [if_neg hv, e1, tz_mul h0, tz_n hc]; omega
  · have h3 : (0 : Int) < (c : Int) * 10 ^ (X + 300).toNat := Int.mul_pos (by omega) (p10 _)
    unfold sgn
    rcases hs with h | h <;> subst h
    · rw [Int.one_mul, if_neg (by omega), if_pos h3]
    · rw [if_pos (by omega)]
theorem cutC_ne {P N : Nat} (hP : 1 ≤ P) (h : N ≠ 0) : cutC P N % 10 ≠ 0 := by
  have h2 := nd_div (n := N) (k := nd N - P)
  have h3 : N / 10 ^ (nd N - P) ≠ 0 := fun e => by
    rw [e, nd_0] at h2
    have : nd N ≠ 0 := by rw [nd_pos h]; omega
    omega
  exact st_ne h3
theorem cut_fin {M : Nat → Int → Int} {r x sg z : Int} {P N N2 K : Nat} (hc : cutOk M r P N x sg z) (hP : 1 ≤ P ∧ P ≤ 31) (hs : N ≠ 0 → sg = 1 ∨ sg = -1) (hK : 0 ≤ x + K) (h2 : N2 = N * 10 ^ (x + K).toNat) : z = cuz N2 (-K) ∧ Rv M r (sg * cuv P N2 (-K)) := by
  have ez : cuz N2 (-K) = cuz N x := by
    have := cuz_mul (N := N) (x := x) (x + K).toNat
    rw [show x - ((x + K).toNat : Int) = -K by omega] at this
    rw [h2, this]
  have ev : cuv P N2 (-K) = cuv P N x := by
    have := cuv_mul (P := P) (N := N) (x := x) (x + K).toNat
    rw [show x - ((x + K).toNat : Int) = -K by omega] at this
    rw [h2, this]
  rw [ez, ev]
  rcases hc with ⟨h1, hz, hg⟩ | ⟨h1, h3, hz, hg⟩
  · refine ⟨?_, ?_⟩
    · unfold cuz
      rw [hz, if_neg (fun q => by have := q.1; have := q.2; omega)]
    · unfold cuv
      rw [if_pos h1, Int.mul_zero]
      exact Rv.zero hg
  · refine ⟨?_, ?_⟩
    · unfold cuz
      rw [hz]
      by_cases h4 : 99 ≤ (nd N : Int) + x - 1
      · rw [if_pos h4, if_pos ⟨h1, h4⟩]
      · rw [if_neg h4, if_neg (fun q => h4 q.2)]
    · unfold cuv
      rw [if_neg (fun q => q.elim h1 (fun q => by omega))]
      have hb := (cut_nd (x := x) (N := N) hP.1).2 h1
      have hle : nd (cutC P N) ≤ P := by
        have h5 := nd_div (n := N) (k := nd N - P)
        have h6 := nd_div (n := N / 10 ^ (nd N - P)) (k := tz (N / 10 ^ (nd N - P)))
        unfold cutC
        omega
      obtain ⟨v1, v2, v3⟩ := val_c (X := cutX P N x) (cutC_ne hP.1 h1) (by omega) (hs h1)
      unfold Rv
      rw [v1, v2, v3]
      exact hg
/-- what comes of an exact result -/
def fin (P N : Nat) (x sg : Int) : Int × Int := if cuz N x = 0 then (0, sg * cuv P N x) else (1, 0)
def sAdd (P : Nat) (a b : Int) : Int × Int := fin P (a + b).natAbs (-300) (sgn (a + b))
def sMul (P : Nat) (a b : Int) : Int × Int := fin P (a * b).natAbs (-600) (sgn a * sgn b)
def sDiv (P : Nat) (a b : Int) : Int × Int := if b = 0 then (2, 0) else fin P (a.natAbs * 10 ^ 400 / b.natAbs) (-400) (sgn a * sgn b)
/-- register 2 holds what comes, if it isn't raised -/
def resOk (M : Nat → Int → Int) (z : Int) (w : Int × Int) : Prop := z = w.1 ∧ (z = 0 → Rv M 2 w.2) ∧ (0 ≤ M 2 2 ∧ M 2 2 ≤ 320)
theorem cut22 {M : Nat → Int → Int} {x sg z : Int} {P N : Nat} (hc : cutOk M 2 P N x sg z) (hP : P ≤ 31) : 0 ≤ M 2 2 ∧ M 2 2 ≤ 320 := by
  rcases hc with ⟨h1, hz, hg⟩ | ⟨h1, h3, hz, hg⟩
  · rw [hg.1]; decide
  · have hle : nd (cutC P N) ≤ P := by
      have h5 := nd_div (n := N) (k := nd N - P)
      have h6 := nd_div (n := N / 10 ^ (nd N - P)) (k := tz (N / 10 ^ (nd N - P)))
      unfold cutC
      omega
    rw [hg.1]; omega
theorem fin_ok {M : Nat → Int → Int} {z sg x : Int} {P N : Nat} (h1 : z = cuz N x) (h2 : Rv M 2 (sg * cuv P N x)) (h22 : 0 ≤ M 2 2 ∧ M 2 2 ≤ 320) : resOk M z (fin P N x sg) := by
  unfold fin
  have h3 : cuz N x = 0 ∨ cuz N x = 1 := by unfold cuz; split <;> simp
  rcases h3 with h | h
  · rw [if_pos h]; exact ⟨h1.trans h, fun _ => h2, h22⟩
  · rw [if_neg (by rw [h]; decide)]; exact ⟨h1.trans h, (fun h0 => by rw [h1, h] at h0; cases h0), h22⟩
