-- QUOTIENTS (own work)
theorem Fr.r5 {M M' : Nat → Int → Int} (r : Int) (h : ∀ j, j ≠ 5 → M' j = M j) : Fr M M' r := ⟨fun k hk => h k (by omega), fun q _ => by rw [h 1 (by decide)], fun q _ => by rw [h 2 (by decide), h 3 (by decide), h 4 (by decide)]; exact ⟨rfl, rfl, rfl⟩⟩
/-- the rest's digits, one more than the divisor has -/
def Rs (M : Nat → Int → Int) (nb R : Nat) : Prop := dOk (M 5) 0 (nb + 1) ∧ dv (M 5) 0 (nb + 1) = R
theorem Rs.lt {M : Nat → Int → Int} {nb R : Nat} (h : Rs M nb R) : R < 10 ^ (nb + 1) := by
  have h1 := (dv_lt h.1).2
  rw [h.2, ← p10c] at h1
  omega
theorem Rs.dig {M : Nat → Int → Int} {nb R k : Nat} (h : Rs M nb R) (hk : k < nb + 1) : M 5 k = ((R / 10 ^ k % 10 : Nat) : Int) := by
  have h1 := dv_dig h.1 (k := k) hk
  rw [h.2, Int.zero_add] at h1
  rw [← h1]
  simp
theorem div_dig {NA more k : Nat} : NA * 10 ^ more / 10 ^ k % 10 = if more ≤ k then NA / 10 ^ (k - more) % 10 else 0 := by
  by_cases h : more ≤ k
  · rw [if_pos h]
    obtain ⟨j, rfl⟩ : ∃ j, k = more + j := ⟨k - more, by omega⟩
    rw [Nat.pow_add, ← Nat.div_div_eq_div_mul, Nat.mul_div_cancel _ (p10N _), Nat.add_sub_cancel_left]
  · rw [if_neg h]
    have e : more = k + (more - k - 1) + 1 := by omega
    rw [e, Nat.pow_succ, Nat.pow_add, Nat.mul_comm NA, Nat.mul_assoc, Nat.mul_assoc, Nat.mul_div_cancel_left _ (p10N _), ← Nat.mul_assoc, Nat.mul_comm _ 10, Nat.mul_assoc, Nat.mul_mod_right]
/-- taking the divisor off the rest: k digits are done -/
def LsI (M0 M : Nat → Int → Int) (nb k : Nat) (cy : Int) (R NB : Nat) : Prop := (∀ j, j ≠ 5 → M j = M0 j) ∧ dOk (M 5) 0 (nb + 1) ∧ -1 ≤ cy ∧ cy ≤ 0 ∧ dv (M 5) 0 (nb + 1) = (R : Int) - ((NB % 10 ^ k : Nat) : Int) - cy * 10 ^ k
theorem LsI.start {M : Nat → Int → Int} {nb R NB : Nat} (h : Rs M nb R) : LsI M M nb 0 0 R NB := ⟨fun _ _ => rfl, h.1, by omega, by omega, by rw [h.2]; simp [Nat.mod_one]⟩
theorem LsI.step {M0 M M1 : Nat → Int → Int} {nb k R NB : Nat} {cy cy' d q : Int} (h : LsI M0 M nb k cy R NB) (hq : q = k) (hk : k < nb + 1) (hd : d = M 5 q - ((NB / 10 ^ k % 10 : Nat) : Int) + cy) (hcy : (d < 0 ∧ cy' = -1) ∨ (0 ≤ d ∧ cy' = 0)) (e : M1 = setA M 5 q (d - 10 * cy')) : LsI M0 M1 nb (k + 1) cy' R NB := by
  obtain ⟨hs, hok, hc1, hc2, hv⟩ := h
  subst hq
  have hm := Nat.mod_lt (NB / 10 ^ k) (show 10 > 0 by decide)
  have h1 := hok k (by omega) (by omega)
  rw [Int.zero_add] at h1
  have d1 : M1 5 = uI (M 5) (0 + k) (d - 10 * cy') := by subst e; simp [setA]
  refine ⟨fun j hj => by subst e; rw [setA_n hj]; exact hs j hj, ?_, by omega, by omega, ?_⟩
  · intro q a b
    rw [d1]
    by_cases hq : q = k
    · rw [hq, uI_s]; omega
    · rw [uI_n (by omega)]; exact hok q a b
  · rw [d1, dv_set hk, hv, Int.zero_add, hd, Nat.pow_succ, Nat.mod_mul, Int.pow_succ]
    generalize NB / 10 ^ k % 10 = b
    generalize NB % 10 ^ k = g
    push_cast
    generalize (10 : Int) ^ k = p
    simp only [Int.add_mul, Int.sub_mul, Int.mul_add, Int.mul_sub, Int.mul_assoc, Int.mul_comm, Int.mul_left_comm]
    omega
theorem LsI.fin {M0 M : Nat → Int → Int} {nb R NB : Nat} {cy : Int} (h : LsI M0 M nb (nb + 1) cy R NB) (hB : NB < 10 ^ nb) (hR : R < 10 ^ (nb + 1)) (hle : NB ≤ R) : (∀ j, j ≠ 5 → M j = M0 j) ∧ Rs M nb (R - NB) := by
  obtain ⟨hs, hok, hc1, hc2, hv⟩ := h
  have h1 := dv_lt hok
  have h2 : NB < 10 ^ (nb + 1) := Nat.lt_of_lt_of_le hB (Nat.pow_le_pow_right (by decide) (by omega))
  rw [Nat.mod_eq_of_lt h2] at hv
  have h3 : (R : Int) < 10 ^ (nb + 1) := by rw [← p10c]; omega
  rcases (show cy = -1 ∨ cy = 0 by omega) with h | h
  · subst h; omega
  · subst h; exact ⟨hs, hok, by omega⟩
/-- moving the rest's digits up: those above i are moved -/
def ShI (M0 M : Nat → Int → Int) (nb : Nat) (i : Int) : Prop := (∀ j, j ≠ 5 → M j = M0 j) ∧ (∀ q : Int, i < q → q ≤ nb → M 5 q = M0 5 (q - 1)) ∧ ∀ q : Int, q ≤ i → M 5 q = M0 5 q
theorem ShI.start (M : Nat → Int → Int) (nb : Nat) : ShI M M nb nb := ⟨fun _ _ => rfl, fun q h1 h2 => by omega, fun _ _ => rfl⟩
theorem ShI.step {M0 M M1 : Nat → Int → Int} {nb : Nat} {i : Int} (h : ShI M0 M nb i) (e : M1 = setA M 5 i (M 5 (i - 1))) : ShI M0 M1 nb (i + -1) := by
  obtain ⟨h1, h2, h3⟩ := h
  subst e
  refine ⟨fun j hj => by rw [setA_n hj]; exact h1 j hj, fun q a b => ?_, fun q a => ?_⟩
  · rw [setA_s]
    by_cases hq : q = i
    · rw [hq, uI_s]; exact h3 _ (by omega)
    · rw [uI_n hq]; exact h2 q (by omega) b
  · rw [setA_s, uI_n (by omega)]; exact h3 q (by omega)
theorem ShI.fin {M0 M M1 : Nat → Int → Int} {nb R : Nat} {dg : Int} (h : ShI M0 M nb 0) (hr : Rs M0 nb R) (hR : R < 10 ^ nb) (hd : 0 ≤ dg ∧ dg ≤ 9) (e : M1 = setA M 5 0 dg) : (∀ j, j ≠ 5 → M1 j = M0 j) ∧ Rs M1 nb (10 * R + dg.toNat) := by
  obtain ⟨h1, h2, h3⟩ := h
  have s0 : M1 5 0 = dg := by subst e; rw [setA_s, uI_s]
  have s1 : ∀ q : Int, 1 ≤ q → q ≤ nb → M1 5 q = M0 5 (q - 1) := fun q a b => by subst e; rw [setA_s, uI_n (by omega)]; exact h2 q (by omega) b
  have hv : dv (M0 5) 0 nb = R := by
    have h4 := dv_mod (F := M0 5) (b := 0) (d := nb) (m := 1) (hr.1.le (by omega))
    rw [hr.2] at h4
    rw [← h4, Int.emod_eq_of_lt (by omega) (by rw [← p10c]; omega)]
  refine ⟨fun j hj => by subst e; rw [setA_n hj]; exact h1 j hj, ?_, ?_⟩
  · intro q a b
    rw [Int.zero_add]
    by_cases hq : q = 0
    · rw [hq, s0]; exact hd
    · rw [s1 q (by omega) (by omega)]
      have := hr.1 (q - 1) (by omega) (by omega)
      rw [Int.zero_add] at this
      exact this
  · rw [Nat.add_comm, dv_app, dv_congr (F := M1 5) (G := M0 5) (c := 0) (b := 0 + ((1 : Nat) : Int)) (n := nb) (fun k a b => by rw [s1 _ (by omega) (by omega)]; congr 1; omega), hv]
    show 0 + M1 5 (0 + ((0 : Nat) : Int)) * 10 ^ 0 + 10 ^ 1 * (R : Int) = _
    rw [show (0 : Int) + ((0 : Nat) : Int) = 0 by decide, s0]
    push_cast
    omega
/-- the quotient's digits from kk on, and the rest -/
def DvI (M0 M : Nat → Int → Int) (n nb kk D NB : Nat) : Prop := Fr M0 M 2 ∧ (M 2 = M0 2 ∧ M 3 = M0 3 ∧ M 4 = M0 4) ∧ dOk (M 1) (640 + kk) (n - kk) ∧ dv (M 1) (640 + kk) (n - kk) = ((D / 10 ^ kk / NB : Nat) : Int) ∧ Rs M nb (D / 10 ^ kk % NB)
theorem DvI.start {M0 M : Nat → Int → Int} {n nb D NB : Nat} (hD : D < 10 ^ n) (hs : ∀ j, j ≠ 5 → M j = M0 j) (hz : ∀ q : Int, 0 ≤ q → q < 40 → M 5 q = 0) (hnb : nb < 40) : DvI M0 M n nb n D NB := by
  refine ⟨Fr.r5 2 hs, ⟨hs 2 (by decide), hs 3 (by decide), hs 4 (by decide)⟩, ?_, ?_, ?_⟩
  · intro k h1 h2; omega
  · rw [Nat.div_eq_of_lt hD, Nat.zero_div, Nat.sub_self]; rfl
  · rw [Nat.div_eq_of_lt hD, Nat.zero_mod]
    exact ⟨fun k h1 h2 => by rw [Int.zero_add, hz k h1 (by omega)]; decide, dv_zero (fun k h1 h2 => by rw [Int.zero_add]; exact hz k h1 (by omega))⟩
theorem DvI.step {M0 M Ma Mb M1 : Nat → Int → Int} {n nb k D NB R' d : Nat} {q x : Int} (h : DvI M0 M n nb (k + 1) D NB) (hk : k < n) (hn : n ≤ 320) (hNB : 0 < NB) (hR : R' = 10 * (D / 10 ^ (k + 1) % NB) + D / 10 ^ k % 10) (ha : ∀ j, j ≠ 5 → Ma j = M j) (hb : ∀ j, j ≠ 5 → Mb j = Ma j) (hd : d * NB ≤ R') (hr : Rs Mb nb (R' - d * NB)) (hl : R' - d * NB < NB) (hq : q = 640 + k) (hx : x = d) (e : M1 = setA Mb 1 q x) : DvI M0 M1 n nb k D NB := by
  obtain ⟨hF, hs, hok, hv, hrs⟩ := h
  subst hq hx
  have hj : ∀ j, j ≠ 5 → Mb j = M j := fun j hj => (hb j hj).trans (ha j hj)
  have hlt : D / 10 ^ (k + 1) % NB < NB := Nat.mod_lt _ hNB
  have hm := Nat.mod_lt (D / 10 ^ k) (show 10 > 0 by decide)
  have hd9 : d ≤ 9 := by
    rcases Nat.lt_or_ge d 10 with h1 | h1
    · omega
    · have := Nat.mul_le_mul_right NB h1
      omega
  have eD : D / 10 ^ k = 10 * (D / 10 ^ (k + 1)) + D / 10 ^ k % 10 := by
    have : D / 10 ^ (k + 1) = D / 10 ^ k / 10 := by rw [Nat.div_div_eq_div_mul, Nat.pow_succ]
    omega
  have eD2 := Nat.div_add_mod (D / 10 ^ (k + 1)) NB
  have eQ : D / 10 ^ k = NB * (10 * (D / 10 ^ (k + 1) / NB) + d) + (R' - d * NB) := by
    rw [Nat.mul_add, Nat.mul_comm NB d, ← Nat.mul_assoc, Nat.mul_comm NB 10, Nat.mul_assoc]
    generalize NB * (D / 10 ^ (k + 1) / NB) = u at *
    generalize d * NB = v at *
    omega
  have eq1 : D / 10 ^ k / NB = 10 * (D / 10 ^ (k + 1) / NB) + d := by
    rw [eQ, Nat.mul_add_div hNB, Nat.div_eq_of_lt hl, Nat.add_zero]
  have eq2 : D / 10 ^ k % NB = R' - d * NB := by
    rw [eQ, Nat.mul_add_mod, Nat.mod_eq_of_lt hl]
  have d1 : M1 1 = uI (M 1) (640 + k) d := by subst e; rw [setA_s, hj 1 (by decide)]
  have hup : ∀ p : Int, 0 ≤ p → p < (n - (k + 1) : Nat) → M1 1 (640 + k + ((1 : Nat) : Int) + p) = M 1 (640 + ((k + 1 : Nat) : Int) + p) := fun p a b => by
    rw [d1, uI_n (by omega)]; congr 1
  have hF2 : Fr M Mb 2 := Fr.r5 2 hj
  have n1 : ∀ j, j ≠ 1 → M1 j = Mb j := fun j h1 => by subst e; exact setA_n h1
  refine ⟨hF.tr (hF2.tr (Fr.d (r := 2) (k := (k : Int)) e (by omega))), ?_, ?_, ?_, ?_⟩
  · rw [n1 2 (by decide), n1 3 (by decide), n1 4 (by decide), hj 2 (by decide), hj 3 (by decide), hj 4 (by decide)]; exact hs
  · intro p a b
    by_cases hp : p = 0
    · rw [hp, d1, Int.add_zero, uI_s]; omega
    · have h1 := hup (p - 1) (by omega) (by omega)
      rw [show 640 + (k : Int) + ((1 : Nat) : Int) + (p - 1) = 640 + k + p by omega] at h1
      rw [h1]
      exact hok (p - 1) (by omega) (by omega)
  · rw [show n - k = 1 + (n - (k + 1)) by omega, dv_app, dv_congr hup, hv, eq1]
    show 0 + M1 1 (640 + (k : Int) + ((0 : Nat) : Int)) * 10 ^ 0 + 10 ^ 1 * _ = _
    rw [show 640 + (k : Int) + ((0 : Nat) : Int) = 640 + k by omega, d1, uI_s]
    push_cast
    omega
  · rw [eq2]
    exact ⟨by rw [n1 5 (by decide)]; exact hr.1, by rw [n1 5 (by decide)]; exact hr.2⟩
theorem DvI.fin {M0 M M1 M2 M3 : Nat → Int → Int} {na nb NA NB n more D : Nat} {xa xb sa sb nn : Int} (h : DvI M0 M n nb 0 D NB) (hn : na = 0 → NA = 0) (hD : D = NA * 10 ^ more) (e1 : M1 = setA M 2 2 nn) (hnn : nn = if na = 0 then 0 else (n : Int)) (e2 : M2 = setA M1 3 2 (M1 3 0 - more - M1 3 1)) (e3 : M3 = setA M2 4 2 (M2 4 0 * M2 4 1)) (x0 : M0 3 0 = xa) (x1 : M0 3 1 = xb) (s0 : M0 4 0 = sa) (s1 : M0 4 1 = sb) : Fr M0 M3 2 ∧ ∃ n', n' ≤ n ∧ Rg M3 2 n' (NA * 10 ^ more / NB) (xa - more - xb) (sa * sb) := by
  obtain ⟨hF, hs, hok, hv, hrs⟩ := h
  have d1 : M3 1 = M 1 := by subst e3 e2 e1; simp [setA]
  have hF3 := hF.tr ((Fr.s e1 (by decide)).tr ((Fr.s e2 (by decide)).tr (Fr.s e3 (by decide))))
  have a2 : M3 3 2 = xa - more - xb := by subst e3 e2 e1; simp [setA, uI]; rw [hs.2.1, x0, x1]
  have a3 : M3 4 2 = sa * sb := by subst e3 e2 e1; simp [setA, uI]; rw [hs.2.2, s0, s1]
  have a1 : M3 2 2 = nn := by subst e3 e2 e1; simp [setA, uI]
  by_cases h0 : na = 0
  · refine ⟨hF3, 0, by omega, ?_, a2, a3, fun k h1 h2 => by omega, ?_⟩
    · rw [a1, hnn, if_pos h0]; rfl
    · rw [hn h0]; simp [dv]
  · refine ⟨hF3, n, Nat.le_refl _, ?_, a2, a3, ?_, ?_⟩
    · rw [a1, hnn, if_neg h0]
    · rw [d1]
      have : dOk (M 1) (640 + ((0 : Nat) : Int)) (n - 0) := hok
      rw [Nat.sub_zero, show (640 : Int) + ((0 : Nat) : Int) = 320 * 2 by decide] at this
      exact this
    · rw [d1, ← hD]
      have : dv (M 1) (640 + ((0 : Nat) : Int)) (n - 0) = _ := hv
      rw [Nat.sub_zero, show (640 : Int) + ((0 : Nat) : Int) = 320 * 2 by decide, Nat.pow_zero, Nat.div_one] at this
      exact this
theorem Rg.r5 {M M' : Nat → Int → Int} {r : Int} {n N : Nat} {x sg : Int} (hg : Rg M r n N x sg) (h : ∀ j, j ≠ 5 → M' j = M j) : Rg M' r n N x sg := by
  unfold Rg
  rw [h 1 (by decide), h 2 (by decide), h 3 (by decide), h 4 (by decide)]
  exact hg
