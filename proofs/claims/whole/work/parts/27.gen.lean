-- REGISTERS THAT HOLD A VALUE IN ANY FORM (own work)
def Rw (M : Nat → Int → Int) (r v : Int) : Prop := ∃ (n N : Nat) (x sg : Int), Rg M r n N x sg ∧ vI sg N x = v ∧ n ≤ 31 ∧ -140 ≤ x ∧ x + n ≤ 110 ∧ -1 ≤ sg ∧ sg ≤ 1 ∧ (n ≠ 0 → N ≠ 0) ∧ (N ≠ 0 → sg = 1 ∨ sg = -1)
theorem Rv.w {M : Nat → Int → Int} {r v : Int} (h : Rv M r v) (hb : vB v) : Rw M r v := ⟨_, _, _, _, h, vI_back v, hb.1, hb.2.1, hb.2.2, (sgn_in v).1, (sgn_in v).2, ndc_nz, fun hn => sgn_nz (fun e => hn (by rw [e]; exact cN_0))⟩
theorem vI_abs {N : Nat} {x sg v : Int} (h : vI sg N x = v) (hs : N ≠ 0 → sg = 1 ∨ sg = -1) : v.natAbs = N * 10 ^ (x + 300).toNat ∧ (N ≠ 0 → sgn v = sg) := by
  by_cases h0 : N = 0
  · subst h0
    have : v = 0 := by rw [← h]; unfold vI; simp
    subst this
    exact ⟨by simp, fun q => absurd rfl q⟩
  · have h3 : (0 : Int) < (N : Int) * 10 ^ (x + 300).toNat := Int.mul_pos (by omega) (p10 _)
    refine ⟨?_, fun _ => ?_⟩
    · rw [← h]; unfold vI
      rw [Int.mul_assoc, Int.natAbs_mul, ← p10c, ← Int.natCast_mul, Int.natAbs_natCast]
      rcases hs h0 with h | h <;> rw [h] <;> simp
    · rw [← h]; unfold vI sgn; rw [Int.mul_assoc]
      rcases hs h0 with h | h <;> rw [h]
      · rw [Int.one_mul, if_neg (by omega), if_pos h3]
      · rw [if_pos (by omega)]
theorem add_resW {M : Nat → Int → Int} {z a b : Int} {P : Nat} (hP : 1 ≤ P ∧ P ≤ 31) (h : ∃ (N : Nat) (x sg : Int), (N ≠ 0 → sg = 1 ∨ sg = -1) ∧ vI sg N x = a + b ∧ -150 ≤ x ∧ cutOk M 2 P N x sg z) : resOk M z (sAdd P a b) := by
  obtain ⟨N, x, sg, h1, h2, h3, h4⟩ := h
  exact add_res hP ⟨N, x, sg, h1, by rw [vI_back, vI_back]; exact h2, h3, h4⟩
theorem mul_resW {M : Nat → Int → Int} {z a b xa xb sa sb : Int} {P NA NB : Nat} (hP : 1 ≤ P ∧ P ≤ 31) (ha : vI sa NA xa = a) (hb : vI sb NB xb = b) (hsa : NA ≠ 0 → sa = 1 ∨ sa = -1) (hsb : NB ≠ 0 → sb = 1 ∨ sb = -1) (hxa : -140 ≤ xa) (hxb : -140 ≤ xb) (hc : cutOk M 2 P (NA * NB) (xa + xb) (sa * sb) z) : resOk M z (sMul P a b) := by
  obtain ⟨a1, a2⟩ := vI_abs ha hsa
  obtain ⟨b1, b2⟩ := vI_abs hb hsb
  have hs : NA * NB ≠ 0 → sa * sb = 1 ∨ sa * sb = -1 := fun h => by
    have h1 : NA ≠ 0 := fun e => h (by rw [e, Nat.zero_mul])
    have h2 : NB ≠ 0 := fun e => h (by rw [e, Nat.mul_zero])
    rcases hsa h1 with e | e <;> rcases hsb h2 with f | f <;> rw [e, f] <;> decide
  have h1 := cut_fin (K := 600) hc hP hs (by omega) rfl
  have e : NA * NB * 10 ^ (xa + xb + (600 : Nat)).toNat = (a * b).natAbs := by
    rw [Int.natAbs_mul, a1, b1, show (xa + xb + (600 : Nat)).toNat = (xa + 300).toNat + (xb + 300).toNat by omega, Nat.pow_add]
    simp only [Nat.mul_assoc, Nat.mul_comm, Nat.mul_left_comm]
  rw [e] at h1
  by_cases h0 : NA * NB = 0
  · have h5 : (a * b).natAbs = 0 := by rw [← e, h0, Nat.zero_mul]
    rw [h5, cuv0, Int.mul_zero] at h1
    unfold sMul
    rw [h5]
    exact fin_ok h1.1 (by rw [cuv0, Int.mul_zero]; exact h1.2) (cut22 hc hP.2)
  · have h2 : NA ≠ 0 := fun e => h0 (by rw [e, Nat.zero_mul])
    have h3 : NB ≠ 0 := fun e => h0 (by rw [e, Nat.mul_zero])
    unfold sMul
    rw [a2 h2, b2 h3]
    exact fin_ok h1.1 h1.2 (cut22 hc hP.2)
theorem div_resW {M : Nat → Int → Int} {z a b xa xb sa sb : Int} {P NA NB nb : Nat} (hP : 1 ≤ P ∧ P ≤ 31) (ha : vI sa NA xa = a) (hb : vI sb NB xb = b) (hsa : NA ≠ 0 → sa = 1 ∨ sa = -1) (hsb : NB ≠ 0 → sb = 1 ∨ sb = -1) (hxa : -140 ≤ xa ∧ xa ≤ 110) (hxb : -140 ≤ xb ∧ xb ≤ 110) (hnb : nb ≤ 31) (hlt : NB < 10 ^ nb) (hc : (NB = 0 ∧ z = 2 ∧ 0 ≤ M 2 2 ∧ M 2 2 ≤ 320) ∨ (NB ≠ 0 ∧ cutOk M 2 P (NA * 10 ^ (P + nb) / NB) (xa - (P + nb : Nat) - xb) (sa * sb) z)) : resOk M z (sDiv P a b) := by
  obtain ⟨a1, a2⟩ := vI_abs ha hsa
  obtain ⟨b1, b2⟩ := vI_abs hb hsb
  unfold sDiv
  rcases hc with ⟨h0, hz, h22⟩ | ⟨h0, hc⟩
  · have : b = 0 := by rw [h0, Nat.zero_mul] at b1; omega
    rw [if_pos this]
    exact ⟨hz, (fun h => by rw [hz] at h; cases h), h22⟩
  · have hb0 : b ≠ 0 := fun e => by
      rw [e] at b1
      have := Nat.mul_pos (Nat.pos_of_ne_zero h0) (p10N (xb + 300).toNat)
      simp at b1
      omega
    rw [if_neg hb0]
    have h22 := cut22 hc hP.2
    by_cases ha0 : NA = 0
    · subst ha0
      rw [Nat.zero_mul, Nat.zero_div] at hc
      have h1 := cut_fin0 hc hP (fun h => absurd rfl h) (by omega)
      rw [cuv0, Int.mul_zero] at h1
      have h5 : a.natAbs = 0 := by rw [a1, Nat.zero_mul]
      rw [h5, Nat.zero_mul, Nat.zero_div]
      refine fin_ok ?_ ?_ h22
      · rw [h1.1]; unfold cuz; simp
      · rw [cuv0, Int.mul_zero]; exact h1.2
    · have hs : NA * 10 ^ (P + nb) / NB ≠ 0 → sa * sb = 1 ∨ sa * sb = -1 := fun _ => by
        rcases hsa ha0 with e | e <;> rcases hsb h0 with f | f <;> rw [e, f] <;> decide
      have h1 := cut_fin0 hc hP hs (by omega)
      obtain ⟨i, hi⟩ : ∃ i : Nat, xa - (P + nb : Nat) - xb + 400 = i := ⟨(xa - (P + nb : Nat) - xb + 400).toNat, by omega⟩
      have hN1 : a.natAbs * 10 ^ 400 / b.natAbs / 10 ^ i = NA * 10 ^ (P + nb) / NB := by
        rw [Nat.div_div_eq_div_mul, a1, b1, Nat.mul_assoc, ← Nat.pow_add, Nat.mul_assoc, ← Nat.pow_add]
        rw [show (xa + 300).toNat + 400 = (P + nb) + ((xb + 300).toNat + i) by omega, Nat.pow_add, ← Nat.mul_assoc, Nat.mul_div_mul_right _ _ (p10N _)]
      have hge : P ≤ nd (NA * 10 ^ (P + nb) / NB) := by
        have g1 : 10 ^ P ≤ NA * 10 ^ (P + nb) / NB := by
          rw [Nat.le_div_iff_mul_le (Nat.pos_of_ne_zero h0), Nat.pow_add]
          have g3 : 1 ≤ NA := Nat.pos_of_ne_zero ha0
          calc 10 ^ P * NB ≤ 10 ^ P * 10 ^ nb := Nat.mul_le_mul_left _ (Nat.le_of_lt hlt)
            _ = 1 * (10 ^ P * 10 ^ nb) := (Nat.one_mul _).symm
            _ ≤ NA * (10 ^ P * 10 ^ nb) := Nat.mul_le_mul_right _ g3
        rcases Nat.lt_or_ge (nd (NA * 10 ^ (P + nb) / NB)) P with g | g
        · have g4 := nd_lt (NA * 10 ^ (P + nb) / NB)
          have g5 : 10 ^ nd (NA * 10 ^ (P + nb) / NB) ≤ 10 ^ P := Nat.pow_le_pow_right (by decide) (by omega)
          omega
        · exact g
      rw [← hN1] at h1 hge
      have h2 := cut_more (x := xa - (P + nb : Nat) - xb) hP.1 hge
      rw [show xa - (P + nb : Nat) - xb - (i : Int) = -400 by omega] at h2
      rw [a2 ha0, b2 h0]
      refine fin_ok ?_ ?_ h22
      · rw [h2.1]; exact h1.1
      · rw [h2.2]; exact h1.2
theorem Rw.neg {M M1 : Nat → Int → Int} {r v y : Int} (h : Rw M r v) (e : M1 = setA M 4 r y) (hy : y = 0 - M 4 r) : Rw M1 r (-v) := by
  obtain ⟨n, N, x, sg, ⟨g1, g2, g3, g4, g5⟩, h2, h3, h4, h5, h6, h7, h8, h9⟩ := h
  have d1 : M1 1 = M 1 := by subst e; simp [setA]
  refine ⟨n, N, x, -sg, ⟨?_, ?_, ?_, ?_, ?_⟩, ?_, h3, h4, h5, by omega, by omega, h8, fun q => ?_⟩
  · subst e; simp [setA]; exact g1
  · subst e; simp [setA]; exact g2
  · subst e; simp [setA, uI]; rw [hy, g3]; omega
  · rw [d1]; exact g4
  · rw [d1]; exact g5
  · rw [← h2]; unfold vI; rw [Int.neg_mul, Int.neg_mul]
  · rcases h9 q with e | e <;> omega
theorem Fr.rw {M M' : Nat → Int → Int} {r r' v : Int} (h : Fr M M' r) (hne : r' ≠ r) (hg : Rw M r' v) : Rw M' r' v := by
  obtain ⟨n, N, x, sg, hg, rest⟩ := hg
  exact ⟨n, N, x, sg, h.rg hne (by have := rest.2.1; omega) hg, rest⟩
