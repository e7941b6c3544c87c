-- MORE OF VALUES (own work)
theorem mul_bd {a b : Int} (ha : vB a) (hb : vB b) : nd (cN a) ≤ 100 ∧ nd (cN b) ≤ 100 ∧ -150 ≤ cX a ∧ -150 ≤ cX b ∧ cX a ≤ 150 ∧ cX b ≤ 150 := by unfold vB at ha hb; omega
theorem add_bd {a b : Int} (ha : vB a) (hb : vB b) : nd (cN a) ≤ 100 ∧ nd (cN b) ≤ 100 ∧ -150 ≤ cX a ∧ -150 ≤ cX b ∧ cX a + nd (cN a) ≤ 120 ∧ cX b + nd (cN b) ≤ 120 := by unfold vB at ha hb; omega
theorem div_bd {a b : Int} (ha : vB a) (hb : vB b) : nd (cN a) ≤ 100 ∧ nd (cN b) ≤ 38 ∧ -150 ≤ cX a ∧ -150 ≤ cX b ∧ cX a ≤ 150 ∧ cX b ≤ 150 := by unfold vB at ha hb; omega
theorem sg_bd (a b : Int) : -1 ≤ sgn a ∧ sgn a ≤ 1 ∧ -1 ≤ sgn b ∧ sgn b ≤ 1 := by have := sgn_in a; have := sgn_in b; omega
theorem sg_nz {a : Int} (h : nd (cN a) ≠ 0) : sgn a = 1 ∨ sgn a = -1 := sgn_nz (fun e => h (by rw [e]; exact nz_0))
theorem ndc_nz {a : Int} (h : nd (cN a) ≠ 0) : cN a ≠ 0 := fun e => h (by rw [e]; exact nd_0)
theorem ndc_0 {a : Int} (h : nd (cN a) = 0) : a = 0 := cN_z.mp (nd_z.mp h)
theorem pw_0 {b : Int} (h : nd (cN b) = 0) : pw b = 0 := by unfold pw; rw [if_pos (ndc_0 h)]
theorem pw_100 {b : Int} (h : nd (cN b) ≠ 0) (h2 : cX b < 0 ∨ 2 < (nd (cN b) : Int) + cX b) : pw b = 100 := by unfold pw; rw [if_neg (fun e => h (by rw [e]; exact nz_0)), if_pos h2]
theorem pw_v {b : Int} (h : nd (cN b) ≠ 0) (h2 : ¬ (cX b < 0 ∨ 2 < (nd (cN b) : Int) + cX b)) : pw b = sgn b * (dgt (cN b) (cX b) 0 + 10 * dgt (cN b) (cX b) 1) := by unfold pw; rw [if_neg (fun e => h (by rw [e]; exact nz_0)), if_neg h2, (pw_dig (by omega) (by omega)).1]
theorem vB_c {c : Nat} {X sg : Int} (hc : c % 10 ≠ 0) (hs : sg = 1 ∨ sg = -1) (h1 : nd c ≤ 31) (h2 : -140 ≤ X) (h3 : X + nd c ≤ 110) : vB (sg * ((c : Int) * 10 ^ (X + 300).toNat)) := by
  obtain ⟨v1, v2, v3⟩ := val_c hc (show 0 ≤ X + 300 by omega) hs
  unfold vB; rw [v1, v2]; exact ⟨h1, h2, h3⟩
theorem cutC_nd {P N : Nat} : nd (cutC P N) ≤ P := by
  have h5 := nd_div (n := N) (k := nd N - P)
  have h6 := nd_div (n := N / 10 ^ (nd N - P)) (k := tz (N / 10 ^ (nd N - P)))
  unfold cutC
  omega
theorem fin_vB {P N : Nat} {x sg : Int} (hP : 1 ≤ P ∧ P ≤ 31) (hs : N ≠ 0 → sg = 1 ∨ sg = -1) : vB (fin P N x sg).2 := by
  unfold fin
  split
  · rename_i hz
    show vB (sg * cuv P N x)
    unfold cuv
    split
    · rw [Int.mul_zero]; exact vB_0
    · rename_i h
      have h0 : N ≠ 0 := fun e => h (Or.inl e)
      have h1 : -99 ≤ (nd N : Int) + x - 1 := by
        rcases (show (nd N : Int) + x - 1 < -99 ∨ -99 ≤ (nd N : Int) + x - 1 by omega) with g | g
        · exact absurd (Or.inr g) h
        · exact g
      have h2 : (nd N : Int) + x - 1 < 99 := by
        rcases (show (nd N : Int) + x - 1 < 99 ∨ 99 ≤ (nd N : Int) + x - 1 by omega) with g | g
        · exact g
        · unfold cuz at hz; rw [if_pos ⟨h0, g⟩] at hz; cases hz
      have hb := (cut_nd (x := x) (N := N) hP.1).2 h0
      have hc := cutC_nd (P := P) (N := N)
      exact vB_c (cutC_ne hP.1 h0) (hs h0) (by omega) (by omega) (by omega)
  · exact vB_0
theorem sAdd_vB {P : Nat} {a b : Int} (hP : 1 ≤ P ∧ P ≤ 31) : vB (sAdd P a b).2 := fin_vB hP (fun h => sgn_nz (fun e => h (by rw [e]; rfl)))
theorem sg_mul {a b : Int} (h1 : a ≠ 0) (h2 : b ≠ 0) : sgn a * sgn b = 1 ∨ sgn a * sgn b = -1 := by rcases sgn_nz h1 with e | e <;> rcases sgn_nz h2 with f | f <;> rw [e, f] <;> decide
theorem sMul_vB {P : Nat} {a b : Int} (hP : 1 ≤ P ∧ P ≤ 31) : vB (sMul P a b).2 := fin_vB hP (fun h => sg_mul (fun e => h (by rw [e]; simp)) (fun e => h (by rw [e]; simp)))
theorem sDiv_vB {P : Nat} {a b : Int} (hP : 1 ≤ P ∧ P ≤ 31) : vB (sDiv P a b).2 := by
  unfold sDiv
  split
  · exact vB_0
  · rename_i hb
    exact fin_vB hP (fun h => sg_mul (fun e => h (by rw [e]; simp)) hb)
theorem one_st : st (10 ^ 300) = 1 ∧ tz (10 ^ 300) = 300 := by
  have h1 := st_mul (n := 1) (by decide) 300
  have h2 := tz_mul (n := 1) (by decide) 300
  rw [Nat.one_mul] at h1 h2
  have e : tz 1 = 0 := tz_n (by decide)
  refine ⟨by rw [h1]; unfold st; rw [e], by rw [h2, e]⟩
theorem one_nz : one300 ≠ 0 := Int.ne_of_gt (p10 300)
theorem one_abs : one300.natAbs = 10 ^ 300 := by unfold one300; rw [← p10c]; exact Int.natAbs_natCast _
theorem one_c : cN one300 = 1 ∧ cX one300 = 0 ∧ sgn one300 = 1 := by
  refine ⟨?_, ?_, ?_⟩
  · unfold cN; rw [one_abs]; exact one_st.1
  · unfold cX; rw [if_neg one_nz, one_abs, one_st.2]; decide
  · unfold sgn
    have : (0 : Int) < one300 := p10 300
    rw [if_neg (by omega), if_pos this]
theorem nd_1 : nd 1 = 1 := nd_uniq (k := 0) (by decide) (by decide)
theorem one_rv {M : Nat → Int → Int} {r : Int} (h : Rg M r (nd (1 : Int).natAbs) (1 : Int).natAbs (if (1 : Int) = 0 then 0 else 0) (sgn 1)) : Rv M r one300 := by
  unfold Rv; rw [one_c.1, one_c.2.1, one_c.2.2]; exact h
theorem one_vB : vB one300 := by unfold vB; rw [one_c.1, one_c.2.1, nd_1]; decide
theorem sPowN_vB {P : Nat} {a : Int} (hP : 1 ≤ P ∧ P ≤ 31) (n : Nat) : vB (sPowN P a n).2 := by
  induction n with
  | zero => exact one_vB
  | succ n ih =>
    show vB (if (sPowN P a n).1 = 0 then sMul P (sPowN P a n).2 a else sPowN P a n).2
    split
    · exact sMul_vB hP
    · exact ih
theorem sPowN_s {P : Nat} {a : Int} {n : Nat} (h : (sPowN P a n).1 = 0) : sPowN P a (n + 1) = sMul P (sPowN P a n).2 a := if_pos h
theorem sPowN_stop {P : Nat} {a : Int} {n m : Nat} (h : (sPowN P a n).1 ≠ 0) (hm : n ≤ m) : sPowN P a m = sPowN P a n := by
  induction m with
  | zero => rw [show n = 0 by omega]
  | succ m ih =>
    by_cases e : n = m + 1
    · rw [e]
    · have h1 := ih (by omega)
      show (if (sPowN P a m).1 = 0 then _ else sPowN P a m) = _
      rw [h1, if_neg h]
theorem sPow_vB {P : Nat} {a b : Int} (hP : 1 ≤ P ∧ P ≤ 31) : vB (sPow P a b).2 := by
  unfold sPow
  split
  · exact vB_0
  · split
    · exact vB_0
    · split
      · exact sPowN_vB hP _
      · exact sDiv_vB hP
theorem sOp_vB {P : Nat} {op a b : Int} (hP : 1 ≤ P ∧ P ≤ 31) (ha : vB a) : vB (sOp P op a b).2 := by
  unfold sOp
  split
  · exact sAdd_vB hP
  · split
    · exact sAdd_vB hP
    · split
      · exact sMul_vB hP
      · split
        · exact sDiv_vB hP
        · split
          · exact sPow_vB hP
          · exact vB_neg ha
theorem Fr.rv {M M' : Nat → Int → Int} {r r' v : Int} (h : Fr M M' r) (hne : r' ≠ r) (hb : vB v) (hg : Rv M r' v) : Rv M' r' v := Fr.rg h hne (by have := hb.1; omega) hg
theorem FrO.rv {M M' : Nat → Int → Int} {r v : Int} (h : FrO M M') (hr : r = 3 ∨ r = 4) (hb : vB v) (hg : Rv M r v) : Rv M' r v := FrO.rg h hr (by have := hb.1; omega) hg
theorem fin_1 (P N : Nat) (x sg : Int) : (fin P N x sg).1 = 0 ∨ (fin P N x sg).1 = 1 := by unfold fin; split <;> simp
theorem sPowN_1 (P : Nat) (a : Int) (n : Nat) : (sPowN P a n).1 = 0 ∨ (sPowN P a n).1 = 1 := by
  induction n with
  | zero => exact Or.inl rfl
  | succ n ih =>
    show (if (sPowN P a n).1 = 0 then sMul P (sPowN P a n).2 a else sPowN P a n).1 = 0 ∨ _ = 1
    show (if (sPowN P a n).1 = 0 then sMul P (sPowN P a n).2 a else sPowN P a n).1 = 0 ∨ (if (sPowN P a n).1 = 0 then sMul P (sPowN P a n).2 a else sPowN P a n).1 = 1
    split
    · exact fin_1 _ _ _ _
    · exact ih
theorem sPow_1 {P : Nat} {a b : Int} (h : pw b = 100 ∨ (pw b = 0 ∧ a = 0)) : sPow P a b = (1, 0) := by unfold sPow; rw [if_pos h]
theorem sPow_2 {P : Nat} {a b : Int} (h : pw b < 0) (h2 : a = 0) : sPow P a b = (2, 0) := by unfold sPow; rw [if_neg (fun q => by omega), if_pos ⟨h, h2⟩]
theorem sPow_r {P : Nat} {a b : Int} (h : pw b ≠ 100) (h2 : a = 0 → 0 < pw b) (h3 : 0 ≤ pw b ∨ (sPowN P a (pw b).natAbs).1 ≠ 0) : sPow P a b = sPowN P a (pw b).natAbs := by
  unfold sPow
  rw [if_neg (fun q => q.elim h (fun q => by have := h2 q.2; omega)), if_neg (fun q => by have := h2 q.2; omega), if_pos h3]
theorem sPow_d {P : Nat} {a b : Int} (h2 : a ≠ 0) (h3 : pw b < 0) (h4 : (sPowN P a (pw b).natAbs).1 = 0) : sPow P a b = sDiv P one300 (sPowN P a (pw b).natAbs).2 := by
  unfold sPow
  rw [if_neg (fun q => q.elim (fun q => by omega) (fun q => h2 q.2)), if_neg (fun q => h2 q.2), if_neg (fun q => q.elim (fun q => by omega) (fun q => q h4))]
theorem res_r {M : Nat → Int → Int} {z : Int} (h : z ≠ 0) (h22 : 0 ≤ M 2 2 ∧ M 2 2 ≤ 320) : resOk M z (z, 0) := ⟨rfl, fun e => absurd e h, h22⟩
