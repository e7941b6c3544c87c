-- VALUES OF OPERATIONS (own work)
theorem cut_fin0 {M : Nat → Int → Int} {r x sg z : Int} {P N : Nat} (hc : cutOk M r P N x sg z) (hP : 1 ≤ P ∧ P ≤ 31) (hs : N ≠ 0 → sg = 1 ∨ sg = -1) (hx : -500 ≤ x) : z = cuz N x ∧ Rv M r (sg * cuv P N x) := by
  have h := cut_fin (K := 500) hc hP hs (by omega) rfl
  have ez := cuz_mul (N := N) (x := x) (x + (500 : Nat)).toNat
  have ev := cuv_mul (P := P) (N := N) (x := x) (x + (500 : Nat)).toNat
  rw [show x - ((x + (500 : Nat)).toNat : Int) = -(500 : Nat) by omega] at ez ev
  rw [ez, ev] at h
  exact h
theorem sgn_in (v : Int) : -1 ≤ sgn v ∧ sgn v ≤ 1 := by unfold sgn; split; omega; split <;> omega
theorem sgn_0 : sgn 0 = 0 := by decide
theorem sgn_nz {v : Int} (h : v ≠ 0) : sgn v = 1 ∨ sgn v = -1 := by unfold sgn; split; omega; split <;> omega
theorem sgn_abs (v : Int) : sgn v * (v.natAbs : Int) = v := by
  unfold sgn
  split
  · omega
  · split
    · omega
    · rw [show v = 0 by omega]; rfl
theorem cN_nz {v : Int} (h : v ≠ 0) : cN v ≠ 0 := fun e => by
  have h1 : v.natAbs ≠ 0 := by omega
  have h2 := st_back h1
  unfold cN at e
  rw [e] at h2
  omega
theorem cN_z {v : Int} : cN v = 0 ↔ v = 0 := ⟨fun h => Classical.byContradiction fun q => cN_nz q h, fun h => by subst h; exact cN_0⟩
theorem nd_z {n : Nat} : nd n = 0 ↔ n = 0 := ⟨fun h => Classical.byContradiction fun q => by rw [nd_pos q] at h; omega, fun h => by subst h; exact nd_0⟩
theorem cN_back {v : Int} (h : v ≠ 0) : cN v * 10 ^ (cX v + 300).toNat = v.natAbs := by
  unfold cN cX
  rw [if_neg h, show ((tz v.natAbs : Int) - 300 + 300).toNat = tz v.natAbs by omega]
  exact st_back (by omega)
theorem cX_ge {v : Int} : -300 ≤ cX v := by unfold cX; split <;> omega
theorem vI_back (v : Int) : vI (sgn v) (cN v) (cX v) = v := by
  by_cases h : v = 0
  · subst h; unfold vI; rw [sgn_0]; simp
  · unfold vI
    rw [Int.mul_assoc, ← p10c, ← Int.natCast_mul, cN_back h, sgn_abs]
/-- bounds of the values that come up -/
def vB (v : Int) : Prop := nd (cN v) ≤ 31 ∧ -140 ≤ cX v ∧ cX v + nd (cN v) ≤ 110
theorem cuv0 (P : Nat) (x : Int) : cuv P 0 x = 0 := by unfold cuv; simp
theorem add_res {M : Nat → Int → Int} {z a b : Int} {P : Nat} (hP : 1 ≤ P ∧ P ≤ 31) (h : ∃ (N : Nat) (x sg : Int), (N ≠ 0 → sg = 1 ∨ sg = -1) ∧ vI sg N x = vI (sgn a) (cN a) (cX a) + vI (sgn b) (cN b) (cX b) ∧ -150 ≤ x ∧ cutOk M 2 P N x sg z) : resOk M z (sAdd P a b) := by
  obtain ⟨N, x, sg, hs, hv, hx, hc⟩ := h
  rw [vI_back, vI_back] at hv
  have h1 := cut_fin (K := 300) hc hP hs (by omega) rfl
  unfold sAdd
  generalize a + b = w at *
  by_cases h0 : N = 0
  · subst h0
    have hw : w = 0 := by rw [← hv]; unfold vI; simp
    subst hw
    rw [Nat.zero_mul, cuv0, Int.mul_zero] at h1
    exact fin_ok h1.1 (by rw [show (0 : Int).natAbs = 0 from rfl, cuv0, Int.mul_zero]; exact h1.2) (cut22 hc hP.2)
  · have h2 : w.natAbs = N * 10 ^ (x + 300).toNat := by
      rw [← hv]; unfold vI
      rw [Int.mul_assoc, Int.natAbs_mul, ← p10c, ← Int.natCast_mul, Int.natAbs_natCast]
      rcases hs h0 with h | h <;> rw [h] <;> simp
    have h3 : (0 : Int) < (N : Int) * 10 ^ (x + 300).toNat := Int.mul_pos (by omega) (p10 _)
    have h4 : sgn w = sg := by
      rw [← hv]; unfold vI sgn; rw [Int.mul_assoc]
      rcases hs h0 with h | h <;> rw [h]
      · rw [Int.one_mul, if_neg (by omega), if_pos h3]
      · rw [if_pos (by omega)]
    refine fin_ok ?_ ?_ (cut22 hc hP.2)
    · rw [h2]; exact h1.1
    · rw [h2, h4]; exact h1.2
theorem mul_res {M : Nat → Int → Int} {z a b : Int} {P : Nat} (hP : 1 ≤ P ∧ P ≤ 31) (ha : vB a) (hb : vB b) (hc : cutOk M 2 P (cN a * cN b) (cX a + cX b) (sgn a * sgn b) z) : resOk M z (sMul P a b) := by
  have hs : cN a * cN b ≠ 0 → sgn a * sgn b = 1 ∨ sgn a * sgn b = -1 := fun h => by
    have h1 : a ≠ 0 := fun e => h (by rw [e, cN_0, Nat.zero_mul])
    have h2 : b ≠ 0 := fun e => h (by rw [e, cN_0, Nat.mul_zero])
    rcases sgn_nz h1 with e | e <;> rcases sgn_nz h2 with f | f <;> rw [e, f] <;> decide
  have h1 := cut_fin (K := 600) hc hP hs (by have := ha.2.1; have := hb.2.1; omega) rfl
  have e : cN a * cN b * 10 ^ (cX a + cX b + (600 : Nat)).toNat = (a * b).natAbs := by
    by_cases h0 : a = 0
    · subst h0; rw [cN_0]; simp
    · by_cases h2 : b = 0
      · subst h2; rw [cN_0]; simp
      · rw [Int.natAbs_mul, ← cN_back h0, ← cN_back h2]
        have g1 := cX_ge (v := a)
        have g2 := cX_ge (v := b)
        rw [show (cX a + cX b + (600 : Nat)).toNat = (cX a + 300).toNat + (cX b + 300).toNat by omega, Nat.pow_add]
        simp only [Nat.mul_assoc, Nat.mul_comm, Nat.mul_left_comm]
  rw [e] at h1
  exact fin_ok h1.1 h1.2 (cut22 hc hP.2)
theorem div_res {M : Nat → Int → Int} {z a b : Int} {P : Nat} (hP : 1 ≤ P ∧ P ≤ 31) (ha : vB a) (hb : vB b) (hc : (cN b = 0 ∧ z = 2 ∧ 0 ≤ M 2 2 ∧ M 2 2 ≤ 320) ∨ (cN b ≠ 0 ∧ cutOk M 2 P (cN a * 10 ^ (P + nd (cN b)) / cN b) (cX a - (P + nd (cN b) : Nat) - cX b) (sgn a * sgn b) z)) : resOk M z (sDiv P a b) := by
  unfold sDiv
  rcases hc with ⟨h0, hz, h22⟩ | ⟨h0, hc⟩
  · rw [if_pos (cN_z.mp h0)]
    exact ⟨hz, (fun h => by rw [hz] at h; cases h), h22⟩
  · have hb0 : b ≠ 0 := fun e => h0 (by rw [e, cN_0])
    rw [if_neg hb0]
    have h22 := cut22 hc hP.2
    obtain ⟨a1, a2, a3⟩ := ha
    obtain ⟨b1, b2, b3⟩ := hb
    by_cases ha0 : a = 0
    · subst ha0
      rw [cN_0, Nat.zero_mul, Nat.zero_div] at hc
      have h1 := cut_fin0 hc hP (fun h => absurd rfl h) (by rw [show cX 0 = 0 from rfl]; omega)
      rw [cuv0, Int.mul_zero] at h1
      refine fin_ok ?_ ?_ h22
      · rw [h1.1]; unfold cuz; simp
      · rw [show (0 : Int).natAbs = 0 from rfl, Nat.zero_mul, Nat.zero_div, cuv0, Int.mul_zero]; exact h1.2
    · have hs : cN a * 10 ^ (P + nd (cN b)) / cN b ≠ 0 → sgn a * sgn b = 1 ∨ sgn a * sgn b = -1 := fun _ => by
        rcases sgn_nz ha0 with e | e <;> rcases sgn_nz hb0 with f | f <;> rw [e, f] <;> decide
      have h1 := cut_fin0 hc hP hs (by omega)
      obtain ⟨i, hi⟩ : ∃ i : Nat, cX a - (P + nd (cN b) : Nat) - cX b + 400 = i := ⟨(cX a - (P + nd (cN b) : Nat) - cX b + 400).toNat, by omega⟩
      have hN1 : a.natAbs * 10 ^ 400 / b.natAbs / 10 ^ i = cN a * 10 ^ (P + nd (cN b)) / cN b := by
        rw [Nat.div_div_eq_div_mul, ← cN_back ha0, ← cN_back hb0, Nat.mul_assoc, ← Nat.pow_add, Nat.mul_assoc, ← Nat.pow_add]
        rw [show (cX a + 300).toNat + 400 = (P + nd (cN b)) + ((cX b + 300).toNat + i) by omega, Nat.pow_add, ← Nat.mul_assoc, Nat.mul_div_mul_right _ _ (p10N _)]
      have hge : P ≤ nd (cN a * 10 ^ (P + nd (cN b)) / cN b) := by
        have g1 : 10 ^ P ≤ cN a * 10 ^ (P + nd (cN b)) / cN b := by
          rw [Nat.le_div_iff_mul_le (Nat.pos_of_ne_zero h0), Nat.pow_add]
          have g2 := nd_lt (cN b)
          have g3 : 1 ≤ cN a := Nat.pos_of_ne_zero (cN_nz ha0)
          calc 10 ^ P * cN b ≤ 10 ^ P * 10 ^ nd (cN b) := Nat.mul_le_mul_left _ (Nat.le_of_lt g2)
            _ = 1 * (10 ^ P * 10 ^ nd (cN b)) := (Nat.one_mul _).symm
            _ ≤ cN a * (10 ^ P * 10 ^ nd (cN b)) := Nat.mul_le_mul_right _ g3
        rcases Nat.lt_or_ge (nd (cN a * 10 ^ (P + nd (cN b)) / cN b)) P with g | g
        · have g4 := nd_lt (cN a * 10 ^ (P + nd (cN b)) / cN b)
          have g5 : 10 ^ nd (cN a * 10 ^ (P + nd (cN b)) / cN b) ≤ 10 ^ P := Nat.pow_le_pow_right (by decide) (by omega)
          omega
        · exact g
      rw [← hN1] at h1 hge
      have h2 := cut_more (x := cX a - (P + nd (cN b) : Nat) - cX b) hP.1 hge
      rw [show cX a - (P + nd (cN b) : Nat) - cX b - (i : Int) = -400 by omega] at h2
      refine fin_ok ?_ ?_ h22
      · rw [h2.1]; exact h1.1
      · rw [h2.2]; exact h1.2
/-- the exponent of a power: 100 where there is none -/
def pw (b : Int) : Int := if b = 0 then 0 else if cX b < 0 ∨ 2 < (nd (cN b) : Int) + cX b then 100 else sgn b * ((cN b * 10 ^ (cX b).toNat : Nat) : Int)
theorem pw_dig {b : Int} (hx : 0 ≤ cX b) (ht : (nd (cN b) : Int) + cX b ≤ 2) : dgt (cN b) (cX b) 0 + 10 * dgt (cN b) (cX b) 1 = ((cN b * 10 ^ (cX b).toNat : Nat) : Int) ∧ cN b * 10 ^ (cX b).toNat < 100 := by
  have h1 := sc_lt (x := cX b) (low := 0) (h := 2) (nd_lt (cN b)) hx (by omega)
  rw [dgt_sh (low := 0) hx (by decide), dgt_sh (low := 0) hx (by decide)]
  rw [Int.sub_zero] at *
  generalize cN b * 10 ^ (cX b).toNat = N at *
  simp at *
  omega
theorem pw_in {b : Int} : -99 ≤ pw b ∧ pw b ≤ 100 := by
  unfold pw
  split
  · omega
  · split
    · omega
    · have h := (pw_dig (b := b) (by omega) (by omega)).2
      have h2 := sgn_in b
      rcases (show sgn b = -1 ∨ sgn b = 0 ∨ sgn b = 1 by omega) with e | e | e <;> rw [e] <;> omega
def one300 : Int := 10 ^ 300
def sPowN (P : Nat) (a : Int) : Nat → Int × Int
  | 0 => (0, one300)
  | n + 1 => if (sPowN P a n).1 = 0 then sMul P (sPowN P a n).2 a else sPowN P a n
def sPow (P : Nat) (a b : Int) : Int × Int := if pw b = 100 ∨ (pw b = 0 ∧ a = 0) then (1, 0) else if pw b < 0 ∧ a = 0 then (2, 0) else if 0 ≤ pw b ∨ (sPowN P a (pw b).natAbs).1 ≠ 0 then sPowN P a (pw b).natAbs else sDiv P one300 (sPowN P a (pw b).natAbs).2
/-- an operation -/
def sOp (P : Nat) (op a b : Int) : Int × Int := if op = 0 then sAdd P a b else if op = 1 then sAdd P a (-b) else if op = 2 then sMul P a b else if op = 3 then sDiv P a b else if op = 4 then sPow P a b else (0, -a)
/-- registers 3 and 4 and the arrays from 6 on are as they were -/
def FrO (M M' : Nat → Int → Int) : Prop := (∀ k : Nat, k = 0 ∨ 6 ≤ k → M' k = M k) ∧ (∀ q : Int, 960 ≤ q → q < 1600 → M' 1 q = M 1 q) ∧ (∀ q : Int, q = 3 ∨ q = 4 → M' 2 q = M 2 q ∧ M' 3 q = M 3 q ∧ M' 4 q = M 4 q)
theorem FrO.rf {M : Nat → Int → Int} : FrO M M := ⟨fun _ _ => rfl, fun _ _ _ => rfl, fun _ _ => ⟨rfl, rfl, rfl⟩⟩
theorem FrO.tr {M M' M'' : Nat → Int → Int} (h1 : FrO M M') (h2 : FrO M' M'') : FrO M M'' := ⟨fun k h => (h2.1 k h).trans (h1.1 k h), fun q a b => (h2.2.1 q a b).trans (h1.2.1 q a b), fun q h => ⟨((h2.2.2 q h).1).trans (h1.2.2 q h).1, ((h2.2.2 q h).2.1).trans (h1.2.2 q h).2.1, ((h2.2.2 q h).2.2).trans (h1.2.2 q h).2.2⟩⟩
theorem Fr.o {M M' : Nat → Int → Int} {r : Int} (h : Fr M M' r) (hr : r ≤ 2 ∨ 5 ≤ r) : FrO M M' := ⟨h.1, fun q a b => h.2.1 q (by omega), fun q hq => h.2.2 q (by omega)⟩
theorem FrO.rg {M M' : Nat → Int → Int} {r : Int} {n N : Nat} {x sg : Int} (h : FrO M M') (hr : r = 3 ∨ r = 4) (hn : n ≤ 320) (hg : Rg M r n N x sg) : Rg M' r n N x sg := by
  obtain ⟨h1, h2, h3, h4, h5⟩ := hg
  have e := h.2.2 r hr
  have ed : ∀ k : Int, 0 ≤ k → k < n → M' 1 (320 * r + k) = M 1 (320 * r + k) := fun k a b => h.2.1 _ (by omega) (by omega)
  refine ⟨e.1.trans h1, e.2.1.trans h2, e.2.2.trans h3, fun k a b => by rw [ed k a b]; exact h4 k a b, ?_⟩
  rw [← h5]
  exact dv_congr ed
theorem Rv.neg {M M1 : Nat → Int → Int} {r v y : Int} (h : Rv M r v) (e : M1 = setA M 4 r y) (hy : y = - sgn v) : Rv M1 r (-v) := by
  have h1 : cN (-v) = cN v := by unfold cN; rw [Int.natAbs_neg]
  have h2 : cX (-v) = cX v := by unfold cX; rw [Int.natAbs_neg]; by_cases h : v = 0 <;> simp [h]
  have h3 : sgn (-v) = - sgn v := by unfold sgn; (repeat' split) <;> omega
  obtain ⟨g1, g2, g3, g4, g5⟩ := h
  have d1 : M1 1 = M 1 := by subst e; simp [setA]
  unfold Rv
  rw [h1, h2, h3]
  refine ⟨?_, ?_, ?_, ?_, ?_⟩
  · subst e; simp [setA]; exact g1
  · subst e; simp [setA]; exact g2
  · subst e; simp [setA, uI]; exact hy
  · rw [d1]; exact g4
  · rw [d1]; exact g5
theorem vB_0 : vB 0 := by unfold vB; rw [cN_0, nd_0]; decide
theorem vB_neg {v : Int} (h : vB v) : vB (-v) := by
  have h1 : cN (-v) = cN v := by unfold cN; rw [Int.natAbs_neg]
  have h2 : cX (-v) = cX v := by unfold cX; rw [Int.natAbs_neg]; by_cases h : v = 0 <;> simp [h]
  unfold vB; rw [h1, h2]; exact h
