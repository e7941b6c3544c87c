-- STATEMENTS (own work)
def Fr3 (M M' : Nat → Int → Int) : Prop := (∀ k : Nat, k = 0 ∨ 6 ≤ k → M' k = M k) ∧ (∀ q : Int, 960 ≤ q → q < 1280 → M' 1 q = M 1 q) ∧ (M' 2 3 = M 2 3 ∧ M' 3 3 = M 3 3 ∧ M' 4 3 = M 4 3)
theorem Fr3.rf {M : Nat → Int → Int} : Fr3 M M := ⟨fun _ _ => rfl, fun _ _ _ => rfl, rfl, rfl, rfl⟩
theorem Fr3.tr {M M' M'' : Nat → Int → Int} (h1 : Fr3 M M') (h2 : Fr3 M' M'') : Fr3 M M'' := ⟨fun k h => (h2.1 k h).trans (h1.1 k h), fun q a b => (h2.2.1 q a b).trans (h1.2.1 q a b), (h2.2.2.1).trans h1.2.2.1, (h2.2.2.2.1).trans h1.2.2.2.1, (h2.2.2.2.2).trans h1.2.2.2.2⟩
theorem Fr.o3 {M M' : Nat → Int → Int} {r : Int} (h : Fr M M' r) (hr : r ≠ 3) : Fr3 M M' := ⟨h.1, fun q a b => h.2.1 q (by omega), h.2.2 3 (by omega)⟩
theorem FrO.o3 {M M' : Nat → Int → Int} (h : FrO M M') : Fr3 M M' := ⟨h.1, fun q a b => h.2.1 q (by omega) (by omega), h.2.2 3 (by decide)⟩
theorem Fr3.rv {M M' : Nat → Int → Int} {v : Int} (h : Fr3 M M') (hb : vB v) (hg : Rv M 3 v) : Rv M' 3 v := by
  obtain ⟨g1, g2, g3, g4, g5⟩ := hg
  have hb1 := hb.1
  have ed : ∀ k : Int, 0 ≤ k → k < nd (cN v) → M' 1 (320 * 3 + k) = M 1 (320 * 3 + k) := fun k a b => h.2.1 _ (by omega) (by omega)
  refine ⟨h.2.2.1.trans g1, h.2.2.2.1.trans g2, h.2.2.2.2.trans g3, fun k a b => by rw [ed k a b]; exact g4 k a b, ?_⟩
  rw [← g5]
  exact dv_congr ed
/-- the value that a receiver holds -/
def hV (h s : Int) : Int := h * 10 ^ (300 - s).toNat
theorem whole_rw {M : Nat → Int → Int} {r h s : Int} (hg : Rg M r (nd h.natAbs) h.natAbs (if h = 0 then 0 else 0 - s) (sgn h)) (hs : 0 ≤ s ∧ s ≤ 18) (hj : inJ h) : Rw M r (hV h s) := by
  have h19 := nd19 hj
  have hi := sgn_in h
  refine ⟨_, _, _, _, hg, ?_, by omega, by split <;> omega, ?_, hi.1, hi.2, fun q => ?_, fun q => sgn_nz (fun e => q (by rw [e]; rfl))⟩
  · unfold vI hV
    by_cases h0 : h = 0
    · subst h0; simp
    · rw [if_neg h0, sgn_abs, show (0 - s + 300).toNat = (300 - s).toNat by omega]
  · by_cases h0 : h = 0
    · subst h0; rw [if_pos rfl]; simp [nd_0]
    · rw [if_neg h0]; omega
  · intro e; exact q (by rw [e]; exact nd_0)
def giveS (P : Nat) (kind x : Int) (h s : Int) : Int × Int := if kind = 0 then (0, x) else sOp P (kind - 1) (hV h s) x
theorem giveS_nd {P : Nat} {kind x h s : Int} (hP : 1 ≤ P ∧ P ≤ 31) (hk : 0 ≤ kind ∧ kind ≤ 4) (hx : vB x) : ndOk (giveS P kind x h s) := by
  unfold giveS
  split
  · exact ⟨Int.le_refl _, (by decide : (0 : Int) ≤ 2), hx, fun h => absurd rfl h⟩
  · rename_i h0
    unfold sOp
    split
    · exact sAdd_nd hP
    · split
      · exact sAdd_nd hP
      · split
        · exact sMul_nd hP
        · split
          · exact sDiv_nd hP
          · exfalso; omega
theorem held_in {q : Rec6} (h : rcOk q) : inJ q.2.2.2.1 ∧ q.2.2.2.1.natAbs < 10 ^ 18 := by
  have h1 := h.2.2.2.2.2.2.1
  have h2 := h.1
  have h3 := h.2.1
  have h4 : 10 ^ q.1.toNat ≤ 10 ^ 18 := Nat.pow_le_pow_right (by decide) (by omega)
  have h5 : (10 : Nat) ^ 18 = 1000000000000000000 := by decide
  omega
/-- y cut to whole units of 10^-s -/
def trV (y s : Int) : Int := sgn y * (uW y s : Int) * 10 ^ (300 - s).toNat
theorem tr_same {y s : Int} (h : uR y s = 0) : trV y s = y := by
  unfold trV
  rw [Int.mul_assoc, ← p10c, ← Int.natCast_mul]
  have : uW y s * 10 ^ (300 - s).toNat = y.natAbs := by
    unfold uW uR uU at *
    exact Nat.div_mul_cancel (Nat.dvd_of_mod_eq_zero h)
  rw [this, sgn_abs]
theorem tr_zero {y s : Int} (hs : 0 ≤ s ∧ s ≤ 18) (h : (nd (cN y) : Int) + cX y + s ≤ 0) : trV y s = 0 := by
  have h1 := uW_lt (h := 0) hs h
  unfold trV
  rw [show uW y s = 0 by simpa using h1]
  simp
theorem tr_rw {M : Nat → Int → Int} {y s : Int} {d : Nat} (hs : 0 ≤ s ∧ s ≤ 18) (hb : vB y) (hd : (d : Int) = -s - cX y) (hn : nd (cN y) - d ≠ 0) (hg : Rg M 1 (nd (cN y) - d) (cN y / 10 ^ d) (cX y + d) (sgn y)) : Rw M 1 (trV y s) := by
  have hb1 := hb.1
  have hi := sgn_in y
  have hy : y ≠ 0 := fun e => hn (by rw [e, nz_0]; omega)
  have hnd := nd_div (n := cN y) (k := d)
  refine ⟨_, _, _, _, hg, ?_, by omega, by have := hb.2.1; omega, by have := hb.2.2; omega, hi.1, hi.2, fun _ e => hn (by rw [← hnd, e]; exact nd_0), fun _ => sgn_nz hy⟩
  unfold vI trV
  have h1 := cX_ge (v := y)
  have e1 : uW y s = cN y / 10 ^ d := by
    unfold uW uU
    rw [← cN_back hy, show (300 - s).toNat = d + (cX y + 300).toNat by omega, Nat.pow_add, Nat.mul_div_mul_right _ _ (p10N _)]
  rw [e1, show (cX y + (d : Int) + 300).toNat = (300 - s).toNat by omega]
def sgv (v : Int) (n : Nat) : Int := if v < 0 then -(n : Int) else (n : Int)
def restS (P : Nat) (x y h s : Int) : Int := if (sMul P x (trV y s)).1 ≠ 0 then 0 else if (sAdd P (hV h s) (-(sMul P x (trV y s)).2)).1 ≠ 0 then 0 else sgv (sAdd P (hV h s) (-(sMul P x (trV y s)).2)).2 (uW (sAdd P (hV h s) (-(sMul P x (trV y s)).2)).2 s % 10 ^ 18)
theorem rW_0 {v s : Int} : rW 0 v s = uW v s := by
  have : rUp 0 v s = 0 := by unfold rUp; (repeat' split) <;> simp_all
  unfold rW; rw [this]; rfl
