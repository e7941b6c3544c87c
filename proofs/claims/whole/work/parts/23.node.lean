-- NODES OF THE REFERENCE (own work)
/-- node n is raised as code, or holds v -/
def Nv (M : Nat → Int → Int) (n code v : Int) : Prop := M 10 n = code ∧ M 7 n = nd (cN v) ∧ M 8 n = cX v ∧ M 9 n = sgn v ∧ dOk (M 6) (31 * n) (nd (cN v)) ∧ dv (M 6) (31 * n) (nd (cN v)) = cN v
def LdI (M0 M : Nat → Int → Int) (n r k : Int) : Prop := Fr M0 M r ∧ (M 2 = M0 2 ∧ M 3 = M0 3 ∧ M 4 = M0 4) ∧ ∀ q : Int, 0 ≤ q → q < k → M 1 (320 * r + q) = M0 6 (31 * n + q)
theorem LdI.start (M : Nat → Int → Int) (n r : Int) : LdI M M n r 0 := ⟨Fr.rf, ⟨rfl, rfl, rfl⟩, fun q h1 h2 => by omega⟩
theorem LdI.step {M0 M M1 : Nat → Int → Int} {n r k : Int} (h : LdI M0 M n r k) (hk : 0 ≤ k ∧ k < 320) (e : M1 = setA M 1 (320 * r + k) (M 6 (31 * n + k))) : LdI M0 M1 n r (k + 1) := by
  refine ⟨h.1.tr (Fr.d e hk), ?_, fun q h1 h2 => ?_⟩
  · subst e
    exact ⟨(setA_n (by decide)).trans h.2.1.1, (setA_n (by decide)).trans h.2.1.2.1, (setA_n (by decide)).trans h.2.1.2.2⟩
  · subst e
    rw [setA_s]
    by_cases hq : q = k
    · subst hq
      rw [uI_s, h.1.1 6 (by decide)]
    · rw [uI_n (by omega)]
      exact h.2.2 q h1 (by omega)
theorem LdI.fin {M0 M M1 M2 M3 : Nat → Int → Int} {n r v code : Int} (h : LdI M0 M n r (nd (cN v))) (hg : Nv M0 n code v) (e1 : M1 = setA M 2 r (M 7 n)) (e2 : M2 = setA M1 3 r (M1 8 n)) (e3 : M3 = setA M2 4 r (M2 9 n)) : Fr M0 M3 r ∧ Rv M3 r v := by
  have hF := h.1.tr ((Fr.s e1 (by decide)).tr ((Fr.s e2 (by decide)).tr (Fr.s e3 (by decide))))
  obtain ⟨g0, g1, g2, g3, g4, g5⟩ := hg
  have k7 := h.1.1 7 (by decide)
  have k8 := h.1.1 8 (by decide)
  have k9 := h.1.1 9 (by decide)
  have d1 : M3 1 = M 1 := by subst e3 e2 e1; simp [setA]
  refine ⟨hF, ?_, ?_, ?_, ?_, ?_⟩
  · subst e3 e2 e1; simp [setA, uI]; rw [k7]; exact g1
  · subst e3 e2 e1; simp [setA, uI]; rw [k8]; exact g2
  · subst e3 e2 e1; simp [setA, uI]; rw [k9]; exact g3
  · intro k h1 h2
    rw [d1, h.2.2 k h1 h2]; exact g4 k h1 h2
  · rw [d1, ← g5]
    exact dv_congr (fun k h1 h2 => h.2.2 k h1 h2)
/-- only node n differs -/
def FrN (M M' : Nat → Int → Int) (n : Int) : Prop := (∀ k : Nat, k ≤ 5 ∨ 11 ≤ k → M' k = M k) ∧ (∀ q : Int, q < 31 * n ∨ 31 * n + 31 ≤ q → M' 6 q = M 6 q) ∧ (∀ q : Int, q ≠ n → M' 7 q = M 7 q ∧ M' 8 q = M 8 q ∧ M' 9 q = M 9 q ∧ M' 10 q = M 10 q)
theorem FrN.nv {M M' : Nat → Int → Int} {n n' code v : Int} (h : FrN M M' n) (hne : n' ≠ n) (hb : vB v) (hg : Nv M n' code v) : Nv M' n' code v := by
  obtain ⟨g0, g1, g2, g3, g4, g5⟩ := hg
  obtain ⟨q7, q8, q9, q10⟩ := h.2.2 n' hne
  have hb1 := hb.1
  have ed : ∀ k : Int, 0 ≤ k → k < nd (cN v) → M' 6 (31 * n' + k) = M 6 (31 * n' + k) := fun k a b => h.2.1 _ (by omega)
  refine ⟨q10.trans g0, q7.trans g1, q8.trans g2, q9.trans g3, fun k a b => by rw [ed k a b]; exact g4 k a b, ?_⟩
  rw [← g5]
  exact dv_congr ed
def KpI (M0 M : Nat → Int → Int) (n k : Int) : Prop := (∀ j, j ≠ 6 → M j = M0 j) ∧ (∀ q : Int, 0 ≤ q → q < k → M 6 (31 * n + q) = M0 1 (640 + q)) ∧ ∀ q : Int, q < 31 * n ∨ 31 * n + 31 ≤ q → M 6 q = M0 6 q
theorem KpI.start (M : Nat → Int → Int) (n : Int) : KpI M M n 0 := ⟨fun _ _ => rfl, fun q h1 h2 => by omega, fun _ _ => rfl⟩
theorem KpI.step {M0 M M1 : Nat → Int → Int} {n k : Int} (h : KpI M0 M n k) (hk : 0 ≤ k ∧ k < 31) (e : M1 = setA M 6 (31 * n + k) (M 1 (640 + k))) : KpI M0 M1 n (k + 1) := by
  obtain ⟨h1, h2, h3⟩ := h
  subst e
  refine ⟨fun j hj => (setA_n hj).trans (h1 j hj), fun q a b => ?_, fun q a => ?_⟩
  · rw [setA_s]
    by_cases hq : q = k
    · rw [hq, uI_s, h1 1 (by decide)]
    · rw [uI_n (by omega)]; exact h2 q a (by omega)
  · rw [setA_s, uI_n (by omega)]; exact h3 q a
theorem KpI.fin {M0 Ma M M1 M2 M3 : Nat → Int → Int} {n v : Int} (ea : Ma = setA M0 10 n 0) (h : KpI Ma M n (nd (cN v))) (hg : Rv M0 2 v) (e1 : M1 = setA M 7 n (M 2 2)) (e2 : M2 = setA M1 8 n (M1 3 2)) (e3 : M3 = setA M2 9 n (M2 4 2)) : FrN M0 M3 n ∧ Nv M3 n 0 v := by
  obtain ⟨h1, h2, h3⟩ := h
  obtain ⟨g1, g2, g3, g4, g5⟩ := hg
  have d6 : M3 6 = M 6 := by subst e3 e2 e1; simp [setA]
  have a1 : Ma 1 = M0 1 := by subst ea; simp [setA]
  have a6 : Ma 6 = M0 6 := by subst ea; simp [setA]
  have oth : ∀ k, k ≠ 6 → k ≠ 7 → k ≠ 8 → k ≠ 9 → k ≠ 10 → M3 k = M0 k := fun k b6 b7 b8 b9 b10 => by
    rw [e3, setA_n b9, e2, setA_n b8, e1, setA_n b7, h1 k b6, ea, setA_n b10]
  have hd : ∀ k : Int, 0 ≤ k → k < nd (cN v) → M3 6 (31 * n + k) = M0 1 (320 * 2 + k) := fun k a b => by rw [d6, h2 k a b, a1, show (320 * 2 : Int) = 640 by decide]
  refine ⟨⟨fun k hk => oth k (by omega) (by omega) (by omega) (by omega) (by omega), fun q hq => by rw [d6, h3 q hq, a6], fun q hq => ?_⟩, ?_, ?_, ?_, ?_, ?_, ?_⟩
  · have s7 : M3 7 q = M0 7 q := by rw [e3, setA_n (by decide), e2, setA_n (by decide), e1, setA_s, uI_n hq, h1 7 (by decide), ea, setA_n (by decide)]
    have s8 : M3 8 q = M0 8 q := by rw [e3, setA_n (by decide), e2, setA_s, uI_n hq, e1, setA_n (by decide), h1 8 (by decide), ea, setA_n (by decide)]
    have s9 : M3 9 q = M0 9 q := by rw [e3, setA_s, uI_n hq, e2, setA_n (by decide), e1, setA_n (by decide), h1 9 (by decide), ea, setA_n (by decide)]
    have s10 : M3 10 q = M0 10 q := by rw [e3, setA_n (by decide), e2, setA_n (by decide), e1, setA_n (by decide), h1 10 (by decide), ea, setA_s, uI_n hq]
    exact ⟨s7, s8, s9, s10⟩
  · rw [e3, setA_n (by decide), e2, setA_n (by decide), e1, setA_n (by decide), h1 10 (by decide), ea, setA_s, uI_s]
  · rw [e3, setA_n (by decide), e2, setA_n (by decide), e1, setA_s, uI_s, h1 2 (by decide), ea, setA_n (by decide)]; exact g1
  · rw [e3, setA_n (by decide), e2, setA_s, uI_s, e1, setA_n (by decide), h1 3 (by decide), ea, setA_n (by decide)]; exact g2
  · rw [e3, setA_s, uI_s, e2, setA_n (by decide), e1, setA_n (by decide), h1 4 (by decide), ea, setA_n (by decide)]; exact g3
  · intro k a b
    rw [hd k a b]; exact g4 k a b
  · rw [dv_congr hd]; exact g5
theorem FrN.r {M M' : Nat → Int → Int} {n x : Int} (e : M' = setA M 10 n x) : FrN M M' n := by
  subst e
  exact ⟨fun k h => setA_n (by omega), fun q _ => by rw [setA_n (by decide)], fun q h => ⟨by rw [setA_n (by decide)], by rw [setA_n (by decide)], by rw [setA_n (by decide)], by rw [setA_s, uI_n h]⟩⟩
theorem Nv.r {M M' : Nat → Int → Int} {n x : Int} (e : M' = setA M 10 n x) (h7 : M 7 n = 0) (h8 : M 8 n = 0) (h9 : M 9 n = 0) : Nv M' n x 0 := by
  subst e
  unfold Nv
  rw [cN_0, nd_0]
  refine ⟨by rw [setA_s, uI_s], by rw [setA_n (by decide)]; exact h7, by rw [setA_n (by decide)]; exact h8, by rw [setA_n (by decide)]; exact h9, fun k a b => by omega, rfl⟩
