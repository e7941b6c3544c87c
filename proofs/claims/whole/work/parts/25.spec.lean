-- THE SPECIFICATION'S STATE (own work): precision, nodes, receivers, what was raised latest
abbrev Rec6 : Type := Int × Int × Int × Int × Int × Int
abbrev Sg : Type := Nat × Nat × (Nat → Int × Int) × Nat × (Nat → Rec6) × Int
def sP (σ : Sg) : Nat := σ.1
def sC (σ : Sg) : Nat := σ.2.1
def sN (σ : Sg) : Nat → Int × Int := σ.2.2.1
def sR (σ : Sg) : Nat := σ.2.2.2.1
def sQ (σ : Sg) : Nat → Rec6 := σ.2.2.2.2.1
def sL (σ : Sg) : Int := σ.2.2.2.2.2
def ndOk (w : Int × Int) : Prop := 0 ≤ w.1 ∧ w.1 ≤ 2 ∧ vB w.2 ∧ (w.1 ≠ 0 → w.2 = 0)
def rcOk (q : Rec6) : Prop := 1 ≤ q.1 ∧ q.1 ≤ 18 ∧ 0 ≤ q.2.1 ∧ q.2.1 ≤ q.1 ∧ 0 ≤ q.2.2.1 ∧ q.2.2.1 ≤ 7 ∧ q.2.2.2.1.natAbs < 10 ^ q.1.toNat ∧ q.2.2.2.2.1.natAbs < 10 ^ 18 ∧ (q.2.2.2.2.2 = 0 ∨ q.2.2.2.2.2 = 1)
def Rcv (M : Nat → Int → Int) (r : Int) (q : Rec6) : Prop := M 11 r = q.1 ∧ M 12 r = q.2.1 ∧ M 13 r = q.2.2.1 ∧ M 14 r = q.2.2.2.1 ∧ M 15 r = q.2.2.2.2.1 ∧ M 16 r = q.2.2.2.2.2
def sgOk (σ : Sg) : Prop := 1 ≤ sP σ ∧ sP σ ≤ 31 ∧ sC σ ≤ 100 ∧ sR σ ≤ 20 ∧ 0 ≤ sL σ ∧ sL σ ≤ 3 ∧ (∀ n : Nat, 1 ≤ n → n ≤ sC σ → ndOk (sN σ n)) ∧ ∀ r : Nat, 1 ≤ r → r ≤ sR σ → rcOk (sQ σ r)
/-- the reference's arrays and scalars hold σ -/
def moInv (V : Nat → Int) (M : Nat → Int → Int) (σ : Sg) : Prop := sgOk σ ∧ (V 1 = sP σ ∧ V 12 = sC σ ∧ V 13 = sR σ ∧ V 14 = sL σ) ∧ (∀ n : Nat, 1 ≤ n → n ≤ sC σ → Nv M n (sN σ n).1 (sN σ n).2) ∧ (∀ n : Nat, sC σ < n → n ≤ 100 → M 7 n = 0 ∧ M 8 n = 0 ∧ M 9 n = 0) ∧ (∀ r : Nat, 1 ≤ r → r ≤ sR σ → Rcv M r (sQ σ r)) ∧ (∀ r : Nat, sR σ < r → r ≤ 20 → M 14 r = 0 ∧ M 15 r = 0 ∧ M 16 r = 0) ∧ (0 ≤ M 2 2 ∧ M 2 2 ≤ 320)
theorem moInv.fr {V V' : Nat → Int} {M M' : Nat → Int → Int} {σ : Sg} (h : moInv V M σ) (hV : V' 1 = V 1 ∧ V' 12 = V 12 ∧ V' 13 = V 13 ∧ V' 14 = V 14) (hM : ∀ k : Nat, 6 ≤ k → M' k = M k) (h22 : 0 ≤ M' 2 2 ∧ M' 2 2 ≤ 320) : moInv V' M' σ := by
  obtain ⟨h1, h2, h3, h4, h5, h6, h7⟩ := h
  refine ⟨h1, by rw [hV.1, hV.2.1, hV.2.2.1, hV.2.2.2]; exact h2, fun n a b => ?_, fun n a b => ?_, fun r a b => ?_, fun r a b => ?_, h22⟩
  · have := h3 n a b
    unfold Nv at this ⊢
    rw [hM 6 (by decide), hM 7 (by decide), hM 8 (by decide), hM 9 (by decide), hM 10 (by decide)]; exact this
  · rw [hM 7 (by decide), hM 8 (by decide), hM 9 (by decide)]; exact h4 n a b
  · have := h5 r a b
    unfold Rcv at this ⊢
    rw [hM 11 (by decide), hM 12 (by decide), hM 13 (by decide), hM 14 (by decide), hM 15 (by decide), hM 16 (by decide)]; exact this
  · rw [hM 14 (by decide), hM 15 (by decide), hM 16 (by decide)]; exact h6 r a b
theorem moInv.v0 {V V' : Nat → Int} {M : Nat → Int → Int} {σ : Sg} {x : Int} (h : moInv V M σ) (e : V' = uF V 0 x) : moInv V' M σ := h.fr (by subst e; exact ⟨rfl, rfl, rfl, rfl⟩) (fun _ _ => rfl) h.2.2.2.2.2.2
theorem moInv.p {V : Nat → Int} {M : Nat → Int → Int} {σ : Sg} (h : moInv V M σ) : V 1 = (sP σ : Int) ∧ 1 ≤ sP σ ∧ sP σ ≤ 31 := ⟨h.2.1.1, h.1.1, h.1.2.1⟩
theorem moInv.c {V : Nat → Int} {M : Nat → Int → Int} {σ : Sg} (h : moInv V M σ) : V 12 = (sC σ : Int) ∧ sC σ ≤ 100 := ⟨h.2.1.2.1, h.1.2.2.1⟩
theorem moInv.r {V : Nat → Int} {M : Nat → Int → Int} {σ : Sg} (h : moInv V M σ) : V 13 = (sR σ : Int) ∧ sR σ ≤ 20 := ⟨h.2.1.2.2.1, h.1.2.2.2.1⟩
theorem moInv.nv {V : Nat → Int} {M : Nat → Int → Int} {σ : Sg} (h : moInv V M σ) {n : Int} (h1 : 1 ≤ n) (h2 : n ≤ sC σ) : Nv M n (sN σ n.toNat).1 (sN σ n.toNat).2 ∧ ndOk (sN σ n.toNat) := by
  have h3 := h.2.2.1 n.toNat (by omega) (by omega)
  rw [Int.toNat_of_nonneg (by omega)] at h3
  exact ⟨h3, h.1.2.2.2.2.2.2.1 n.toNat (by omega) (by omega)⟩
theorem moInv.rv {V : Nat → Int} {M : Nat → Int → Int} {σ : Sg} (h : moInv V M σ) {r : Int} (h1 : 1 ≤ r) (h2 : r ≤ sR σ) : Rcv M r (sQ σ r.toNat) ∧ rcOk (sQ σ r.toNat) := by
  have h3 := h.2.2.2.2.1 r.toNat (by omega) (by omega)
  rw [Int.toNat_of_nonneg (by omega)] at h3
  exact ⟨h3, h.1.2.2.2.2.2.2.2 r.toNat (by omega) (by omega)⟩
def addNode (σ : Sg) (w : Int × Int) : Sg := (sP σ, sC σ + 1, uF (sN σ) (sC σ + 1) w, sR σ, sQ σ, sL σ)
theorem addNode_ok {σ : Sg} {w : Int × Int} (h : sgOk σ) (hc : sC σ < 100) (hw : ndOk w) : sgOk (addNode σ w) := by
  obtain ⟨h1, h2, h3, h4, h5, h6, h7, h8⟩ := h
  refine ⟨h1, h2, hc, h4, h5, h6, fun n a b => ?_, h8⟩
  show ndOk (uF (sN σ) (sC σ + 1) w n)
  by_cases e : n = sC σ + 1
  · rw [e, uF_s]; exact hw
  · rw [uF_n e]
    have : n ≤ sC σ + 1 := b
    exact h7 n a (by omega)
theorem moInv.add {V V' : Nat → Int} {M M' : Nat → Int → Int} {σ : Sg} {w : Int × Int} (h : moInv V M σ) (hc : sC σ < 100) (hw : ndOk w) (hV : V' = uF V 12 (V 12 + 1)) (hF : FrN M M' (V 12 + 1)) (hn : Nv M' (V 12 + 1) w.1 w.2) : moInv V' M' (addNode σ w) := by
  obtain ⟨h1, h2, h3, h4, h5, h6, h7⟩ := h
  have e12 : V 12 + 1 = ((sC σ + 1 : Nat) : Int) := by have := h2.2.1; omega
  rw [e12] at hF hn
  refine ⟨addNode_ok h1 hc hw, by subst hV; exact ⟨h2.1, e12, h2.2.2.1, h2.2.2.2⟩, fun n a b => ?_, fun n a b => ?_, fun r a b => ?_, fun r a b => ?_, by rw [hF.1 2 (by decide)]; exact h7⟩
  · show Nv M' n (uF (sN σ) (sC σ + 1) w n).1 (uF (sN σ) (sC σ + 1) w n).2
    by_cases e : n = sC σ + 1
    · rw [e, uF_s]; exact hn
    · rw [uF_n e]
      have b2 : n ≤ sC σ + 1 := b
      exact hF.nv (by omega) (h1.2.2.2.2.2.2.1 n a (by omega)).2.2.1 (h3 n a (by omega))
  · have a2 : sC σ + 1 < n := a
    obtain ⟨q7, q8, q9, q10⟩ := hF.2.2 n (by omega)
    rw [q7, q8, q9]; exact h4 n (by omega) b
  · have := h5 r a b
    unfold Rcv at this ⊢
    rw [hF.1 11 (by decide), hF.1 12 (by decide), hF.1 13 (by decide), hF.1 14 (by decide), hF.1 15 (by decide), hF.1 16 (by decide)]; exact this
  · rw [hF.1 14 (by decide), hF.1 15 (by decide), hF.1 16 (by decide)]; exact h6 r a b
theorem fin_nd {P N : Nat} {x sg : Int} (hP : 1 ≤ P ∧ P ≤ 31) (hs : N ≠ 0 → sg = 1 ∨ sg = -1) : ndOk (fin P N x sg) := by
  have h1 := fin_1 P N x sg
  refine ⟨by omega, by omega, fin_vB hP hs, fun h => ?_⟩
  unfold fin at h ⊢
  split
  · rename_i e; rw [if_pos e] at h; exact absurd rfl h
  · rfl
theorem sMul_nd {P : Nat} {a b : Int} (hP : 1 ≤ P ∧ P ≤ 31) : ndOk (sMul P a b) := fin_nd hP (fun h => sg_mul (fun e => h (by rw [e]; simp)) (fun e => h (by rw [e]; simp)))
theorem sAdd_nd {P : Nat} {a b : Int} (hP : 1 ≤ P ∧ P ≤ 31) : ndOk (sAdd P a b) := fin_nd hP (fun h => sgn_nz (fun e => h (by rw [e]; rfl)))
theorem nd2 : ndOk (2, 0) := ⟨by decide, by decide, vB_0, fun _ => rfl⟩
theorem nd1 : ndOk (1, 0) := ⟨by decide, by decide, vB_0, fun _ => rfl⟩
theorem sDiv_nd {P : Nat} {a b : Int} (hP : 1 ≤ P ∧ P ≤ 31) : ndOk (sDiv P a b) := by
  unfold sDiv
  split
  · exact nd2
  · rename_i hb
    exact fin_nd hP (fun h => sg_mul (fun e => h (by rw [e]; simp)) hb)
theorem sPowN_nd {P : Nat} {a : Int} (hP : 1 ≤ P ∧ P ≤ 31) (n : Nat) : ndOk (sPowN P a n) := by
  induction n with
  | zero => exact ⟨Int.le_refl _, (by decide : (0 : Int) ≤ 2), one_vB, fun h => absurd rfl h⟩
  | succ n ih =>
    show ndOk (if (sPowN P a n).1 = 0 then sMul P (sPowN P a n).2 a else sPowN P a n)
    split
    · exact sMul_nd hP
    · exact ih
theorem sOp_nd {P : Nat} {op a b : Int} (hP : 1 ≤ P ∧ P ≤ 31) (ha : vB a) : ndOk (sOp P op a b) := by
  unfold sOp
  split
  · exact sAdd_nd hP
  · split
    · exact sAdd_nd hP
    · split
      · exact sMul_nd hP
      · split
        · exact sDiv_nd hP
        · split
          · unfold sPow
            split
            · exact nd1
            · split
              · exact nd2
              · split
                · exact sPowN_nd hP _
                · exact sDiv_nd hP
          · exact ⟨Int.le_refl _, (by decide : (0 : Int) ≤ 2), vB_neg ha, fun h => absurd rfl h⟩
/-- the document's answers -/
def sp_value (σ : Sg) (v scale : Int) : Int × Sg := if scale < 0 ∨ 18 < scale then (-4, σ) else if sC σ = 100 then (-1, σ) else (sC σ + 1, addNode σ (fin (sP σ) v.natAbs (-scale) (sgn v)))
def nodeW (σ : Sg) (op a b : Int) : Int × Int := if (sN σ a.toNat).1 ≠ 0 then ((sN σ a.toNat).1, 0) else if op < 5 ∧ (sN σ b.toNat).1 ≠ 0 then ((sN σ b.toNat).1, 0) else sOp (sP σ) op (sN σ a.toNat).2 (sN σ b.toNat).2
def sp_node (σ : Sg) (op a b : Int) : Int × Sg := if op < 0 ∨ 5 < op then (-4, σ) else if ¬ (0 < a ∧ a ≤ sC σ) ∨ (op < 5 ∧ ¬ (0 < b ∧ b ≤ sC σ)) then (-2, σ) else if sC σ = 100 then (-1, σ) else (sC σ + 1, addNode σ (nodeW σ op a b))
theorem fin_ok2 {M : Nat → Int → Int} {z sg x : Int} {P N : Nat} (h1 : z = cuz N x) (h2 : Rv M 2 (sg * cuv P N x)) (h22 : 0 ≤ M 2 2 ∧ M 2 2 ≤ 320) : z = (fin P N x sg).1 ∧ (z = 0 → Rv M 2 (fin P N x sg).2) := ⟨(fin_ok h1 h2 h22).1, (fin_ok h1 h2 h22).2.1⟩
theorem kp_nv {M : Nat → Int → Int} {n z : Int} {w : Int × Int} (hz : z = w.1) (hw : ndOk w) (h : (z = 0 ∧ Nv M n 0 w.2) ∨ (z ≠ 0 ∧ Nv M n z 0)) : Nv M n w.1 w.2 := by
  rcases h with ⟨h1, h2⟩ | ⟨h1, h2⟩
  · rw [← hz, h1]; exact h2
  · rw [hw.2.2.2 (by rw [← hz]; exact h1), ← hz]; exact h2
theorem nd19 {v : Int} (h : inJ v) : nd v.natAbs ≤ 19 := by
  apply nd_le
  have h6 : (10 : Nat) ^ 19 = 10000000000000000000 := by decide
  omega
theorem sOp_5 {P : Nat} {op a b b' : Int} (h : 5 ≤ op) : sOp P op a b = sOp P op a b' := by
  unfold sOp
  rw [if_neg (by omega), if_neg (by omega), if_neg (by omega), if_neg (by omega), if_neg (by omega), if_neg (by omega), if_neg (by omega), if_neg (by omega), if_neg (by omega), if_neg (by omega)]
def sp_raises (σ : Sg) (n : Int) : Int := if 0 < n ∧ n ≤ sC σ then (sN σ n.toNat).1 else -2
/-- whether it throws, and the answer -/
def sp_exact (σ : Sg) (n side : Int) : Int × Int := if ¬ (0 < n ∧ n ≤ sC σ) ∨ side < 0 then (0, -1) else if (sN σ n.toNat).1 ≠ 0 then (1, 0) else if side = 0 then (0, sgn (sN σ n.toNat).2) else if side = 1 then (0, nd (cN (sN σ n.toNat).2)) else if side = 2 then (0, cX (sN σ n.toNat).2) else if side - 3 < nd (cN (sN σ n.toNat).2) then (0, ((cN (sN σ n.toNat).2 / 10 ^ (nd (cN (sN σ n.toNat).2) - 1 - (side - 3).toNat) % 10 : Nat) : Int)) else (0, -1)
def addRec (σ : Sg) (q : Rec6) : Sg := (sP σ, sC σ, sN σ, sR σ + 1, uF (sQ σ) (sR σ + 1) q, sL σ)
def setRec (σ : Sg) (r : Nat) (q : Rec6) : Sg := (sP σ, sC σ, sN σ, sR σ, uF (sQ σ) r q, sL σ)
def sp_receiver (σ : Sg) (d s ro : Int) : Int × Sg := if d < 1 ∨ 18 < d ∨ s < 0 ∨ d < s ∨ ro < 0 ∨ 7 < ro then (-4, σ) else if sR σ = 20 then (-1, σ) else (sR σ + 1, addRec σ (d, s, ro, 0, 0, 0))
def putH (q : Rec6) (h : Int) : Rec6 := (q.1, q.2.1, q.2.2.1, h, q.2.2.2.2.1, q.2.2.2.2.2)
def sp_set (σ : Sg) (r v : Int) : Int × Sg := if 0 < r ∧ r ≤ sR σ then (1, setRec σ r.toNat (putH (sQ σ r.toNat) (v.tmod (10 ^ (sQ σ r.toNat).1.toNat)))) else (-2, σ)
def sp_stored (σ : Sg) (r : Int) : Int := if 0 < r ∧ r ≤ sR σ then (sQ σ r.toNat).2.2.2.1 else 0
def sp_rest (σ : Sg) (r : Int) : Int := if 0 < r ∧ r ≤ sR σ then (sQ σ r.toNat).2.2.2.2.1 else 0
def sp_error (σ : Sg) (r : Int) : Int := if 0 < r ∧ r ≤ sR σ then (sQ σ r.toNat).2.2.2.2.2 else 0
theorem moInv.setR {V : Nat → Int} {M M' : Nat → Int → Int} {σ : Sg} {r : Int} {q : Rec6} (h : moInv V M σ) (h1 : 1 ≤ r) (h2 : r ≤ sR σ) (hq : rcOk q) (hM : ∀ k : Nat, k < 11 → 6 ≤ k → M' k = M k) (h22 : 0 ≤ M' 2 2 ∧ M' 2 2 ≤ 320) (ho : ∀ x : Int, x ≠ r → M' 11 x = M 11 x ∧ M' 12 x = M 12 x ∧ M' 13 x = M 13 x ∧ M' 14 x = M 14 x ∧ M' 15 x = M 15 x ∧ M' 16 x = M 16 x) (hr : Rcv M' r q) : moInv V M' (setRec σ r.toNat q) := by
  obtain ⟨g1, g2, g3, g4, g5, g6, g7⟩ := h
  obtain ⟨a1, a2, a3, a4, a5, a6, a7, a8⟩ := g1
  refine ⟨⟨a1, a2, a3, a4, a5, a6, a7, fun x b c => ?_⟩, g2, fun n b c => ?_, fun n b c => ?_, fun x b c => ?_, fun x b c => ?_, h22⟩
  · show rcOk (uF (sQ σ) r.toNat q x)
    by_cases e : x = r.toNat
    · rw [e, uF_s]; exact hq
    · rw [uF_n e]; exact a8 x b c
  · have := g3 n b c
    unfold Nv at this ⊢
    rw [hM 6 (by decide) (by decide), hM 7 (by decide) (by decide), hM 8 (by decide) (by decide), hM 9 (by decide) (by decide), hM 10 (by decide) (by decide)]; exact this
  · rw [hM 7 (by decide) (by decide), hM 8 (by decide) (by decide), hM 9 (by decide) (by decide)]; exact g4 n b c
  · show Rcv M' x (uF (sQ σ) r.toNat q x)
    by_cases e : x = r.toNat
    · rw [e, uF_s, Int.toNat_of_nonneg (by omega)]; exact hr
    · rw [uF_n e]
      have := g5 x b c
      obtain ⟨o1, o2, o3, o4, o5, o6⟩ := ho x (by omega)
      unfold Rcv at this ⊢
      rw [o1, o2, o3, o4, o5, o6]; exact this
  · have b2 : sR σ < x := b
    obtain ⟨o1, o2, o3, o4, o5, o6⟩ := ho x (by omega)
    rw [o4, o5, o6]; exact g6 x b2 c
theorem moInv.addR {V V' : Nat → Int} {M M1 M2 M3 : Nat → Int → Int} {σ : Sg} {d s ro : Int} (h : moInv V M σ) (hc : sR σ < 20) (hd : 1 ≤ d ∧ d ≤ 18 ∧ 0 ≤ s ∧ s ≤ d ∧ 0 ≤ ro ∧ ro ≤ 7) (hV : V' = uF V 13 (V 13 + 1)) (e1 : M1 = setA M 11 (V 13 + 1) d) (e2 : M2 = setA M1 12 (V 13 + 1) s) (e3 : M3 = setA M2 13 (V 13 + 1) ro) : moInv V' M3 (addRec σ (d, s, ro, 0, 0, 0)) := by
  obtain ⟨g1, g2, g3, g4, g5, g6, g7⟩ := h
  obtain ⟨a1, a2, a3, a4, a5, a6, a7, a8⟩ := g1
  have e13 : V 13 + 1 = ((sR σ + 1 : Nat) : Int) := by have := g2.2.2.1; omega
  rw [e13] at e1 e2 e3
  have oth : ∀ k, k ≠ 11 → k ≠ 12 → k ≠ 13 → M3 k = M k := fun k b1 b2 b3 => by rw [e3, setA_n b3, e2, setA_n b2, e1, setA_n b1]
  refine ⟨⟨a1, a2, a3, hc, a5, a6, a7, fun x b c => ?_⟩, by subst hV; exact ⟨g2.1, g2.2.1, e13, g2.2.2.2⟩, fun n b c => ?_, fun n b c => ?_, fun x b c => ?_, fun x b c => ?_, by rw [oth 2 (by decide) (by decide) (by decide)]; exact g7⟩
  · show rcOk (uF (sQ σ) (sR σ + 1) (d, s, ro, 0, 0, 0) x)
    by_cases e : x = sR σ + 1
    · rw [e, uF_s]; exact ⟨hd.1, hd.2.1, hd.2.2.1, hd.2.2.2.1, hd.2.2.2.2.1, hd.2.2.2.2.2, p10N _, p10N _, Or.inl rfl⟩
    · rw [uF_n e]; have c2 : x ≤ sR σ + 1 := c; exact a8 x b (by omega)
  · have := g3 n b c
    unfold Nv at this ⊢
    rw [oth 6 (by decide) (by decide) (by decide), oth 7 (by decide) (by decide) (by decide), oth 8 (by decide) (by decide) (by decide), oth 9 (by decide) (by decide) (by decide), oth 10 (by decide) (by decide) (by decide)]; exact this
  · rw [oth 7 (by decide) (by decide) (by decide), oth 8 (by decide) (by decide) (by decide), oth 9 (by decide) (by decide) (by decide)]; exact g4 n b c
  · show Rcv M3 x (uF (sQ σ) (sR σ + 1) (d, s, ro, 0, 0, 0) x)
    by_cases e : x = sR σ + 1
    · rw [e, uF_s]
      obtain ⟨z1, z2, z3⟩ := g6 (sR σ + 1) (by omega) (by omega)
      refine ⟨?_, ?_, ?_, ?_, ?_, ?_⟩
      · rw [e3, setA_n (by decide), e2, setA_n (by decide), e1, setA_s, uI_s]
      · rw [e3, setA_n (by decide), e2, setA_s, uI_s]
      · rw [e3, setA_s, uI_s]
      · rw [oth 14 (by decide) (by decide) (by decide)]; exact z1
      · rw [oth 15 (by decide) (by decide) (by decide)]; exact z2
      · rw [oth 16 (by decide) (by decide) (by decide)]; exact z3
    · rw [uF_n e]
      have c2 : x ≤ sR σ + 1 := c
      have := g5 x b (by omega)
      have ne : (x : Int) ≠ ((sR σ + 1 : Nat) : Int) := by omega
      unfold Rcv at this ⊢
      rw [oth 14 (by decide) (by decide) (by decide), oth 15 (by decide) (by decide) (by decide), oth 16 (by decide) (by decide) (by decide)]
      rw [show M3 11 x = M 11 x by rw [e3, setA_n (by decide), e2, setA_n (by decide), e1, setA_s, uI_n ne], show M3 12 x = M 12 x by rw [e3, setA_n (by decide), e2, setA_s, uI_n ne, e1, setA_n (by decide)], show M3 13 x = M 13 x by rw [e3, setA_s, uI_n ne, e2, setA_n (by decide), e1, setA_n (by decide)]]
      exact this
  · have b2 : sR σ + 1 < x := b
    rw [oth 14 (by decide) (by decide) (by decide), oth 15 (by decide) (by decide) (by decide), oth 16 (by decide) (by decide) (by decide)]
    exact g6 x (by omega) c
theorem p10_18 {n : Nat} (h : n ≤ 18) : (10 : Int) ^ n ≤ 1000000000000000000 ∧ 1 ≤ (10 : Int) ^ n := by
  refine ⟨?_, p10 n⟩
  have h1 : 10 ^ n ≤ 10 ^ 18 := Nat.pow_le_pow_right (by decide) h
  have h2 : (10 : Nat) ^ 18 = 1000000000000000000 := by decide
  rw [← p10c]; omega
theorem tmod_lt (v : Int) (n : Nat) : (v.tmod (10 ^ n)).natAbs < 10 ^ n := by
  rw [Int.natAbs_tmod, ← p10c, Int.natAbs_natCast]
  exact Nat.mod_lt _ (p10N n)
