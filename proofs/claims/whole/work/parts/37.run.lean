-- RUN (own work)
def stW (P : Nat) (kind : Int) (q : Rec6) (bad0 x : Int) : Int × Int := if bad0 ≠ 0 then (bad0, 0) else giveS P kind x q.2.2.2.1 q.2.1
def stBad (P : Nat) (kind : Int) (q : Rec6) (bad0 x : Int) : Int := if (stW P kind q bad0 x).1 ≠ 0 then (stW P kind q bad0 x).1 else if q.2.2.1 = 7 ∧ uR (stW P kind q bad0 x).2 q.2.1 ≠ 0 then 3 else 0
def stErr (P : Nat) (kind : Int) (q : Rec6) (bad0 x : Int) : Int := if stBad P kind q bad0 x ≠ 0 ∨ 10 ^ q.1.toNat ≤ rW q.2.2.1 (stW P kind q bad0 x).2 q.2.1 then 1 else 0
def stRec (P : Nat) (kind : Int) (q : Rec6) (bad0 x ph : Int) : Rec6 := (q.1, q.2.1, q.2.2.1, (if stBad P kind q bad0 x = 0 ∧ ¬ (stErr P kind q bad0 x = 1 ∧ ph ≠ 0) then (sgv (stW P kind q bad0 x).2 (rW q.2.2.1 (stW P kind q bad0 x).2 q.2.1 % 10 ^ 18)).tmod (10 ^ q.1.toNat) else q.2.2.2.1), (if kind = 4 then (if stErr P kind q bad0 x = 1 then 0 else restS P x (stW P kind q bad0 x).2 q.2.2.2.1 q.2.1) else q.2.2.2.2.1), stErr P kind q bad0 x)
def stLat (P : Nat) (kind : Int) (q : Rec6) (bad0 x lat : Int) : Int := if stErr P kind q bad0 x = 1 then (if stBad P kind q bad0 x ≠ 0 then stBad P kind q bad0 x else 1) else lat
def stPost (V : Nat → Int) (M : Nat → Int → Int) (kind r ph : Int) (q : Rec6) (bad0 x : Int) (P : Nat) (z : Int) (V' : Nat → Int) (M' : Nat → Int → Int) : Prop := z = 1 - stErr P kind q bad0 x ∧ (∀ k, k ≠ 14 → k ≠ 21 → k ≠ 22 → V' k = V k) ∧ V' 14 = stLat P kind q bad0 x (V 14) ∧ (∀ k : Nat, 6 ≤ k → k < 14 → M' k = M k) ∧ (∀ t : Int, t ≠ r → M' 14 t = M 14 t ∧ M' 15 t = M 15 t ∧ M' 16 t = M 16 t) ∧ Rcv M' r (stRec P kind q bad0 x ph) ∧ (0 ≤ M' 2 2 ∧ M' 2 2 ≤ 320)
theorem st_fin {V V2 V' : Nat → Int} {M M2 M' : Nat → Int → Int} {kind r ph bad bad0 x z : Int} {q : Rec6} {P : Nat} (hst : stRes V2 M2 kind r bad ph q.1 q.2.2.2.1 q.2.1 x (stW P kind q bad0 x).2 P z V' M') (hb : bad = stBad P kind q bad0 x) (h22v : bad = 0 → V2 22 = (if 10 ^ q.1.toNat ≤ rW q.2.2.1 (stW P kind q bad0 x).2 q.2.1 then 1 else 0)) (h21v : bad = 0 → V2 21 = sgv (stW P kind q bad0 x).2 (rW q.2.2.1 (stW P kind q bad0 x).2 q.2.1 % 10 ^ 18)) (hVk : ∀ k, k ≠ 21 → k ≠ 22 → V2 k = V k) (hMk : ∀ k : Nat, 6 ≤ k → M2 k = M k) (hR : Rcv M r q) : stPost V M kind r ph q bad0 x P z V' M' := by
  obtain ⟨err, h1, h2, h3, h4, h5, h6, h7, h8, h9, h10⟩ := hst
  have he : err = stErr P kind q bad0 x := by
    unfold stErr
    rw [← hb]
    by_cases hb0 : bad = 0
    · have e := h22v hb0
      by_cases hl : 10 ^ q.1.toNat ≤ rW q.2.2.1 (stW P kind q bad0 x).2 q.2.1
      · rw [if_pos hl] at e
        rw [if_pos (Or.inr hl)]
        omega
      · rw [if_neg hl] at e
        rw [if_neg (fun c => c.elim (fun c => c hb0) hl)]
        omega
    · rw [if_pos (Or.inl hb0)]
      omega
  obtain ⟨r1, r2, r3, r4, r5, r6⟩ := hR
  refine ⟨by rw [h2, he], fun k a b c => (h3 k a b c).trans (hVk k b c), ?_, fun k a b => (h5 k a b).trans (hMk k a), fun t ht => ?_, ⟨?_, ?_, ?_, ?_, ?_, ?_⟩, h10⟩
  · unfold stLat; rw [h4, he, ← hb, hVk 14 (by decide) (by decide)]
  · obtain ⟨a, b, c⟩ := h6 t ht
    rw [a, b, c, hMk 14 (by decide), hMk 15 (by decide), hMk 16 (by decide)]; exact ⟨rfl, rfl, rfl⟩
  · rw [h5 11 (by decide) (by decide), hMk 11 (by decide)]; exact r1
  · rw [h5 12 (by decide) (by decide), hMk 12 (by decide)]; exact r2
  · rw [h5 13 (by decide) (by decide), hMk 13 (by decide)]; exact r3
  · show M' 14 r = (if stBad P kind q bad0 x = 0 ∧ ¬ (stErr P kind q bad0 x = 1 ∧ ph ≠ 0) then _ else _)
    rw [h8, ← he, ← hb]
    by_cases hb0 : bad = 0
    · rw [h21v hb0]
    · rw [if_neg (fun c => hb0 c.1), if_neg (fun c => hb0 c.1)]
  · show M' 15 r = (if kind = 4 then _ else _)
    rw [h9, ← he, hMk 15 (by decide), r5]
  · show M' 16 r = stErr P kind q bad0 x
    rw [h7, he]
theorem sgv_in (v : Int) (n : Nat) : inJ (sgv v (n % 10 ^ 18)) ∧ (sgv v (n % 10 ^ 18)).natAbs < 10 ^ 18 := by
  have h1 := Nat.mod_lt n (p10N 18)
  have h2 : (10 : Nat) ^ 18 = 1000000000000000000 := by decide
  unfold sgv
  split <;> omega
theorem restS_lt {P : Nat} {x y h s : Int} : (restS P x y h s).natAbs < 10 ^ 18 := by
  unfold restS
  split
  · exact p10N 18
  · split
    · exact p10N 18
    · exact (sgv_in _ _).2
theorem stRec_ok {P : Nat} {kind bad0 x ph : Int} {q : Rec6} (h : rcOk q) : rcOk (stRec P kind q bad0 x ph) := by
  obtain ⟨a1, a2, a3, a4, a5, a6, a7, a8, a9⟩ := h
  refine ⟨a1, a2, a3, a4, a5, a6, ?_, ?_, ?_⟩
  · show (if _ then _ else _ : Int).natAbs < 10 ^ q.1.toNat
    split
    · exact tmod_lt _ _
    · exact a7
  · show (if _ then _ else _ : Int).natAbs < 10 ^ 18
    split
    · split
      · exact p10N 18
      · exact restS_lt
    · exact a8
  · show stErr P kind q bad0 x = 0 ∨ stErr P kind q bad0 x = 1
    unfold stErr
    split <;> simp
/-- a receiver and what was raised latest -/
def setRL (σ : Sg) (r : Nat) (q : Rec6) (lat : Int) : Sg := (sP σ, sC σ, sN σ, sR σ, uF (sQ σ) r q, lat)
def runN (σ : Sg) (kind bad0 x ph : Int) : Nat → Sg × Int
  | 0 => ((sP σ, sC σ, sN σ, sR σ, sQ σ, 0), 0)
  | n + 1 => (setRL (runN σ kind bad0 x ph n).1 (n + 1) (stRec (sP σ) kind (sQ (runN σ kind bad0 x ph n).1 (n + 1)) bad0 x ph) (stLat (sP σ) kind (sQ (runN σ kind bad0 x ph n).1 (n + 1)) bad0 x (sL (runN σ kind bad0 x ph n).1)), (runN σ kind bad0 x ph n).2 + (1 - stErr (sP σ) kind (sQ (runN σ kind bad0 x ph n).1 (n + 1)) bad0 x))
def sp_run (σ : Sg) (kind root ph : Int) : Int × Sg := if kind < 0 ∨ 4 < kind then (-4, σ) else if ¬ (0 < root ∧ root ≤ sC σ) then (-2, σ) else ((runN σ kind (sN σ root.toNat).1 (sN σ root.toNat).2 ph (sR σ)).2, (runN σ kind (sN σ root.toNat).1 (sN σ root.toNat).2 ph (sR σ)).1)
theorem runN_same (σ : Sg) (kind bad0 x ph : Int) (n : Nat) : sP (runN σ kind bad0 x ph n).1 = sP σ ∧ sC (runN σ kind bad0 x ph n).1 = sC σ ∧ sN (runN σ kind bad0 x ph n).1 = sN σ ∧ sR (runN σ kind bad0 x ph n).1 = sR σ := by
  induction n with
  | zero => exact ⟨rfl, rfl, rfl, rfl⟩
  | succ n ih => exact ih
theorem stBad_in {P : Nat} {kind bad0 x : Int} {q : Rec6} (hP : 1 ≤ P ∧ P ≤ 31) (hk : 0 ≤ kind ∧ kind ≤ 4) (hx : vB x) (hb : 0 ≤ bad0 ∧ bad0 ≤ 2) : 0 ≤ stBad P kind q bad0 x ∧ stBad P kind q bad0 x ≤ 3 := by
  have h1 : 0 ≤ (stW P kind q bad0 x).1 ∧ (stW P kind q bad0 x).1 ≤ 2 := by
    unfold stW
    split
    · exact hb
    · have := giveS_nd (h := q.2.2.2.1) (s := q.2.1) hP hk hx
      exact ⟨this.1, this.2.1⟩
  unfold stBad
  split
  · omega
  · split <;> omega
theorem stLat_in {P : Nat} {kind bad0 x lat : Int} {q : Rec6} (hP : 1 ≤ P ∧ P ≤ 31) (hk : 0 ≤ kind ∧ kind ≤ 4) (hx : vB x) (hb : 0 ≤ bad0 ∧ bad0 ≤ 2) (hl : 0 ≤ lat ∧ lat ≤ 3) : 0 ≤ stLat P kind q bad0 x lat ∧ stLat P kind q bad0 x lat ≤ 3 := by
  have h := stBad_in (q := q) hP hk hx hb
  unfold stLat
  split
  · split <;> omega
  · exact hl
theorem moInv.setRL {V V' : Nat → Int} {M M' : Nat → Int → Int} {σ : Sg} {n : Nat} {q : Rec6} {lat : Int} (h : moInv V M σ) (h1 : 1 ≤ n) (h2 : n ≤ sR σ) (hq : rcOk q) (hl : 0 ≤ lat ∧ lat ≤ 3) (hV : V' 1 = V 1 ∧ V' 12 = V 12 ∧ V' 13 = V 13 ∧ V' 14 = lat) (hM : ∀ k : Nat, 6 ≤ k → k < 14 → M' k = M k) (ho : ∀ t : Int, t ≠ n → M' 14 t = M 14 t ∧ M' 15 t = M 15 t ∧ M' 16 t = M 16 t) (hr : Rcv M' n q) (h22 : 0 ≤ M' 2 2 ∧ M' 2 2 ≤ 320) : moInv V' M' (setRL σ n q lat) := by
  have hs := h.setR (r := (n : Int)) (q := q) (M' := M') (by omega) (by omega) hq (fun k a b => hM k b (by omega)) h22 (fun t ht => by
    obtain ⟨a, b, c⟩ := ho t ht
    rw [hM 11 (by decide) (by decide), hM 12 (by decide) (by decide), hM 13 (by decide) (by decide), a, b, c]; exact ⟨rfl, rfl, rfl, rfl, rfl, rfl⟩) hr
  rw [Int.toNat_natCast] at hs
  obtain ⟨g1, g2, g3, g4, g5, g6, g7⟩ := hs
  obtain ⟨a1, a2, a3, a4, a5, a6, a7, a8⟩ := g1
  exact ⟨⟨a1, a2, a3, a4, hl.1, hl.2, a7, a8⟩, ⟨hV.1.trans g2.1, hV.2.1.trans g2.2.1, hV.2.2.1.trans g2.2.2.1, hV.2.2.2⟩, g3, g4, g5, g6, g7⟩
