-- THE CLASS'S WHOLE STATE (own work)
/-- cells that the class never writes: the reference's, and the row of answers -/
def refK (e : va_E) : Bool := kd e == (0, 4) || (kd e).1 == 1 || kd e == (2, 21) || kd e == (2, 1)
/-- such cells are as they were -/
def kpR (μ μ' : fm_Mu) : Prop := ∀ b e, μ b = some e → refK e = true → μ' b = some e
def kpC (μ μ' : fm_Mu) : Prop := ∀ b e, μ b = some e → refK e = false → μ' b = some e
theorem kpR.rf {μ : fm_Mu} : kpR μ μ := fun _ _ h _ => h
theorem kpR.tr {μ μ1 μ2 : fm_Mu} (h : kpR μ μ1) (h2 : kpR μ1 μ2) : kpR μ μ2 := fun b e a k => h2 b e (h b e a k) k
def okL (μ : fm_Mu) (L : List Nat) : Prop := ∀ a ∈ L, μ a = none ∨ ∃ e, μ a = some e ∧ refK e = false
theorem okL.n {μ : fm_Mu} : okL μ [] := fun a h => absurd h List.not_mem_nil
theorem okL.c {μ : fm_Mu} {a : Nat} {e : va_E} {L : List Nat} (h : μ a = some e) (hk : refK e = false) (h2 : okL μ L) : okL μ (a :: L) := fun b hb => by
  rcases List.mem_cons.mp hb with r | r
  · rw [r]; exact Or.inr ⟨e, h, hk⟩
  · exact h2 b r
theorem okL.f {μ : fm_Mu} {a : Nat} {L : List Nat} (h : μ a = none) (h2 : okL μ L) : okL μ (a :: L) := fun b hb => by
  rcases List.mem_cons.mp hb with r | r
  · rw [r]; exact Or.inl h
  · exact h2 b r
theorem kpR.of {μ μ' : fm_Mu} {L : List Nat} (h : fm_O μ μ' L) (hL : okL μ L) : kpR μ μ' := fun b e hb hk => h.at (fun hm => by
  rcases hL b hm with r | ⟨e2, r, k⟩
  · rw [r] at hb; cases hb
  · rw [r] at hb; cases hb; rw [k] at hk; cases hk) hb
def afS (cs : Nat → ClassId) (μ : fm_Mu) (x kc kn kr wd lf : Nat) (da dl ra : Nat → Nat) (σ : Sg) : Prop := (sgOk σ) ∧ (μ x = some (oE 0 [.ref kc, .ref kn, .int (iN (sC σ : Int)), .ref kr, .int (iN (sR σ : Int)), .int (iN (sL σ)), .ref (da 1), .ref (da 2), .ref (da 3)])) ∧ (μ kc = some (oE 1 [.int (iN (sP σ : Int)), .ref wd, .ref lf, .ref (da 0)])) ∧ (∃ G : Int → Int, μ wd = some (lE cs 30 G)) ∧ (∃ X : Int → Int, μ lf = some (lE cs 5 X)) ∧ (∃ f : Nat → Option Nat, μ kn = some (qE (cs 3) 100 f) ∧ ∀ i, i < sC σ → f i = some (da (4 + i))) ∧ (∃ f : Nat → Option Nat, μ kr = some (qE (cs 4) 20 f) ∧ ∀ i, i < sR σ → f i = some (ra i)) ∧ (Dc cs μ (da 0) (dl 0) 0 one300) ∧ (Da cs μ (da 1) (dl 1)) ∧ (Da cs μ (da 2) (dl 2)) ∧ (Da cs μ (da 3) (dl 3)) ∧ (∀ i, i < sC σ → Dc cs μ (da (4 + i)) (dl (4 + i)) (sN σ (i + 1)).1 (sN σ (i + 1)).2) ∧ (∀ i, i < sR σ → μ (ra i) = some (rE (sQ σ (i + 1)))) ∧ (∀ i j, i < 4 + sC σ → j < 4 + sC σ → da i = da j → i = j) ∧ (∀ i j, i < 4 + sC σ → j < 4 + sC σ → dl i = dl j → i = j) ∧ (∀ i j, i < sR σ → j < sR σ → ra i = ra j → i = j)
theorem afS.ok {cs : Nat → ClassId} {μ : fm_Mu} {x kc kn kr wd lf : Nat} {da dl ra : Nat → Nat} {σ : Sg} (h : afS cs μ x kc kn kr wd lf da dl ra σ) : sgOk σ := h.1
theorem afS.cx {cs : Nat → ClassId} {μ : fm_Mu} {x kc kn kr wd lf : Nat} {da dl ra : Nat → Nat} {σ : Sg} (h : afS cs μ x kc kn kr wd lf da dl ra σ) : μ x = some (oE 0 [.ref kc, .ref kn, .int (iN (sC σ : Int)), .ref kr, .int (iN (sR σ : Int)), .int (iN (sL σ)), .ref (da 1), .ref (da 2), .ref (da 3)]) := h.2.1
theorem afS.ck {cs : Nat → ClassId} {μ : fm_Mu} {x kc kn kr wd lf : Nat} {da dl ra : Nat → Nat} {σ : Sg} (h : afS cs μ x kc kn kr wd lf da dl ra σ) : μ kc = some (oE 1 [.int (iN (sP σ : Int)), .ref wd, .ref lf, .ref (da 0)]) := h.2.2.1
theorem afS.cw {cs : Nat → ClassId} {μ : fm_Mu} {x kc kn kr wd lf : Nat} {da dl ra : Nat → Nat} {σ : Sg} (h : afS cs μ x kc kn kr wd lf da dl ra σ) : ∃ G : Int → Int, μ wd = some (lE cs 30 G) := h.2.2.2.1
theorem afS.cl {cs : Nat → ClassId} {μ : fm_Mu} {x kc kn kr wd lf : Nat} {da dl ra : Nat → Nat} {σ : Sg} (h : afS cs μ x kc kn kr wd lf da dl ra σ) : ∃ X : Int → Int, μ lf = some (lE cs 5 X) := h.2.2.2.2.1
theorem afS.cn {cs : Nat → ClassId} {μ : fm_Mu} {x kc kn kr wd lf : Nat} {da dl ra : Nat → Nat} {σ : Sg} (h : afS cs μ x kc kn kr wd lf da dl ra σ) : ∃ f : Nat → Option Nat, μ kn = some (qE (cs 3) 100 f) ∧ ∀ i, i < sC σ → f i = some (da (4 + i)) := h.2.2.2.2.2.1
theorem afS.cr {cs : Nat → ClassId} {μ : fm_Mu} {x kc kn kr wd lf : Nat} {da dl ra : Nat → Nat} {σ : Sg} (h : afS cs μ x kc kn kr wd lf da dl ra σ) : ∃ f : Nat → Option Nat, μ kr = some (qE (cs 4) 20 f) ∧ ∀ i, i < sR σ → f i = some (ra i) := h.2.2.2.2.2.2.1
theorem afS.d0 {cs : Nat → ClassId} {μ : fm_Mu} {x kc kn kr wd lf : Nat} {da dl ra : Nat → Nat} {σ : Sg} (h : afS cs μ x kc kn kr wd lf da dl ra σ) : Dc cs μ (da 0) (dl 0) 0 one300 := h.2.2.2.2.2.2.2.1
theorem afS.d1 {cs : Nat → ClassId} {μ : fm_Mu} {x kc kn kr wd lf : Nat} {da dl ra : Nat → Nat} {σ : Sg} (h : afS cs μ x kc kn kr wd lf da dl ra σ) : Da cs μ (da 1) (dl 1) := h.2.2.2.2.2.2.2.2.1
theorem afS.d2 {cs : Nat → ClassId} {μ : fm_Mu} {x kc kn kr wd lf : Nat} {da dl ra : Nat → Nat} {σ : Sg} (h : afS cs μ x kc kn kr wd lf da dl ra σ) : Da cs μ (da 2) (dl 2) := h.2.2.2.2.2.2.2.2.2.1
theorem afS.d3 {cs : Nat → ClassId} {μ : fm_Mu} {x kc kn kr wd lf : Nat} {da dl ra : Nat → Nat} {σ : Sg} (h : afS cs μ x kc kn kr wd lf da dl ra σ) : Da cs μ (da 3) (dl 3) := h.2.2.2.2.2.2.2.2.2.2.1
theorem afS.dN {cs : Nat → ClassId} {μ : fm_Mu} {x kc kn kr wd lf : Nat} {da dl ra : Nat → Nat} {σ : Sg} (h : afS cs μ x kc kn kr wd lf da dl ra σ) : ∀ i, i < sC σ → Dc cs μ (da (4 + i)) (dl (4 + i)) (sN σ (i + 1)).1 (sN σ (i + 1)).2 := h.2.2.2.2.2.2.2.2.2.2.2.1
theorem afS.rc {cs : Nat → ClassId} {μ : fm_Mu} {x kc kn kr wd lf : Nat} {da dl ra : Nat → Nat} {σ : Sg} (h : afS cs μ x kc kn kr wd lf da dl ra σ) : ∀ i, i < sR σ → μ (ra i) = some (rE (sQ σ (i + 1))) := h.2.2.2.2.2.2.2.2.2.2.2.2.1
theorem afS.ia {cs : Nat → ClassId} {μ : fm_Mu} {x kc kn kr wd lf : Nat} {da dl ra : Nat → Nat} {σ : Sg} (h : afS cs μ x kc kn kr wd lf da dl ra σ) : ∀ i j, i < 4 + sC σ → j < 4 + sC σ → da i = da j → i = j := h.2.2.2.2.2.2.2.2.2.2.2.2.2.1
theorem afS.il {cs : Nat → ClassId} {μ : fm_Mu} {x kc kn kr wd lf : Nat} {da dl ra : Nat → Nat} {σ : Sg} (h : afS cs μ x kc kn kr wd lf da dl ra σ) : ∀ i j, i < 4 + sC σ → j < 4 + sC σ → dl i = dl j → i = j := h.2.2.2.2.2.2.2.2.2.2.2.2.2.2.1
theorem afS.ir {cs : Nat → ClassId} {μ : fm_Mu} {x kc kn kr wd lf : Nat} {da dl ra : Nat → Nat} {σ : Sg} (h : afS cs μ x kc kn kr wd lf da dl ra σ) : ∀ i j, i < sR σ → j < sR σ → ra i = ra j → i = j := h.2.2.2.2.2.2.2.2.2.2.2.2.2.2.2
theorem Dc.fr {cs : Nat → ClassId} {μ μ' : fm_Mu} {h a : Nat} {co v : Int} (hd : Dc cs μ h a co v) (hk : ∀ b e, (b = h ∨ b = a) → μ b = some e → refK e = false → μ' b = some e) : Dc cs μ' h a co v := by
  obtain ⟨F, h1, h2, h3, h4⟩ := hd
  exact ⟨F, hk _ _ (Or.inl rfl) h1 rfl, hk _ _ (Or.inr rfl) h2 rfl, h3, h4⟩
theorem Da.fr {cs : Nat → ClassId} {μ μ' : fm_Mu} {h a : Nat} (hd : Da cs μ h a) (hk : ∀ b e, (b = h ∨ b = a) → μ b = some e → refK e = false → μ' b = some e) : Da cs μ' h a := by
  obtain ⟨co, sg, t, ct, F, h1, h2⟩ := hd
  exact ⟨co, sg, t, ct, F, hk _ _ (Or.inl rfl) h1 rfl, hk _ _ (Or.inr rfl) h2 rfl⟩
theorem Dc.a {cs : Nat → ClassId} {μ : fm_Mu} {h a : Nat} {co v : Int} (hd : Dc cs μ h a co v) : Da cs μ h a := by
  obtain ⟨F, h1, h2, h3, h4⟩ := hd
  exact ⟨_, _, _, _, F, h1, h2⟩
section AfS
variable {cs : Nat → ClassId} {μ μ' : fm_Mu} {x kc kn kr wd lf : Nat} {da dl ra : Nat → Nat} {σ : Sg}
theorem afS.fr (h : afS cs μ x kc kn kr wd lf da dl ra σ) (hk : kpC μ μ') : afS cs μ' x kc kn kr wd lf da dl ra σ := by
  obtain ⟨G, hG⟩ := h.cw
  obtain ⟨X, hX⟩ := h.cl
  obtain ⟨f, hf, hf2⟩ := h.cn
  obtain ⟨g, hg, hg2⟩ := h.cr
  exact ⟨h.ok, hk _ _ h.cx rfl, hk _ _ h.ck rfl, ⟨G, hk _ _ hG rfl⟩, ⟨X, hk _ _ hX rfl⟩, ⟨f, hk _ _ hf rfl, hf2⟩, ⟨g, hk _ _ hg rfl, hg2⟩, h.d0.fr (fun b e _ => hk b e), h.d1.fr (fun b e _ => hk b e), h.d2.fr (fun b e _ => hk b e), h.d3.fr (fun b e _ => hk b e), fun i hi => (h.dN i hi).fr (fun b e _ => hk b e), fun i hi => hk _ _ (h.rc i hi) rfl, h.ia, h.il, h.ir⟩
theorem afS.dx (h : afS cs μ x kc kn kr wd lf da dl ra σ) {i : Nat} (hi : i < 4 + sC σ) : Da cs μ (da i) (dl i) := by
  rcases (show i = 0 ∨ i = 1 ∨ i = 2 ∨ i = 3 ∨ ∃ j, i = 4 + j by by_cases e : i < 4; omega; exact Or.inr (Or.inr (Or.inr (Or.inr ⟨i - 4, by omega⟩)))) with e | e | e | e | ⟨j, e⟩
  · rw [e]; exact h.d0.a
  · rw [e]; exact h.d1
  · rw [e]; exact h.d2
  · rw [e]; exact h.d3
  · rw [e]; exact (h.dN j (by omega)).a
/-- a node is kept -/
theorem afS.addN (h : afS cs μ x kc kn kr wd lf da dl ra σ) {a1 a2 : Nat} {w : Int × Int} {f1 : Nat → Option Nat} (hf1 : ∀ f : Nat → Option Nat, μ kn = some (qE (cs 3) 100 f) → f1 = uF f (sC σ) (some a1)) (hc : sC σ < 100) (hnd : ndOk w) (n1 : μ a1 = none) (n2 : μ a2 = none) (hO : fm_O μ μ' [a1, a2, x, kn, wd, lf]) (cx' : μ' x = some (oE 0 [.ref kc, .ref kn, .int (iN ((sC σ : Int) + 1)), .ref kr, .int (iN (sR σ : Int)), .int (iN (sL σ)), .ref (da 1), .ref (da 2), .ref (da 3)])) (cn' : μ' kn = some (qE (cs 3) 100 f1)) (cw' : ∃ G : Int → Int, μ' wd = some (lE cs 30 G)) (cl' : ∃ X : Int → Int, μ' lf = some (lE cs 5 X)) (hD : Dc cs μ' a1 a2 w.1 w.2) : afS cs μ' x kc kn kr wd lf (uF da (4 + sC σ) a1) (uF dl (4 + sC σ) a2) ra (addNode σ w) := by
  obtain ⟨G, hG⟩ := h.cw
  obtain ⟨X, hX⟩ := h.cl
  obtain ⟨f, hf, hf2⟩ := h.cn
  obtain ⟨g, hg, hg2⟩ := h.cr
  have hf1' := hf1 f hf
  have kD : ∀ {b : Nat} {e : va_E}, μ b = some e → (kd e == (0, 0)) = false → (kd e == (3, 100)) = false → (kd e == (2, 30)) = false → (kd e == (2, 5)) = false → μ' b = some e := fun hb k1 k2 k3 k4 => hO.at (nmc (nn_ne hb n1) (nmc (nn_ne hb n2) (nmc (fm_kn hb h.cx k1) (nmc (fm_kn hb hf k2) (nmc (fm_kn hb hG k3) (nmc (fm_kn hb hX k4) nm0)))))) hb
  have kDc : ∀ {a b : Nat} {co v : Int}, Dc cs μ a b co v → Dc cs μ' a b co v := fun hd => by
    obtain ⟨F, h1, h2, h3, h4⟩ := hd
    exact ⟨F, kD h1 rfl rfl rfl rfl, kD h2 rfl rfl rfl rfl, h3, h4⟩
  have kDa : ∀ {a b : Nat}, Da cs μ a b → Da cs μ' a b := fun hd => by
    obtain ⟨co, sg, t, ct, F, h1, h2⟩ := hd
    exact ⟨co, sg, t, ct, F, kD h1 rfl rfl rfl rfl, kD h2 rfl rfl rfl rfl⟩
  have u : ∀ {d : Nat → Nat} {a i : Nat}, i < 4 + sC σ → uF d (4 + sC σ) a i = d i := fun hi => uF_n (by omega)
  have ddif : ∀ i, i < 4 + sC σ → da i ≠ a1 ∧ dl i ≠ a2 := fun i hi => by
    obtain ⟨co, sg, t, ct, F, h1, h2⟩ := h.dx hi
    exact ⟨nn_ne h1 n1, nn_ne h2 n2⟩
  have inj : ∀ {d : Nat → Nat} {a : Nat}, (∀ i j, i < 4 + sC σ → j < 4 + sC σ → d i = d j → i = j) → (∀ i, i < 4 + sC σ → d i ≠ a) → ∀ i j, i < 4 + (sC σ + 1) → j < 4 + (sC σ + 1) → uF d (4 + sC σ) a i = uF d (4 + sC σ) a j → i = j := fun {d a} hi hn i j h1 h2 e => by
    by_cases e1 : i = 4 + sC σ
    · by_cases e2 : j = 4 + sC σ
      · omega
      · rw [e1, uF_s, uF_n e2] at e; exact absurd e.symm (hn j (by omega))
    · by_cases e2 : j = 4 + sC σ
      · rw [e2, uF_s, uF_n e1] at e; exact absurd e (hn i (by omega))
      · rw [uF_n e1, uF_n e2] at e; exact hi i j (by omega) (by omega) e
  refine ⟨addNode_ok h.ok hc hnd, ?_, ?_, cw', cl', ⟨f1, cn', fun i hi => ?_⟩, ⟨g, kD hg rfl rfl rfl rfl, hg2⟩, ?_, ?_, ?_, ?_, fun i hi => ?_, fun i hi => kD (h.rc i hi) rfl rfl rfl rfl, inj h.ia (fun i hi => (ddif i hi).1), inj h.il (fun i hi => (ddif i hi).2), h.ir⟩
  · rw [u (by omega), u (by omega), u (by omega)]; exact cx'
  · rw [u (by omega)]; exact kD h.ck rfl rfl rfl rfl
  · have hi2 : i < sC σ + 1 := hi
    rw [hf1']
    by_cases e : i = sC σ
    · rw [e, uF_s, uF_s]
    · rw [uF_n e, u (by omega)]; exact hf2 i (by omega)
  · rw [u (by omega), u (by omega)]; exact kDc h.d0
  · rw [u (by omega), u (by omega)]; exact kDa h.d1
  · rw [u (by omega), u (by omega)]; exact kDa h.d2
  · rw [u (by omega), u (by omega)]; exact kDa h.d3
  · have hi2 : i < sC σ + 1 := hi
    show Dc cs μ' _ _ (uF (sN σ) (sC σ + 1) w (i + 1)).1 (uF (sN σ) (sC σ + 1) w (i + 1)).2
    by_cases e : i = sC σ
    · rw [e, uF_s, uF_s, uF_s]; exact hD
    · rw [u (by omega), u (by omega), uF_n (by omega)]; exact kDc (h.dN i (by omega))
/-- a receiver is made -/
theorem afS.addR (h : afS cs μ x kc kn kr wd lf da dl ra σ) {a1 : Nat} {d s ro : Int} {f1 : Nat → Option Nat} (hf1 : ∀ f : Nat → Option Nat, μ kr = some (qE (cs 4) 20 f) → f1 = uF f (sR σ) (some a1)) (hc : sR σ < 20) (hd : 1 ≤ d ∧ d ≤ 18 ∧ 0 ≤ s ∧ s ≤ d ∧ 0 ≤ ro ∧ ro ≤ 7) (n1 : μ a1 = none) (hO : fm_O μ μ' [a1, x, kr]) (cx' : μ' x = some (oE 0 [.ref kc, .ref kn, .int (iN (sC σ : Int)), .ref kr, .int (iN ((sR σ : Int) + 1)), .int (iN (sL σ)), .ref (da 1), .ref (da 2), .ref (da 3)])) (cr' : μ' kr = some (qE (cs 4) 20 f1)) (hD : μ' a1 = some (rE (d, s, ro, 0, 0, 0))) : afS cs μ' x kc kn kr wd lf da dl (uF ra (sR σ) a1) (addRec σ (d, s, ro, 0, 0, 0)) := by
  obtain ⟨G, hG⟩ := h.cw
  obtain ⟨X, hX⟩ := h.cl
  obtain ⟨f, hf, hf2⟩ := h.cn
  obtain ⟨g, hg, hg2⟩ := h.cr
  have hf1' := hf1 g hg
  have kD : ∀ {b : Nat} {e : va_E}, μ b = some e → (kd e == (0, 0)) = false → (kd e == (3, 20)) = false → μ' b = some e := fun hb k1 k2 => hO.at (nmc (nn_ne hb n1) (nmc (fm_kn hb h.cx k1) (nmc (fm_kn hb hg k2) nm0))) hb
  have kDc : ∀ {a b : Nat} {co v : Int}, Dc cs μ a b co v → Dc cs μ' a b co v := fun hd => by
    obtain ⟨F, h1, h2, h3, h4⟩ := hd
    exact ⟨F, kD h1 rfl rfl, kD h2 rfl rfl, h3, h4⟩
  have kDa : ∀ {a b : Nat}, Da cs μ a b → Da cs μ' a b := fun hd => by
    obtain ⟨co, sg, t, ct, F, h1, h2⟩ := hd
    exact ⟨co, sg, t, ct, F, kD h1 rfl rfl, kD h2 rfl rfl⟩
  refine ⟨?_, cx', kD h.ck rfl rfl, ⟨G, kD hG rfl rfl⟩, ⟨X, kD hX rfl rfl⟩, ⟨f, kD hf rfl rfl, hf2⟩, ⟨f1, cr', fun i hi => ?_⟩, kDc h.d0, kDa h.d1, kDa h.d2, kDa h.d3, fun i hi => kDc (h.dN i hi), fun i hi => ?_, h.ia, h.il, fun i j hi hj e => ?_⟩
  · obtain ⟨a1, a2, a3, a4, a5, a6, a7, a8⟩ := h.ok
    refine ⟨a1, a2, a3, hc, a5, a6, a7, fun x b c => ?_⟩
    show rcOk (uF (sQ σ) (sR σ + 1) (d, s, ro, 0, 0, 0) x)
    by_cases e : x = sR σ + 1
    · rw [e, uF_s]; exact ⟨hd.1, hd.2.1, hd.2.2.1, hd.2.2.2.1, hd.2.2.2.2.1, hd.2.2.2.2.2, p10N _, p10N _, Or.inl rfl⟩
    · rw [uF_n e]; have c2 : x ≤ sR σ + 1 := c; exact a8 x b (by omega)
  · have hi2 : i < sR σ + 1 := hi
    rw [hf1']
    by_cases e : i = sR σ
    · rw [e, uF_s, uF_s]
    · rw [uF_n e, uF_n e]; exact hg2 i (by omega)
  · have hi2 : i < sR σ + 1 := hi
    show μ' _ = some (rE (uF (sQ σ) (sR σ + 1) (d, s, ro, 0, 0, 0) (i + 1)))
    by_cases e : i = sR σ
    · rw [e, uF_s, uF_s]; exact hD
    · rw [uF_n e, uF_n (by omega)]; exact kD (h.rc i (by omega)) rfl rfl
  · have hi2 : i < sR σ + 1 := hi
    have hj2 : j < sR σ + 1 := hj
    by_cases e1 : i = sR σ
    · by_cases e2 : j = sR σ
      · omega
      · rw [e1, uF_s, uF_n e2] at e; exact absurd e.symm (nn_ne (h.rc j (by omega)) n1)
    · by_cases e2 : j = sR σ
      · rw [e2, uF_s, uF_n e1] at e; exact absurd e (nn_ne (h.rc i (by omega)) n1)
      · rw [uF_n e1, uF_n e2] at e; exact h.ir i j (by omega) (by omega) e
/-- a statement's part: one receiver is changed -/
theorem afS.give (h : afS cs μ x kc kn kr wd lf da dl ra σ) {i : Nat} {q : Rec6} {lat : Int} (hi : i < sR σ) (hq : rcOk q) (hlat : 0 ≤ lat ∧ lat ≤ 3) (hO : fm_O μ μ' [x, ra i, da 1, dl 1, da 2, dl 2, da 3, dl 3, wd, lf]) (cx' : μ' x = some (oE 0 [.ref kc, .ref kn, .int (iN (sC σ : Int)), .ref kr, .int (iN (sR σ : Int)), .int (iN lat), .ref (da 1), .ref (da 2), .ref (da 3)])) (cr' : μ' (ra i) = some (rE q)) (cw' : ∃ G : Int → Int, μ' wd = some (lE cs 30 G)) (cl' : ∃ X : Int → Int, μ' lf = some (lE cs 5 X)) (e1 : Da cs μ' (da 1) (dl 1)) (e2 : Da cs μ' (da 2) (dl 2)) (e3 : Da cs μ' (da 3) (dl 3)) : afS cs μ' x kc kn kr wd lf da dl ra (setRL σ (i + 1) q lat) := by
  obtain ⟨G, hG⟩ := h.cw
  obtain ⟨X, hX⟩ := h.cl
  obtain ⟨f, hf, hf2⟩ := h.cn
  obtain ⟨g, hg, hg2⟩ := h.cr
  obtain ⟨_, _, _, _, _, p1, l1⟩ := h.d1
  obtain ⟨_, _, _, _, _, p2, l2⟩ := h.d2
  obtain ⟨_, _, _, _, _, p3, l3⟩ := h.d3
  have kD : ∀ {b : Nat} {e : va_E}, μ b = some e → (kd e == (0, 0)) = false → (kd e == (2, 30)) = false → (kd e == (2, 5)) = false → b ≠ ra i → b ≠ da 1 → b ≠ dl 1 → b ≠ da 2 → b ≠ dl 2 → b ≠ da 3 → b ≠ dl 3 → μ' b = some e := fun hb k1 k2 k3 a1 a2 a3 a4 a5 a6 a7 => hO.at (nmc (fm_kn hb h.cx k1) (nmc a1 (nmc a2 (nmc a3 (nmc a4 (nmc a5 (nmc a6 (nmc a7 (nmc (fm_kn hb hG k2) (nmc (fm_kn hb hX k3) nm0)))))))))) hb
  have kO : ∀ {b : Nat} {e : va_E}, μ b = some e → (kd e == (0, 0)) = false → (kd e == (2, 30)) = false → (kd e == (2, 5)) = false → (kd e == (0, 3)) = false → (kd e == (0, 2)) = false → (kd e == (2, 4)) = false → μ' b = some e := fun hb k1 k2 k3 k4 k5 k6 => kD hb k1 k2 k3 (fm_kn hb (h.rc i hi) k4) (fm_kn hb p1 k5) (fm_kn hb l1 k6) (fm_kn hb p2 k5) (fm_kn hb l2 k6) (fm_kn hb p3 k5) (fm_kn hb l3 k6)
  have kDc : ∀ {j : Nat} {co v : Int}, (j = 0 ∨ 4 ≤ j) → j < 4 + sC σ → Dc cs μ (da j) (dl j) co v → Dc cs μ' (da j) (dl j) co v := fun {j co v} hj hj2 hd => by
    obtain ⟨F, h1, h2, h3, h4⟩ := hd
    have na : ∀ k, k < 4 → k ≠ 0 → da j ≠ da k := fun k hk hk0 e => by have := h.ia j k hj2 (by omega) e; omega
    have nl : ∀ k, k < 4 → k ≠ 0 → dl j ≠ dl k := fun k hk hk0 e => by have := h.il j k hj2 (by omega) e; omega
    exact ⟨F, kD h1 rfl rfl rfl (fm_kn h1 (h.rc i hi) rfl) (na 1 (by omega) (by omega)) (fm_kn h1 l1 rfl) (na 2 (by omega) (by omega)) (fm_kn h1 l2 rfl) (na 3 (by omega) (by omega)) (fm_kn h1 l3 rfl), kD h2 rfl rfl rfl (fm_kn h2 (h.rc i hi) rfl) (fm_kn h2 p1 rfl) (nl 1 (by omega) (by omega)) (fm_kn h2 p2 rfl) (nl 2 (by omega) (by omega)) (fm_kn h2 p3 rfl) (nl 3 (by omega) (by omega)), h3, h4⟩
  refine ⟨?_, cx', kO h.ck rfl rfl rfl rfl rfl rfl, cw', cl', ⟨f, kO hf rfl rfl rfl rfl rfl rfl, hf2⟩, ⟨g, kO hg rfl rfl rfl rfl rfl rfl, hg2⟩, kDc (Or.inl rfl) (by omega) h.d0, e1, e2, e3, fun j hj => kDc (Or.inr (by omega)) (Nat.add_lt_add_left hj 4) (h.dN j hj), fun j hj => ?_, h.ia, h.il, h.ir⟩
  · obtain ⟨a1, a2, a3, a4, a5, a6, a7, a8⟩ := h.ok
    refine ⟨a1, a2, a3, a4, hlat.1, hlat.2, a7, fun x b c => ?_⟩
    show rcOk (uF (sQ σ) (i + 1) q x)
    by_cases e : x = i + 1
    · rw [e, uF_s]; exact hq
    · rw [uF_n e]; exact a8 x b c
  · show μ' (ra j) = some (rE (uF (sQ σ) (i + 1) q (j + 1)))
    by_cases e : j = i
    · rw [e, uF_s]; exact cr'
    · rw [uF_n (by omega)]
      have c := h.rc j hj
      exact kD c rfl rfl rfl (fun e2 => e (h.ir j i hj hi e2)) (fm_kn c p1 rfl) (fm_kn c l1 rfl) (fm_kn c p2 rfl) (fm_kn c l2 rfl) (fm_kn c p3 rfl) (fm_kn c l3 rfl)
/-- only the latest is changed -/
theorem afS.lat (h : afS cs μ x kc kn kr wd lf da dl ra σ) {lat : Int} (hlat : 0 ≤ lat ∧ lat ≤ 3) (hO : fm_O μ μ' [x]) (cx' : μ' x = some (oE 0 [.ref kc, .ref kn, .int (iN (sC σ : Int)), .ref kr, .int (iN (sR σ : Int)), .int (iN lat), .ref (da 1), .ref (da 2), .ref (da 3)])) : afS cs μ' x kc kn kr wd lf da dl ra (sP σ, sC σ, sN σ, sR σ, sQ σ, lat) := by
  obtain ⟨G, hG⟩ := h.cw
  obtain ⟨X, hX⟩ := h.cl
  obtain ⟨f, hf, hf2⟩ := h.cn
  obtain ⟨g, hg, hg2⟩ := h.cr
  have kD : ∀ {b : Nat} {e : va_E}, μ b = some e → (kd e == (0, 0)) = false → μ' b = some e := fun hb k1 => hO.at (nm1 (fm_kn hb h.cx k1)) hb
  have kDc : ∀ {a b : Nat} {co v : Int}, Dc cs μ a b co v → Dc cs μ' a b co v := fun hd => by
    obtain ⟨F, h1, h2, h3, h4⟩ := hd
    exact ⟨F, kD h1 rfl, kD h2 rfl, h3, h4⟩
  have kDa : ∀ {a b : Nat}, Da cs μ a b → Da cs μ' a b := fun hd => by
    obtain ⟨co, sg, t, ct, F, h1, h2⟩ := hd
    exact ⟨co, sg, t, ct, F, kD h1 rfl, kD h2 rfl⟩
  obtain ⟨a1, a2, a3, a4, a5, a6, a7, a8⟩ := h.ok
  exact ⟨⟨a1, a2, a3, a4, hlat.1, hlat.2, a7, a8⟩, cx', kD h.ck rfl, ⟨G, kD hG rfl⟩, ⟨X, kD hX rfl⟩, ⟨f, kD hf rfl, hf2⟩, ⟨g, kD hg rfl, hg2⟩, kDc h.d0, kDa h.d1, kDa h.d2, kDa h.d3, fun i hi => kDc (h.dN i hi), fun i hi => kD (h.rc i hi) rfl, h.ia, h.il, h.ir⟩
/-- one receiver is changed, nothing else -/
theorem afS.setR (h : afS cs μ x kc kn kr wd lf da dl ra σ) {i : Nat} {q : Rec6} (hi : i < sR σ) (hq : rcOk q) (hO : fm_O μ μ' [ra i]) (cr' : μ' (ra i) = some (rE q)) : afS cs μ' x kc kn kr wd lf da dl ra (setRec σ (i + 1) q) := by
  obtain ⟨a1, a2, a3, a4, a5, a6, a7, a8⟩ := h.ok
  obtain ⟨G, hG⟩ := h.cw
  obtain ⟨X, hX⟩ := h.cl
  have kD : ∀ {b : Nat} {e : va_E}, μ b = some e → (kd e == (0, 3)) = false → μ' b = some e := fun hb k1 => hO.at (nm1 (fm_kn hb (h.rc i hi) k1)) hb
  have kDa : ∀ {a b : Nat}, Da cs μ a b → Da cs μ' a b := fun hd => by
    obtain ⟨co, sg, t, ct, F, h1, h2⟩ := hd
    exact ⟨co, sg, t, ct, F, kD h1 rfl, kD h2 rfl⟩
  exact h.give (lat := sL σ) hi hq ⟨a5, a6⟩ (hO.mono (by intro q hq; simp at hq ⊢; exact Or.inr (Or.inl hq))) (kD h.cx rfl) cr' ⟨G, kD hG rfl⟩ ⟨X, kD hX rfl⟩ (kDa h.d1) (kDa h.d2) (kDa h.d3)
end AfS
