-- FLAT MEMORY (own work): a memory is a partial map from addresses to cells; the kit's worlds are lists that hold just its cells. Numbers are written iN x, jN x with x : Int.
abbrev fm_Mu : Type := Nat → Option va_E
def fm_up (μ : fm_Mu) (a : Nat) (e : va_E) : fm_Mu := fun q => if q = a then some e else μ q
theorem fm_up_s (μ : fm_Mu) (a : Nat) (e : va_E) : fm_up μ a e a = some e := by simp [fm_up]
theorem fm_up_n {μ : fm_Mu} {a b : Nat} {e : va_E} (h : b ≠ a) : fm_up μ a e b = μ b := by simp [fm_up, h]
/-- off the addresses of l nothing differs -/
def fm_O (μ μ' : fm_Mu) (l : List Nat) : Prop := ∀ q, q ∉ l → μ' q = μ q
theorem fm_O.rf {μ : fm_Mu} {l : List Nat} : fm_O μ μ l := fun _ _ => rfl
theorem fm_O.tr {μ μ' μ'' : fm_Mu} {l : List Nat} (h1 : fm_O μ μ' l) (h2 : fm_O μ' μ'' l) : fm_O μ μ'' l := fun q h => (h2 q h).trans (h1 q h)
theorem fm_O.mono {μ μ' : fm_Mu} {l l' : List Nat} (h1 : fm_O μ μ' l) (h : ∀ q, q ∈ l → q ∈ l') : fm_O μ μ' l' := fun q hq => h1 q (fun h2 => hq (h q h2))
theorem fm_O.at {μ μ' : fm_Mu} {l : List Nat} {b : Nat} {x : Option va_E} (h : fm_O μ μ' l) (hb : b ∉ l) (hx : μ b = x) : μ' b = x := (h b hb).trans hx
theorem fm_ne {μ : fm_Mu} {a b : Nat} {e e' : va_E} (h1 : μ a = some e) (h2 : μ b = some e') (h : e ≠ e') : a ≠ b := fun q => by subst q; rw [h1] at h2; exact h (Option.some.inj h2)
theorem fm_oa {μ : fm_Mu} {a b ci : Nat} {fs : List Value} {x : ClassId × vp_A} (h1 : μ a = some (.inr (ci, fs))) (h2 : μ b = some (.inl x)) : a ≠ b := fm_ne h1 h2 (fun h => by cases h)
theorem fm_ao {μ : fm_Mu} {a b ci : Nat} {fs : List Value} {x : ClassId × vp_A} (h1 : μ a = some (.inl x)) (h2 : μ b = some (.inr (ci, fs))) : a ≠ b := fm_ne h1 h2 (fun h => by cases h)
theorem fm_oo {μ : fm_Mu} {a b ci cj : Nat} {fs gs : List Value} (h1 : μ a = some (.inr (ci, fs))) (h2 : μ b = some (.inr (cj, gs))) (h : ci ≠ cj) : a ≠ b := fm_ne h1 h2 (fun q => by injection q with q; exact h (congrArg Prod.fst q))
theorem fm_nn {μ : fm_Mu} {a b : Nat} {e : va_E} (h1 : μ a = some e) (h2 : μ b = none) : a ≠ b := fun q => by subst q; rw [h1] at h2; cases h2
-- numbers
def iN (x : Int) : Int32 := Int32.ofInt x
def jN (x : Int) : Int64 := Int64.ofInt x
abbrev inI (x : Int) : Prop := -2147483648 ≤ x ∧ x ≤ 2147483647
abbrev inJ (x : Int) : Prop := -9223372036854775808 ≤ x ∧ x ≤ 9223372036854775807
theorem iN_toInt {x : Int} (h : inI x) : (iN x).toInt = x := Int32.toInt_ofInt_of_le (by omega) (by omega)
theorem jN_toInt {x : Int} (h : inJ x) : (jN x).toInt = x := Int64.toInt_ofInt_of_le (by omega) (by omega)
theorem iN_of (x : Int32) : iN x.toInt = x := Int32.ofInt_toInt x
theorem jN_of (x : Int64) : jN x.toInt = x := Int64.ofInt_toInt x
theorem iN_in (x : Int32) : inI x.toInt := by have h1 := x.le_toInt; have h2 := x.toInt_lt; omega
theorem jN_in (x : Int64) : inJ x.toInt := by have h1 := x.le_toInt; have h2 := x.toInt_lt; omega
theorem iN_ex (x : Int32) : ∃ n : Int, inI n ∧ x = iN n := ⟨x.toInt, iN_in x, (iN_of x).symm⟩
theorem jN_ex (x : Int64) : ∃ n : Int, inJ n ∧ x = jN n := ⟨x.toInt, jN_in x, (jN_of x).symm⟩
theorem iN_add (x y : Int) : iN x + iN y = iN (x + y) := (Int32.ofInt_add x y).symm
theorem iN_sub (x y : Int) : iN x - iN y = iN (x - y) := (Int32.ofInt_sub x y).symm
theorem iN_mul (x y : Int) : iN x * iN y = iN (x * y) := (Int32.ofInt_mul x y).symm
theorem iN_neg (x : Int) : - iN x = iN (- x) := (Int32.ofInt_neg x).symm
theorem jN_add (x y : Int) : jN x + jN y = jN (x + y) := (Int64.ofInt_add x y).symm
theorem jN_sub (x y : Int) : jN x - jN y = jN (x - y) := (Int64.ofInt_sub x y).symm
theorem jN_mul (x y : Int) : jN x * jN y = jN (x * y) := (Int64.ofInt_mul x y).symm
theorem jN_neg (x : Int) : - jN x = jN (- x) := (Int64.ofInt_neg x).symm
theorem iN_lt {x y : Int} (hx : inI x) (hy : inI y) : iN x < iN y ↔ x < y := by rw [Int32.lt_iff_toInt_lt, iN_toInt hx, iN_toInt hy]
theorem iN_le {x y : Int} (hx : inI x) (hy : inI y) : iN x ≤ iN y ↔ x ≤ y := by rw [Int32.le_iff_toInt_le, iN_toInt hx, iN_toInt hy]
theorem iN_eq {x y : Int} (hx : inI x) (hy : inI y) : iN x = iN y ↔ x = y := by rw [← Int32.toInt_inj, iN_toInt hx, iN_toInt hy]
theorem jN_lt {x y : Int} (hx : inJ x) (hy : inJ y) : jN x < jN y ↔ x < y := by rw [Int64.lt_iff_toInt_lt, jN_toInt hx, jN_toInt hy]
theorem jN_le {x y : Int} (hx : inJ x) (hy : inJ y) : jN x ≤ jN y ↔ x ≤ y := by rw [Int64.le_iff_toInt_le, jN_toInt hx, jN_toInt hy]
theorem jN_eq {x y : Int} (hx : inJ x) (hy : inJ y) : jN x = jN y ↔ x = y := by rw [← Int64.toInt_inj, jN_toInt hx, jN_toInt hy]
theorem iN_z : iN 0 = 0 := by decide
theorem jN_z : jN 0 = 0 := by decide
theorem inI_0 : inI 0 := by decide
theorem inJ_0 : inJ 0 := by decide
theorem iN_ne0 {x : Int} (hx : inI x) (h : x ≠ 0) : ¬ iN x = 0 := fun q => h ((iN_eq hx inI_0).mp (q.trans iN_z.symm))
theorem jN_ne0 {x : Int} (hx : inJ x) (h : x ≠ 0) : ¬ jN x = 0 := fun q => h ((jN_eq hx inJ_0).mp (q.trans jN_z.symm))
theorem iN_tdiv {x y : Int} (hx : inI x) (hy : inI y) (h : x ≠ -2147483648 ∨ y ≠ -1) : iN x / iN y = iN (x.tdiv y) := by
  apply Int32.toInt_inj.mp
  have e : (iN x / iN y).toInt = x.tdiv y := by
    rcases h with h | h
    · rw [Int32.toInt_div_of_ne_left _ _ (fun q => h (by rw [← iN_toInt hx, q]; rfl)), iN_toInt hx, iN_toInt hy]
    · rw [Int32.toInt_div_of_ne_right _ _ (fun q => h (by rw [← iN_toInt hy, q]; rfl)), iN_toInt hx, iN_toInt hy]
  rw [e]
  have h2 : inI (x.tdiv y) := by rw [← e]; exact iN_in _
  rw [iN_toInt h2]
theorem jN_tdiv {x y : Int} (hx : inJ x) (hy : inJ y) (h : x ≠ -9223372036854775808 ∨ y ≠ -1) : jN x / jN y = jN (x.tdiv y) := by
  apply Int64.toInt_inj.mp
  have e : (jN x / jN y).toInt = x.tdiv y := by
    rcases h with h | h
    · rw [Int64.toInt_div_of_ne_left _ _ (fun q => h (by rw [← jN_toInt hx, q]; rfl)), jN_toInt hx, jN_toInt hy]
    · rw [Int64.toInt_div_of_ne_right _ _ (fun q => h (by rw [← jN_toInt hy, q]; rfl)), jN_toInt hx, jN_toInt hy]
  rw [e]
  have h2 : inJ (x.tdiv y) := by rw [← e]; exact jN_in _
  rw [jN_toInt h2]
theorem tm_def (x y : Int) : x - x.tdiv y * y = x.tmod y := by have h := Int.tdiv_mul_add_tmod x y; omega
theorem iN_trem {x y : Int} (hx : inI x) (hy : inI y) (h : x ≠ -2147483648 ∨ y ≠ -1) : iN x - iN x / iN y * iN y = iN (x.tmod y) := by rw [iN_tdiv hx hy h, iN_mul, iN_sub, tm_def]
theorem jN_trem {x y : Int} (hx : inJ x) (hy : inJ y) (h : x ≠ -9223372036854775808 ∨ y ≠ -1) : jN x - jN x / jN y * jN y = jN (x.tmod y) := by rw [jN_tdiv hx hy h, jN_mul, jN_sub, tm_def]
theorem jN_i {x : Int} : (jN x).toInt32 = iN x := Int64.toInt32_ofInt
theorem iN_j {x : Int} (h : inI x) : (iN x).toInt64 = jN x := by
  apply Int64.toInt_inj.mp
  rw [Int32.toInt_toInt64, iN_toInt h, jN_toInt (by omega)]
theorem iN_cl {x : Int} (h0 : 0 ≤ x) (h : x ≤ 2147483647) : (iN x).toNatClampNeg = x.toNat := by
  show (iN x).toInt.toNat = _
  rw [iN_toInt ⟨by omega, h⟩]
theorem iN_vin {x : Int} {n : Nat} (h0 : 0 ≤ x) (h : x < (n : Int)) (hn : n < 2147483648) : vp_in (iN x) n := by
  rw [vp_in_iff, iN_toInt (by omega)]
  exact ⟨h0, h⟩
-- memory and heap
def fm_M (D : va_G) (cl : List vw_C) (A : Nat → Prop) (μ : fm_Mu) (H : Heap) : Prop := ∃ ws : va_W, (∀ a e, μ a = some e → ∃ k : Nat, ws[k]? = some (a, e)) ∧ (∀ (k : Nat) (q : Nat × va_E), ws[k]? = some q → μ q.1 = some q.2) ∧ va_P D cl ws H ∧ va_D A ws
/-- memory, and since H0 nothing outside A has changed -/
def fm_W (D : va_G) (cl : List vw_C) (A : Nat → Prop) (H0 : Heap) (μ : fm_Mu) (H : Heap) (locs : List Loc) : Prop := fm_M D cl A μ H ∧ va_S A H0 H locs
theorem fm_M.set {D : va_G} {cl : List vw_C} {A : Nat → Prop} {μ : fm_Mu} {H1 : Heap} {ws : va_W} {q0 a : Nat} {e0 e1 : va_E} (h1 : ∀ a e, μ a = some e → ∃ k : Nat, ws[k]? = some (a, e)) (h2 : ∀ (k : Nat) (q : Nat × va_E), ws[k]? = some q → μ q.1 = some q.2) (hD0 : va_D A ws) (hq : ws[q0]? = some (a, e0)) (hP : va_P D cl (ws.set q0 (a, e1)) H1) (hD : va_D A (ws.set q0 (a, e1))) : fm_M D cl A (fm_up μ a e1) H1 := by
  have hlt := (List.getElem?_eq_some_iff.mp hq).1
  have hself : (ws.set q0 (a, e1))[q0]? = some (a, e1) := by simp [hlt]
  refine ⟨ws.set q0 (a, e1), ?_, ?_, hP, hD⟩
  · intro b e hb
    by_cases hba : b = a
    · subst hba
      rw [fm_up_s] at hb
      cases hb
      exact ⟨q0, hself⟩
    · rw [fm_up_n hba] at hb
      obtain ⟨k, hk⟩ := h1 b e hb
      have hne : q0 ≠ k := fun h => by subst h; rw [hq] at hk; cases hk; exact hba rfl
      exact ⟨k, by rw [List.getElem?_set_ne hne]; exact hk⟩
  · intro k q hk
    by_cases hk0 : q0 = k
    · subst hk0
      rw [hself] at hk
      cases hk
      exact fm_up_s _ _ _
    · rw [List.getElem?_set_ne hk0] at hk
      have hne : q.1 ≠ a := fun h => hk0 (hD0.1 q0 k _ _ hq hk h.symm)
      rw [fm_up_n hne]
      exact h2 k q hk
theorem fm_M.push {D : va_G} {cl : List vw_C} {A : Nat → Prop} {μ : fm_Mu} {H1 : Heap} {ws : va_W} {a : Nat} {e1 : va_E} (h1 : ∀ a e, μ a = some e → ∃ k : Nat, ws[k]? = some (a, e)) (h2 : ∀ (k : Nat) (q : Nat × va_E), ws[k]? = some q → μ q.1 = some q.2) (hP : va_P D cl (ws ++ [(a, e1)]) H1) (hD : va_D A (ws ++ [(a, e1)])) : μ a = none ∧ fm_M D cl A (fm_up μ a e1) H1 := by
  have hself : (ws ++ [(a, e1)])[ws.length]? = some (a, e1) := by simp
  have hold : ∀ (k : Nat) (q : Nat × va_E), ws[k]? = some q → (ws ++ [(a, e1)])[k]? = some q := fun k q hk => by
    rw [List.getElem?_append_left (List.getElem?_eq_some_iff.mp hk).1]; exact hk
  have hn : ∀ (k : Nat) (q : Nat × va_E), ws[k]? = some q → q.1 ≠ a := fun k q hk h => by
    have h3 := hD.1 k ws.length _ _ (hold k q hk) hself h
    have h4 := (List.getElem?_eq_some_iff.mp hk).1
    omega
  have hnone : μ a = none := by
    cases h : μ a with
    | none => rfl
    | some e =>
      obtain ⟨k, hk⟩ := h1 a e h
      exact absurd rfl (hn k _ hk)
  refine ⟨hnone, ws ++ [(a, e1)], ?_, ?_, hP, hD⟩
  · intro b e hb
    by_cases hba : b = a
    · subst hba
      rw [fm_up_s] at hb
      cases hb
      exact ⟨ws.length, hself⟩
    · rw [fm_up_n hba] at hb
      obtain ⟨k, hk⟩ := h1 b e hb
      exact ⟨k, hold k _ hk⟩
  · intro k q hk
    by_cases hk0 : k < ws.length
    · rw [List.getElem?_append_left hk0] at hk
      rw [fm_up_n (hn k q hk)]
      exact h2 k q hk
    · have h5 := (List.getElem?_eq_some_iff.mp hk).1
      simp at h5
      have h6 : k = ws.length := by omega
      subst h6
      rw [hself] at hk
      cases hk
      exact fm_up_s _ _ _
theorem fm_M.weaken {D : va_G} {cl : List vw_C} {A B : Nat → Prop} {μ : fm_Mu} {H : Heap} (h : fm_M D cl A μ H) (hAB : ∀ q, A q → B q) : fm_M D cl B μ H := by
  obtain ⟨ws, h1, h2, hP, hD⟩ := h
  exact ⟨ws, h1, h2, hP, hD.1, fun k q hk => hAB _ (hD.2 k q hk)⟩
theorem fm_M.in {D : va_G} {cl : List vw_C} {A : Nat → Prop} {μ : fm_Mu} {H : Heap} (h : fm_M D cl A μ H) {a : Nat} {e : va_E} (ha : μ a = some e) : A a := by
  obtain ⟨ws, h1, h2, hP, hD⟩ := h
  obtain ⟨k, hk⟩ := h1 a e ha
  exact hD.2 k _ hk
theorem fm_M.lt {D : va_G} {cl : List vw_C} {A : Nat → Prop} {μ : fm_Mu} {H : Heap} (h : fm_M D cl A μ H) {a : Nat} {e : va_E} (ha : μ a = some e) : a < H.size := by
  obtain ⟨ws, h1, h2, hP, hD⟩ := h
  obtain ⟨k, hk⟩ := h1 a e ha
  exact (hP k _ hk).lt
/-- a contract's own addresses: those of the memory, and all that come from sz on -/
def fm_A (μ : fm_Mu) (sz : Nat) : Nat → Prop := fun q => μ q ≠ none ∨ sz ≤ q
theorem fm_M.own {D : va_G} {cl : List vw_C} {A : Nat → Prop} {μ : fm_Mu} {H : Heap} {sz : Nat} (h : fm_M D cl A μ H) : fm_M D cl (fm_A μ sz) μ H := by
  obtain ⟨ws, h1, h2, hP, hD⟩ := h
  exact ⟨ws, h1, h2, hP, hD.1, fun k q hk => Or.inl (by rw [h2 k q hk]; exact Option.some_ne_none _)⟩
theorem fm_A.sub {D : va_G} {cl : List vw_C} {A : Nat → Prop} {H0 : Heap} {μ : fm_Mu} {H : Heap} {locs : List Loc} (h : fm_W D cl A H0 μ H locs) (hA : ∀ q, H0.size ≤ q → A q) : ∀ q, fm_A μ H.size q → A q := by
  intro q hq
  rcases hq with hq | hq
  · cases h1 : μ q with
    | none => exact absurd h1 hq
    | some e => exact h.1.in h1
  · exact hA q (Nat.le_trans h.2.1 hq)
