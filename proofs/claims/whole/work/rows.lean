section
-- FLAT MEMORY (own work): a memory is a partial map from addresses to cells; the kit's worlds are lists that hold just its cells. Numbers are written iN x, jN x with x : Int.
abbrev fm_Mu : Type := Nat → Option va_E
def fm_up (μ : fm_Mu) (a : Nat) (e : va_E) : fm_Mu := fun q => if q = a then some e else μ q
theorem fm_up_s (μ : fm_Mu) (a : Nat) (e : va_E) : fm_up μ a e a = some e := by simp [fm_up]
theorem fm_up_n {μ : fm_Mu} {a b : Nat} {e : va_E} (h : b ≠ a) : fm_up μ a e b = μ b := by simp [fm_up, h]
/-- off the addresses of l nothing differs -/
def fm_O (μ μ' : fm_Mu) (l : List Nat) : Prop := ∀ q, q ∉ l → μ' q = μ q
theorem fm_O.rf {μ : fm_Mu} {l : List Nat} : fm_O μ μ l := fun _ _ => rfl
theorem fm_O.tr {μ μ' μ'' : fm_Mu} {l : List Nat} (h1 : fm_O μ μ' l) (h2 : fm_O μ' μ'' l) : fm_O μ μ'' l := fun q h => (h2 q h).trans (h1 q h)
theorem fm_O.mono {μ μ' : fm_Mu} {l l' : List Nat} (h1 : fm_O μ μ' l) (h : ∀ q, q ∈ l → q ∈ l') : fm_O μ μ' l' := fun q hq => h1 q (fun h2 => hq (h q h2))
theorem fm_O.at {μ μ' : fm_Mu} {l : List Nat} {b : Nat} {x : Option va_E} (h : fm_O μ μ' l) (hb : b ∉ l) (hx : μ b = x) : μ' b = x := (h b hb).trans hx
theorem fm_ne {μ : fm_Mu} {a b : Nat} {e e' : va_E} (h1 : μ a = some e) (h2 : μ b = some e') (h : e ≠ e') : a ≠ b := fun q => by subst q; rw [h1] at h2; exact h (Option.some.inj h2)
theorem fm_oa {μ : fm_Mu} {a b ci : Nat} {fs : List Value} {x : ClassId × vp_A} (h1 : μ a = some (.inr (ci, fs))) (h2 : μ b = some (.inl x)) : a ≠ b := fm_ne h1 h2 (fun h => by cases h)
theorem fm_ao {μ : fm_Mu} {a b ci : Nat} {fs : List Value} {x : ClassId × vp_A} (h1 : μ a = some (.inl x)) (h2 : μ b = some (.inr (ci, fs))) : a ≠ b := fm_ne h1 h2 (fun h => by cases h)
theorem fm_oo {μ : fm_Mu} {a b ci cj : Nat} {fs gs : List Value} (h1 : μ a = some (.inr (ci, fs))) (h2 : μ b = some (.inr (cj, gs))) (h : ci ≠ cj) : a ≠ b := fm_ne h1 h2 (fun q => by injection q with q; exact h (congrArg Prod.fst q))
theorem fm_nn {μ : fm_Mu} {a b : Nat} {e : va_E} (h1 : μ a = some e) (h2 : μ b = none) : a ≠ b := fun q => by subst q; rw [h1] at h2; cases h2
-- numbers
def iN (x : Int) : Int32 := Int32.ofInt x
def jN (x : Int) : Int64 := Int64.ofInt x
abbrev inI (x : Int) : Prop := -2147483648 ≤ x ∧ x ≤ 2147483647
abbrev inJ (x : Int) : Prop := -9223372036854775808 ≤ x ∧ x ≤ 9223372036854775807
theorem iN_toInt {x : Int} (h : inI x) : (iN x).toInt = x := Int32.toInt_ofInt_of_le (by omega) (by omega)
theorem jN_toInt {x : Int} (h : inJ x) : (jN x).toInt = x := Int64.toInt_ofInt_of_le (by omega) (by omega)
theorem iN_of (x : Int32) : iN x.toInt = x := Int32.ofInt_toInt x
theorem jN_of (x : Int64) : jN x.toInt = x := Int64.ofInt_toInt x
theorem iN_in (x : Int32) : inI x.toInt := by have h1 := x.le_toInt; have h2 := x.toInt_lt; omega
theorem jN_in (x : Int64) : inJ x.toInt := by have h1 := x.le_toInt; have h2 := x.toInt_lt; omega
theorem iN_ex (x : Int32) : ∃ n : Int, inI n ∧ x = iN n := ⟨x.toInt, iN_in x, (iN_of x).symm⟩
theorem jN_ex (x : Int64) : ∃ n : Int, inJ n ∧ x = jN n := ⟨x.toInt, jN_in x, (jN_of x).symm⟩
theorem iN_add (x y : Int) : iN x + iN y = iN (x + y) := (Int32.ofInt_add x y).symm
theorem iN_sub (x y : Int) : iN x - iN y = iN (x - y) := (Int32.ofInt_sub x y).symm
theorem iN_mul (x y : Int) : iN x * iN y = iN (x * y) := (Int32.ofInt_mul x y).symm
theorem iN_neg (x : Int) : - iN x = iN (- x) := (Int32.ofInt_neg x).symm
theorem jN_add (x y : Int) : jN x + jN y = jN (x + y) := (Int64.ofInt_add x y).symm
theorem jN_sub (x y : Int) : jN x - jN y = jN (x - y) := (Int64.ofInt_sub x y).symm
theorem jN_mul (x y : Int) : jN x * jN y = jN (x * y) := (Int64.ofInt_mul x y).symm
theorem jN_neg (x : Int) : - jN x = jN (- x) := (Int64.ofInt_neg x).symm
theorem iN_lt {x y : Int} (hx : inI x) (hy : inI y) : iN x < iN y ↔ x < y := by rw [Int32.lt_iff_toInt_lt, iN_toInt hx, iN_toInt hy]
theorem iN_le {x y : Int} (hx : inI x) (hy : inI y) : iN x ≤ iN y ↔ x ≤ y := by rw [Int32.le_iff_toInt_le, iN_toInt hx, iN_toInt hy]
theorem iN_eq {x y : Int} (hx : inI x) (hy : inI y) : iN x = iN y ↔ x = y := by rw [← Int32.toInt_inj, iN_toInt hx, iN_toInt hy]
theorem jN_lt {x y : Int} (hx : inJ x) (hy : inJ y) : jN x < jN y ↔ x < y := by rw [Int64.lt_iff_toInt_lt, jN_toInt hx, jN_toInt hy]
theorem jN_le {x y : Int} (hx : inJ x) (hy : inJ y) : jN x ≤ jN y ↔ x ≤ y := by rw [Int64.le_iff_toInt_le, jN_toInt hx, jN_toInt hy]
theorem jN_eq {x y : Int} (hx : inJ x) (hy : inJ y) : jN x = jN y ↔ x = y := by rw [← Int64.toInt_inj, jN_toInt hx, jN_toInt hy]
theorem iN_z : iN 0 = 0 := by decide
theorem jN_z : jN 0 = 0 := by decide
theorem inI_0 : inI 0 := by decide
theorem inJ_0 : inJ 0 := by decide
theorem iN_ne0 {x : Int} (hx : inI x) (h : x ≠ 0) : ¬ iN x = 0 := fun q => h ((iN_eq hx inI_0).mp (q.trans iN_z.symm))
theorem jN_ne0 {x : Int} (hx : inJ x) (h : x ≠ 0) : ¬ jN x = 0 := fun q => h ((jN_eq hx inJ_0).mp (q.trans jN_z.symm))
theorem iN_tdiv {x y : Int} (hx : inI x) (hy : inI y) (h : x ≠ -2147483648 ∨ y ≠ -1) : iN x / iN y = iN (x.tdiv y) := by
  apply Int32.toInt_inj.mp
  have e : (iN x / iN y).toInt = x.tdiv y := by
    rcases h with h | h
    · rw [Int32.toInt_div_of_ne_left _ _ (fun q => h (by rw [← iN_toInt hx, q]; rfl)), iN_toInt hx, iN_toInt hy]
    · rw [Int32.toInt_div_of_ne_right _ _ (fun q => h (by rw [← iN_toInt hy, q]; rfl)), iN_toInt hx, iN_toInt hy]
  rw [e]
  have h2 : inI (x.tdiv y) := by rw [← e]; exact iN_in _
  rw [iN_toInt h2]
theorem jN_tdiv {x y : Int} (hx : inJ x) (hy : inJ y) (h : x ≠ -9223372036854775808 ∨ y ≠ -1) : jN x / jN y = jN (x.tdiv y) := by
  apply Int64.toInt_inj.mp
  have e : (jN x / jN y).toInt = x.tdiv y := by
    rcases h with h | h
    · rw [Int64.toInt_div_of_ne_left _ _ (fun q => h (by rw [← jN_toInt hx, q]; rfl)), jN_toInt hx, jN_toInt hy]
    · rw [Int64.toInt_div_of_ne_right _ _ (fun q => h (by rw [← jN_toInt hy, q]; rfl)), jN_toInt hx, jN_toInt hy]
  rw [e]
  have h2 : inJ (x.tdiv y) := by rw [← e]; exact jN_in _
  rw [jN_toInt h2]
theorem tm_def (x y : Int) : x - x.tdiv y * y = x.tmod y := by have h := Int.tdiv_mul_add_tmod x y; omega
theorem iN_trem {x y : Int} (hx : inI x) (hy : inI y) (h : x ≠ -2147483648 ∨ y ≠ -1) : iN x - iN x / iN y * iN y = iN (x.tmod y) := by rw [iN_tdiv hx hy h, iN_mul, iN_sub, tm_def]
theorem jN_trem {x y : Int} (hx : inJ x) (hy : inJ y) (h : x ≠ -9223372036854775808 ∨ y ≠ -1) : jN x - jN x / jN y * jN y = jN (x.tmod y) := by rw [jN_tdiv hx hy h, jN_mul, jN_sub, tm_def]
theorem jN_i {x : Int} : (jN x).toInt32 = iN x := Int64.toInt32_ofInt
theorem iN_j {x : Int} (h : inI x) : (iN x).toInt64 = jN x := by
  apply Int64.toInt_inj.mp
  rw [Int32.toInt_toInt64, iN_toInt h, jN_toInt (by omega)]
theorem iN_cl {x : Int} (h0 : 0 ≤ x) (h : x ≤ 2147483647) : (iN x).toNatClampNeg = x.toNat := by
  show (iN x).toInt.toNat = _
  rw [iN_toInt ⟨by omega, h⟩]
theorem iN_vin {x : Int} {n : Nat} (h0 : 0 ≤ x) (h : x < (n : Int)) (hn : n < 2147483648) : vp_in (iN x) n := by
  rw [vp_in_iff, iN_toInt (by omega)]
  exact ⟨h0, h⟩
-- memory and heap
def fm_M (D : va_G) (cl : List vw_C) (A : Nat → Prop) (μ : fm_Mu) (H : Heap) : Prop := ∃ ws : va_W, (∀ a e, μ a = some e → ∃ k : Nat, ws[k]? = some (a, e)) ∧ (∀ (k : Nat) (q : Nat × va_E), ws[k]? = some q → μ q.1 = some q.2) ∧ va_P D cl ws H ∧ va_D A ws
/-- memory, and since H0 nothing outside A has changed -/
def fm_W (D : va_G) (cl : List vw_C) (A : Nat → Prop) (H0 : Heap) (μ : fm_Mu) (H : Heap) (locs : List Loc) : Prop := fm_M D cl A μ H ∧ va_S A H0 H locs
theorem fm_M.set {D : va_G} {cl : List vw_C} {A : Nat → Prop} {μ : fm_Mu} {H1 : Heap} {ws : va_W} {q0 a : Nat} {e0 e1 : va_E} (h1 : ∀ a e, μ a = some e → ∃ k : Nat, ws[k]? = some (a, e)) (h2 : ∀ (k : Nat) (q : Nat × va_E), ws[k]? = some q → μ q.1 = some q.2) (hD0 : va_D A ws) (hq : ws[q0]? = some (a, e0)) (hP : va_P D cl (ws.set q0 (a, e1)) H1) (hD : va_D A (ws.set q0 (a, e1))) : fm_M D cl A (fm_up μ a e1) H1 := by
  have hlt := (List.getElem?_eq_some_iff.mp hq).1
  have hself : (ws.set q0 (a, e1))[q0]? = some (a, e1) := by simp [hlt]
  refine ⟨ws.set q0 (a, e1), ?_, ?_, hP, hD⟩
  · intro b e hb
    by_cases hba : b = a
    · subst hba
      rw [fm_up_s] at hb
      cases hb
      exact ⟨q0, hself⟩
    · rw [fm_up_n hba] at hb
      obtain ⟨k, hk⟩ := h1 b e hb
      have hne : q0 ≠ k := fun h => by subst h; rw [hq] at hk; cases hk; exact hba rfl
      exact ⟨k, by rw [List.getElem?_set_ne hne]; exact hk⟩
  · intro k q hk
    by_cases hk0 : q0 = k
    · subst hk0
      rw [hself] at hk
      cases hk
      exact fm_up_s _ _ _
    · rw [List.getElem?_set_ne hk0] at hk
      have hne : q.1 ≠ a := fun h => hk0 (hD0.1 q0 k _ _ hq hk h.symm)
      rw [fm_up_n hne]
      exact h2 k q hk
theorem fm_M.push {D : va_G} {cl : List vw_C} {A : Nat → Prop} {μ : fm_Mu} {H1 : Heap} {ws : va_W} {a : Nat} {e1 : va_E} (h1 : ∀ a e, μ a = some e → ∃ k : Nat, ws[k]? = some (a, e)) (h2 : ∀ (k : Nat) (q : Nat × va_E), ws[k]? = some q → μ q.1 = some q.2) (hP : va_P D cl (ws ++ [(a, e1)]) H1) (hD : va_D A (ws ++ [(a, e1)])) : μ a = none ∧ fm_M D cl A (fm_up μ a e1) H1 := by
  have hself : (ws ++ [(a, e1)])[ws.length]? = some (a, e1) := by simp
  have hold : ∀ (k : Nat) (q : Nat × va_E), ws[k]? = some q → (ws ++ [(a, e1)])[k]? = some q := fun k q hk => by
    rw [List.getElem?_append_left (List.getElem?_eq_some_iff.mp hk).1]; exact hk
  have hn : ∀ (k : Nat) (q : Nat × va_E), ws[k]? = some q → q.1 ≠ a := fun k q hk h => by
    have h3 := hD.1 k ws.length _ _ (hold k q hk) hself h
    have h4 := (List.getElem?_eq_some_iff.mp hk).1
    omega
  have hnone : μ a = none := by
    cases h : μ a with
    | none => rfl
    | some e =>
      obtain ⟨k, hk⟩ := h1 a e h
      exact absurd rfl (hn k _ hk)
  refine ⟨hnone, ws ++ [(a, e1)], ?_, ?_, hP, hD⟩
  · intro b e hb
    by_cases hba : b = a
    · subst hba
      rw [fm_up_s] at hb
      cases hb
      exact ⟨ws.length, hself⟩
    · rw [fm_up_n hba] at hb
      obtain ⟨k, hk⟩ := h1 b e hb
      exact ⟨k, hold k _ hk⟩
  · intro k q hk
    by_cases hk0 : k < ws.length
    · rw [List.getElem?_append_left hk0] at hk
      rw [fm_up_n (hn k q hk)]
      exact h2 k q hk
    · have h5 := (List.getElem?_eq_some_iff.mp hk).1
      simp at h5
      have h6 : k = ws.length := by omega
      subst h6
      rw [hself] at hk
      cases hk
      exact fm_up_s _ _ _
theorem fm_M.weaken {D : va_G} {cl : List vw_C} {A B : Nat → Prop} {μ : fm_Mu} {H : Heap} (h : fm_M D cl A μ H) (hAB : ∀ q, A q → B q) : fm_M D cl B μ H := by
  obtain ⟨ws, h1, h2, hP, hD⟩ := h
  exact ⟨ws, h1, h2, hP, hD.1, fun k q hk => hAB _ (hD.2 k q hk)⟩
theorem fm_M.in {D : va_G} {cl : List vw_C} {A : Nat → Prop} {μ : fm_Mu} {H : Heap} (h : fm_M D cl A μ H) {a : Nat} {e : va_E} (ha : μ a = some e) : A a := by
  obtain ⟨ws, h1, h2, hP, hD⟩ := h
  obtain ⟨k, hk⟩ := h1 a e ha
  exact hD.2 k _ hk
theorem fm_M.lt {D : va_G} {cl : List vw_C} {A : Nat → Prop} {μ : fm_Mu} {H : Heap} (h : fm_M D cl A μ H) {a : Nat} {e : va_E} (ha : μ a = some e) : a < H.size := by
  obtain ⟨ws, h1, h2, hP, hD⟩ := h
  obtain ⟨k, hk⟩ := h1 a e ha
  exact (hP k _ hk).lt
/-- a contract's own addresses: those of the memory, and all that come from sz on -/
def fm_A (μ : fm_Mu) (sz : Nat) : Nat → Prop := fun q => μ q ≠ none ∨ sz ≤ q
theorem fm_M.own {D : va_G} {cl : List vw_C} {A : Nat → Prop} {μ : fm_Mu} {H : Heap} {sz : Nat} (h : fm_M D cl A μ H) : fm_M D cl (fm_A μ sz) μ H := by
  obtain ⟨ws, h1, h2, hP, hD⟩ := h
  exact ⟨ws, h1, h2, hP, hD.1, fun k q hk => Or.inl (by rw [h2 k q hk]; exact Option.some_ne_none _)⟩
theorem fm_A.sub {D : va_G} {cl : List vw_C} {A : Nat → Prop} {H0 : Heap} {μ : fm_Mu} {H : Heap} {locs : List Loc} (h : fm_W D cl A H0 μ H locs) (hA : ∀ q, H0.size ≤ q → A q) : ∀ q, fm_A μ H.size q → A q := by
  intro q hq
  rcases hq with hq | hq
  · cases h1 : μ q with
    | none => exact absurd h1 hq
    | some e => exact h.1.in h1
  · exact hA q (Nat.le_trans h.2.1 hq)
end
section
-- ROWS OVER THE FLAT MEMORY (own work)
abbrev oE (ci : Nat) (fs : List Value) : va_E := .inr (ci, fs)
abbrev jE (cA : ClassId) (n : Nat) (F : Nat → Int) : va_E := .inl (cA, n, .inr (.inl (fun j => jN (F j))))
abbrev iE (cA : ClassId) (n : Nat) (F : Nat → Int) : va_E := .inl (cA, n, .inl (fun j => iN (F j)))
abbrev qE (cA : ClassId) (n : Nat) (f : Nat → Option Nat) : va_E := .inl (cA, n, .inr (.inr (.inr (.inr f))))
def uF {α : Type} (F : Nat → α) (k : Nat) (x : α) : Nat → α := fun j => if j = k then x else F j
theorem uF_s {α : Type} {F : Nat → α} {k : Nat} {x : α} : uF F k x k = x := by simp [uF]
theorem uF_n {α : Type} {F : Nat → α} {k j : Nat} {x : α} (h : j ≠ k) : uF F k x j = F j := by simp [uF, h]
/-- what is known of statics: it may be carried along -/
def fm_Zok (Z : (Nat → Prop) → State → Heap → Prop) : Prop := (∀ (A B : Nat → Prop) (U : State) (H : Heap), Z A U H → (∀ q, B q → A q) → Z B U H) ∧ (∀ (A : Nat → Prop) (u U : State) (H : Heap), u.WarmedH U.vm → Z A u H → Z A U H) ∧ (∀ (A : Nat → Prop) (U : State) (H H1 : Heap), Z A U H → (∀ a : Nat, a < H.size → ¬ A a → H1[a]? = H[a]?) → Z A U H1) ∧ (∀ (A : Nat → Prop) (u U : State) (H : Heap), u.vm = U.vm → Z A u H → Z A U H)
def fm_Pc (D : va_G) (cl : List vw_C) (tys : List (ClassId × FieldType)) (Z : (Nat → Prop) → State → Heap → Prop) (μ : fm_Mu) (sz : Nat) (av : List Value) : Array Value → State → Prop := va_Pc av (fun U => U.heap.size = sz ∧ fm_M D cl (fun _ => True) μ U.heap ∧ va_K D cl tys U ∧ Z (fm_A μ sz) U U.heap)
abbrev fm_B (D : va_G) (cl : List vw_C) (tys : List (ClassId × FieldType)) (μ : fm_Mu) (sz : Nat) : fm_Mu → State → Prop := fun μ' t => fm_M D cl (fm_A μ sz) μ' t.heap ∧ va_K D cl tys t
def fm_Qi (D : va_G) (cl : List vw_C) (tys : List (ClassId × FieldType)) (μ : fm_Mu) (sz : Nat) (P : Int → fm_Mu → Prop) : Array Value → State → Outcome → State → Prop := va_Qi (fun r μ' => ∃ x : Int, r = iN x ∧ P x μ') (fm_B D cl tys μ sz) (fm_A μ sz)
def fm_Ql (D : va_G) (cl : List vw_C) (tys : List (ClassId × FieldType)) (μ : fm_Mu) (sz : Nat) (P : Int → fm_Mu → Prop) : Array Value → State → Outcome → State → Prop := va_Ql (fun r μ' => ∃ x : Int, r = jN x ∧ P x μ') (fm_B D cl tys μ sz) (fm_A μ sz)
def fm_Qv (D : va_G) (cl : List vw_C) (tys : List (ClassId × FieldType)) (μ : fm_Mu) (sz : Nat) (P : fm_Mu → Prop) : Array Value → State → Outcome → State → Prop := va_Qv P (fm_B D cl tys μ sz) (fm_A μ sz)
def fm_Qq (D : va_G) (cl : List vw_C) (tys : List (ClassId × FieldType)) (μ : fm_Mu) (sz : Nat) (P : Option Nat → fm_Mu → Prop) : Array Value → State → Outcome → State → Prop := va_Qq P (fm_B D cl tys μ sz) (fm_A μ sz)
def fm_Si (P : Int → Prop) : Array Value → State → Outcome → State → Prop := vp_Si (fun r => ∃ x : Int, r = iN x ∧ P x)
def fm_Sl (P : Int → Prop) : Array Value → State → Outcome → State → Prop := vp_Sl (fun r => ∃ x : Int, r = jN x ∧ P x)
section FmRows
variable {p : Program} {l : Launch} {e : Env} {R : Room} {s : State} {m : MethodId} {args : Array Value} {below : List Frame} {meth : Method} {c : Code} {H H0 : Heap} {locs : List Loc} {cells slots : Nat} {Q : State → Prop} {cc : ByteArray} {pc nL : Nat} {ls : Array Slot} {rest : List Value} {Ts : List Cond} {own : String} {D : va_G} {cl : List vw_C} {tys : List (ClassId × FieldType)} {A : Nat → Prop} {μ : fm_Mu}
theorem fm_iconst {n : Int} (S : CallFix p m c cc nL s args Ts own) (hdg : decode cc pc = .ok (.iconst n, 1)) (k : W p l e R s m args below meth c H locs cells slots Q (F0 m (pc + 1) ls (.int (iN n) :: rest))) : W p l e R s m args below meth c H locs cells slots Q (F0 m pc ls rest) := lv_iconst S.1 S.2.1 hdg rfl k
theorem fm_bipush {n : Int} (S : CallFix p m c cc nL s args Ts own) (hdg : decode cc pc = .ok (.bipush n, 2)) (hv : (Int8.ofInt n).toInt32 = iN n) (k : W p l e R s m args below meth c H locs cells slots Q (F0 m (pc + 2) ls (.int (iN n) :: rest))) : W p l e R s m args below meth c H locs cells slots Q (F0 m pc ls rest) := lv_bipush S.1 S.2.1 hdg hv k
theorem fm_sipush {n : Int} (S : CallFix p m c cc nL s args Ts own) (hdg : decode cc pc = .ok (.sipush n, 3)) (hv : (Int16.ofInt n).toInt32 = iN n) (k : W p l e R s m args below meth c H locs cells slots Q (F0 m (pc + 3) ls (.int (iN n) :: rest))) : W p l e R s m args below meth c H locs cells slots Q (F0 m pc ls rest) := lv_sipush S.1 S.2.1 hdg hv k
theorem fm_lconst0 (S : CallFix p m c cc nL s args Ts own) (hdg : decode cc pc = .ok (.lconst 0, 1)) (k : W p l e R s m args below meth c H locs cells slots Q (F0 m (pc + 1) ls (.long (jN 0) :: rest))) : W p l e R s m args below meth c H locs cells slots Q (F0 m pc ls rest) := lv_lconst S.1 S.2.1 hdg (by decide) k
theorem fm_lconst1 (S : CallFix p m c cc nL s args Ts own) (hdg : decode cc pc = .ok (.lconst 1, 1)) (k : W p l e R s m args below meth c H locs cells slots Q (F0 m (pc + 1) ls (.long (jN 1) :: rest))) : W p l e R s m args below meth c H locs cells slots Q (F0 m pc ls rest) := lv_lconst S.1 S.2.1 hdg (by decide) k
theorem fm_iadd {x y : Int} (S : CallFix p m c cc nL s args Ts own) (hdg : decode cc pc = .ok (.iadd, 1)) (k : W p l e R s m args below meth c H locs cells slots Q (F0 m (pc + 1) ls (.int (iN (x + y)) :: rest))) : W p l e R s m args below meth c H locs cells slots Q (F0 m pc ls (.int (iN y) :: .int (iN x) :: rest)) := lv_iadd S.1 S.2.1 hdg (by rw [iN_add]; exact k)
theorem fm_isub {x y : Int} (S : CallFix p m c cc nL s args Ts own) (hdg : decode cc pc = .ok (.isub, 1)) (k : W p l e R s m args below meth c H locs cells slots Q (F0 m (pc + 1) ls (.int (iN (x - y)) :: rest))) : W p l e R s m args below meth c H locs cells slots Q (F0 m pc ls (.int (iN y) :: .int (iN x) :: rest)) := lv_isub S.1 S.2.1 hdg (by rw [iN_sub]; exact k)
theorem fm_imul {x y : Int} (S : CallFix p m c cc nL s args Ts own) (hdg : decode cc pc = .ok (.imul, 1)) (k : W p l e R s m args below meth c H locs cells slots Q (F0 m (pc + 1) ls (.int (iN (x * y)) :: rest))) : W p l e R s m args below meth c H locs cells slots Q (F0 m pc ls (.int (iN y) :: .int (iN x) :: rest)) := lv_imul S.1 S.2.1 hdg (by rw [iN_mul]; exact k)
theorem fm_ineg {x : Int} (S : CallFix p m c cc nL s args Ts own) (hdg : decode cc pc = .ok (.ineg, 1)) (k : W p l e R s m args below meth c H locs cells slots Q (F0 m (pc + 1) ls (.int (iN (-x)) :: rest))) : W p l e R s m args below meth c H locs cells slots Q (F0 m pc ls (.int (iN x) :: rest)) := lv_ineg S.1 S.2.1 hdg (by rw [iN_neg]; exact k)
theorem fm_idiv {x y : Int} (S : CallFix p m c cc nL s args Ts own) (hx : inI x ∧ inI y ∧ y ≠ 0 ∧ y ≠ -1) (hdg : decode cc pc = .ok (.idiv, 1)) (k : W p l e R s m args below meth c H locs cells slots Q (F0 m (pc + 1) ls (.int (iN (x.tdiv y)) :: rest))) : W p l e R s m args below meth c H locs cells slots Q (F0 m pc ls (.int (iN y) :: .int (iN x) :: rest)) := lv_idiv S.1 S.2.1 hdg (iN_ne0 hx.2.1 hx.2.2.1) (by rw [iN_tdiv hx.1 hx.2.1 (Or.inr hx.2.2.2)]; exact k)
theorem fm_irem {x y : Int} (S : CallFix p m c cc nL s args Ts own) (hx : inI x ∧ inI y ∧ y ≠ 0 ∧ y ≠ -1) (hdg : decode cc pc = .ok (.irem, 1)) (k : W p l e R s m args below meth c H locs cells slots Q (F0 m (pc + 1) ls (.int (iN (x.tmod y)) :: rest))) : W p l e R s m args below meth c H locs cells slots Q (F0 m pc ls (.int (iN y) :: .int (iN x) :: rest)) := lv_irem S.1 S.2.1 hdg (iN_ne0 hx.2.1 hx.2.2.1) (by rw [iN_trem hx.1 hx.2.1 (Or.inr hx.2.2.2)]; exact k)
theorem fm_idivN {x y : Int} (S : CallFix p m c cc nL s args Ts own) (hx : 0 ≤ x ∧ inI x ∧ inI y ∧ 0 < y) (hdg : decode cc pc = .ok (.idiv, 1)) (k : W p l e R s m args below meth c H locs cells slots Q (F0 m (pc + 1) ls (.int (iN (x / y)) :: rest))) : W p l e R s m args below meth c H locs cells slots Q (F0 m pc ls (.int (iN y) :: .int (iN x) :: rest)) := fm_idiv S ⟨hx.2.1, hx.2.2.1, by omega, by omega⟩ hdg (by rw [Int.tdiv_eq_ediv_of_nonneg hx.1]; exact k)
theorem fm_iremN {x y : Int} (S : CallFix p m c cc nL s args Ts own) (hx : 0 ≤ x ∧ inI x ∧ inI y ∧ 0 < y) (hdg : decode cc pc = .ok (.irem, 1)) (k : W p l e R s m args below meth c H locs cells slots Q (F0 m (pc + 1) ls (.int (iN (x % y)) :: rest))) : W p l e R s m args below meth c H locs cells slots Q (F0 m pc ls (.int (iN y) :: .int (iN x) :: rest)) := fm_irem S ⟨hx.2.1, hx.2.2.1, by omega, by omega⟩ hdg (by rw [Int.tmod_eq_emod_of_nonneg hx.1]; exact k)
theorem fm_ladd {x y : Int} (S : CallFix p m c cc nL s args Ts own) (hdg : decode cc pc = .ok (.ladd, 1)) (k : W p l e R s m args below meth c H locs cells slots Q (F0 m (pc + 1) ls (.long (jN (x + y)) :: rest))) : W p l e R s m args below meth c H locs cells slots Q (F0 m pc ls (.long (jN y) :: .long (jN x) :: rest)) := lv_ladd S.1 S.2.1 hdg (by rw [jN_add]; exact k)
theorem fm_lsub {x y : Int} (S : CallFix p m c cc nL s args Ts own) (hdg : decode cc pc = .ok (.lsub, 1)) (k : W p l e R s m args below meth c H locs cells slots Q (F0 m (pc + 1) ls (.long (jN (x - y)) :: rest))) : W p l e R s m args below meth c H locs cells slots Q (F0 m pc ls (.long (jN y) :: .long (jN x) :: rest)) := lv_lsub S.1 S.2.1 hdg (by rw [jN_sub]; exact k)
theorem fm_lmul {x y : Int} (S : CallFix p m c cc nL s args Ts own) (hdg : decode cc pc = .ok (.lmul, 1)) (k : W p l e R s m args below meth c H locs cells slots Q (F0 m (pc + 1) ls (.long (jN (x * y)) :: rest))) : W p l e R s m args below meth c H locs cells slots Q (F0 m pc ls (.long (jN y) :: .long (jN x) :: rest)) := lv_lmul S.1 S.2.1 hdg (by rw [jN_mul]; exact k)
theorem fm_lneg {x : Int} (S : CallFix p m c cc nL s args Ts own) (hdg : decode cc pc = .ok (.lneg, 1)) (k : W p l e R s m args below meth c H locs cells slots Q (F0 m (pc + 1) ls (.long (jN (-x)) :: rest))) : W p l e R s m args below meth c H locs cells slots Q (F0 m pc ls (.long (jN x) :: rest)) := lv_lneg S.1 S.2.1 hdg (by rw [jN_neg]; exact k)
theorem fm_ldiv {x y : Int} (S : CallFix p m c cc nL s args Ts own) (hx : inJ x ∧ inJ y ∧ y ≠ 0 ∧ y ≠ -1) (hdg : decode cc pc = .ok (.ldiv, 1)) (k : W p l e R s m args below meth c H locs cells slots Q (F0 m (pc + 1) ls (.long (jN (x.tdiv y)) :: rest))) : W p l e R s m args below meth c H locs cells slots Q (F0 m pc ls (.long (jN y) :: .long (jN x) :: rest)) := lv_ldiv S.1 S.2.1 hdg (jN_ne0 hx.2.1 hx.2.2.1) (by rw [jN_tdiv hx.1 hx.2.1 (Or.inr hx.2.2.2)]; exact k)
theorem fm_lrem {x y : Int} (S : CallFix p m c cc nL s args Ts own) (hx : inJ x ∧ inJ y ∧ y ≠ 0 ∧ y ≠ -1) (hdg : decode cc pc = .ok (.lrem, 1)) (k : W p l e R s m args below meth c H locs cells slots Q (F0 m (pc + 1) ls (.long (jN (x.tmod y)) :: rest))) : W p l e R s m args below meth c H locs cells slots Q (F0 m pc ls (.long (jN y) :: .long (jN x) :: rest)) := lv_lrem S.1 S.2.1 hdg (jN_ne0 hx.2.1 hx.2.2.1) (by rw [jN_trem hx.1 hx.2.1 (Or.inr hx.2.2.2)]; exact k)
theorem fm_ldivN {x y : Int} (S : CallFix p m c cc nL s args Ts own) (hx : 0 ≤ x ∧ inJ x ∧ inJ y ∧ 0 < y) (hdg : decode cc pc = .ok (.ldiv, 1)) (k : W p l e R s m args below meth c H locs cells slots Q (F0 m (pc + 1) ls (.long (jN (x / y)) :: rest))) : W p l e R s m args below meth c H locs cells slots Q (F0 m pc ls (.long (jN y) :: .long (jN x) :: rest)) := fm_ldiv S ⟨hx.2.1, hx.2.2.1, by omega, by omega⟩ hdg (by rw [Int.tdiv_eq_ediv_of_nonneg hx.1]; exact k)
theorem fm_lremN {x y : Int} (S : CallFix p m c cc nL s args Ts own) (hx : 0 ≤ x ∧ inJ x ∧ inJ y ∧ 0 < y) (hdg : decode cc pc = .ok (.lrem, 1)) (k : W p l e R s m args below meth c H locs cells slots Q (F0 m (pc + 1) ls (.long (jN (x % y)) :: rest))) : W p l e R s m args below meth c H locs cells slots Q (F0 m pc ls (.long (jN y) :: .long (jN x) :: rest)) := fm_lrem S ⟨hx.2.1, hx.2.2.1, by omega, by omega⟩ hdg (by rw [Int.tmod_eq_emod_of_nonneg hx.1]; exact k)
theorem fm_i2l {x : Int} (S : CallFix p m c cc nL s args Ts own) (hx : inI x) (hdg : decode cc pc = .ok (.i2l, 1)) (k : W p l e R s m args below meth c H locs cells slots Q (F0 m (pc + 1) ls (.long (jN x) :: rest))) : W p l e R s m args below meth c H locs cells slots Q (F0 m pc ls (.int (iN x) :: rest)) := lv_i2l S.1 S.2.1 hdg (iN_j hx) k
theorem fm_l2i {x : Int} (S : CallFix p m c cc nL s args Ts own) (hdg : decode cc pc = .ok (.l2i, 1)) (k : W p l e R s m args below meth c H locs cells slots Q (F0 m (pc + 1) ls (.int (iN x) :: rest))) : W p l e R s m args below meth c H locs cells slots Q (F0 m pc ls (.long (jN x) :: rest)) := lv_l2i S.1 S.2.1 hdg jN_i k
theorem fm_if_eq {X : Int} {off : Int} {tgt : Nat} (S : CallFix p m c cc nL s args Ts own) (hX : inI X) (hdg : decode cc pc = .ok (.ifCond .eq off, 3)) (ht : (pc : Int) + off = (tgt : Int)) (kt : X = 0 → W p l e R s m args below meth c H locs cells slots Q (F0 m tgt ls rest)) (kf : ¬ X = 0 → W p l e R s m args below meth c H locs cells slots Q (F0 m (pc + 3) ls rest)) : W p l e R s m args below meth c H locs cells slots Q (F0 m pc ls (.int (iN X) :: rest)) := lv_if_eq S.1 S.2.1 hdg ht (fun h => kt ((iN_eq hX inI_0).mp (h.trans iN_z.symm))) (fun h => kf (fun h2 => h (by rw [h2]; exact iN_z)))
theorem fm_if_ne {X : Int} {off : Int} {tgt : Nat} (S : CallFix p m c cc nL s args Ts own) (hX : inI X) (hdg : decode cc pc = .ok (.ifCond .ne off, 3)) (ht : (pc : Int) + off = (tgt : Int)) (kt : ¬ X = 0 → W p l e R s m args below meth c H locs cells slots Q (F0 m tgt ls rest)) (kf : X = 0 → W p l e R s m args below meth c H locs cells slots Q (F0 m (pc + 3) ls rest)) : W p l e R s m args below meth c H locs cells slots Q (F0 m pc ls (.int (iN X) :: rest)) := lv_if_ne S.1 S.2.1 hdg ht (fun h => kt (fun h2 => h (by rw [h2]; exact iN_z))) (fun h => kf ((iN_eq hX inI_0).mp (h.trans iN_z.symm)))
theorem fm_if_lt {X : Int} {off : Int} {tgt : Nat} (S : CallFix p m c cc nL s args Ts own) (hX : inI X) (hdg : decode cc pc = .ok (.ifCond .lt off, 3)) (ht : (pc : Int) + off = (tgt : Int)) (kt : X < 0 → W p l e R s m args below meth c H locs cells slots Q (F0 m tgt ls rest)) (kf : ¬ X < 0 → W p l e R s m args below meth c H locs cells slots Q (F0 m (pc + 3) ls rest)) : W p l e R s m args below meth c H locs cells slots Q (F0 m pc ls (.int (iN X) :: rest)) := lv_if_lt S.1 S.2.1 hdg ht (fun h => kt ((iN_lt hX inI_0).mp (by rw [iN_z]; exact h))) (fun h => kf (fun h2 => h (by rw [← iN_z]; exact (iN_lt hX inI_0).mpr h2)))
theorem fm_if_ge {X : Int} {off : Int} {tgt : Nat} (S : CallFix p m c cc nL s args Ts own) (hX : inI X) (hdg : decode cc pc = .ok (.ifCond .ge off, 3)) (ht : (pc : Int) + off = (tgt : Int)) (kt : 0 ≤ X → W p l e R s m args below meth c H locs cells slots Q (F0 m tgt ls rest)) (kf : ¬ 0 ≤ X → W p l e R s m args below meth c H locs cells slots Q (F0 m (pc + 3) ls rest)) : W p l e R s m args below meth c H locs cells slots Q (F0 m pc ls (.int (iN X) :: rest)) := lv_if_ge S.1 S.2.1 hdg ht (fun h => kt ((iN_le inI_0 hX).mp (by rw [iN_z]; exact h))) (fun h => kf (fun h2 => h (by rw [← iN_z]; exact (iN_le inI_0 hX).mpr h2)))
theorem fm_if_gt {X : Int} {off : Int} {tgt : Nat} (S : CallFix p m c cc nL s args Ts own) (hX : inI X) (hdg : decode cc pc = .ok (.ifCond .gt off, 3)) (ht : (pc : Int) + off = (tgt : Int)) (kt : 0 < X → W p l e R s m args below meth c H locs cells slots Q (F0 m tgt ls rest)) (kf : ¬ 0 < X → W p l e R s m args below meth c H locs cells slots Q (F0 m (pc + 3) ls rest)) : W p l e R s m args below meth c H locs cells slots Q (F0 m pc ls (.int (iN X) :: rest)) := lv_if_gt S.1 S.2.1 hdg ht (fun h => kt ((iN_lt inI_0 hX).mp (by rw [iN_z]; exact h))) (fun h => kf (fun h2 => h (by rw [← iN_z]; exact (iN_lt inI_0 hX).mpr h2)))
theorem fm_if_le {X : Int} {off : Int} {tgt : Nat} (S : CallFix p m c cc nL s args Ts own) (hX : inI X) (hdg : decode cc pc = .ok (.ifCond .le off, 3)) (ht : (pc : Int) + off = (tgt : Int)) (kt : X ≤ 0 → W p l e R s m args below meth c H locs cells slots Q (F0 m tgt ls rest)) (kf : ¬ X ≤ 0 → W p l e R s m args below meth c H locs cells slots Q (F0 m (pc + 3) ls rest)) : W p l e R s m args below meth c H locs cells slots Q (F0 m pc ls (.int (iN X) :: rest)) := lv_if_le S.1 S.2.1 hdg ht (fun h => kt ((iN_le hX inI_0).mp (by rw [iN_z]; exact h))) (fun h => kf (fun h2 => h (by rw [← iN_z]; exact (iN_le hX inI_0).mpr h2)))
theorem fm_icmp_eq {X Y : Int} {off : Int} {tgt : Nat} (S : CallFix p m c cc nL s args Ts own) (hX : inI X) (hY : inI Y) (hdg : decode cc pc = .ok (.if_icmp .eq off, 3)) (ht : (pc : Int) + off = (tgt : Int)) (kt : X = Y → W p l e R s m args below meth c H locs cells slots Q (F0 m tgt ls rest)) (kf : ¬ X = Y → W p l e R s m args below meth c H locs cells slots Q (F0 m (pc + 3) ls rest)) : W p l e R s m args below meth c H locs cells slots Q (F0 m pc ls (.int (iN Y) :: .int (iN X) :: rest)) := lv_icmp_eq S.1 S.2.1 hdg ht (fun h => kt ((iN_eq hX hY).mp h)) (fun h => kf (fun h2 => h ((iN_eq hX hY).mpr h2)))
theorem fm_icmp_ne {X Y : Int} {off : Int} {tgt : Nat} (S : CallFix p m c cc nL s args Ts own) (hX : inI X) (hY : inI Y) (hdg : decode cc pc = .ok (.if_icmp .ne off, 3)) (ht : (pc : Int) + off = (tgt : Int)) (kt : ¬ X = Y → W p l e R s m args below meth c H locs cells slots Q (F0 m tgt ls rest)) (kf : X = Y → W p l e R s m args below meth c H locs cells slots Q (F0 m (pc + 3) ls rest)) : W p l e R s m args below meth c H locs cells slots Q (F0 m pc ls (.int (iN Y) :: .int (iN X) :: rest)) := lv_icmp_ne S.1 S.2.1 hdg ht (fun h => kt (fun h2 => h ((iN_eq hX hY).mpr h2))) (fun h => kf ((iN_eq hX hY).mp h))
theorem fm_icmp_lt {X Y : Int} {off : Int} {tgt : Nat} (S : CallFix p m c cc nL s args Ts own) (hX : inI X) (hY : inI Y) (hdg : decode cc pc = .ok (.if_icmp .lt off, 3)) (ht : (pc : Int) + off = (tgt : Int)) (kt : X < Y → W p l e R s m args below meth c H locs cells slots Q (F0 m tgt ls rest)) (kf : ¬ X < Y → W p l e R s m args below meth c H locs cells slots Q (F0 m (pc + 3) ls rest)) : W p l e R s m args below meth c H locs cells slots Q (F0 m pc ls (.int (iN Y) :: .int (iN X) :: rest)) := lv_icmp_lt S.1 S.2.1 hdg ht (fun h => kt ((iN_lt hX hY).mp h)) (fun h => kf (fun h2 => h ((iN_lt hX hY).mpr h2)))
theorem fm_icmp_ge {X Y : Int} {off : Int} {tgt : Nat} (S : CallFix p m c cc nL s args Ts own) (hX : inI X) (hY : inI Y) (hdg : decode cc pc = .ok (.if_icmp .ge off, 3)) (ht : (pc : Int) + off = (tgt : Int)) (kt : Y ≤ X → W p l e R s m args below meth c H locs cells slots Q (F0 m tgt ls rest)) (kf : ¬ Y ≤ X → W p l e R s m args below meth c H locs cells slots Q (F0 m (pc + 3) ls rest)) : W p l e R s m args below meth c H locs cells slots Q (F0 m pc ls (.int (iN Y) :: .int (iN X) :: rest)) := lv_icmp_ge S.1 S.2.1 hdg ht (fun h => kt ((iN_le hY hX).mp h)) (fun h => kf (fun h2 => h ((iN_le hY hX).mpr h2)))
theorem fm_icmp_gt {X Y : Int} {off : Int} {tgt : Nat} (S : CallFix p m c cc nL s args Ts own) (hX : inI X) (hY : inI Y) (hdg : decode cc pc = .ok (.if_icmp .gt off, 3)) (ht : (pc : Int) + off = (tgt : Int)) (kt : Y < X → W p l e R s m args below meth c H locs cells slots Q (F0 m tgt ls rest)) (kf : ¬ Y < X → W p l e R s m args below meth c H locs cells slots Q (F0 m (pc + 3) ls rest)) : W p l e R s m args below meth c H locs cells slots Q (F0 m pc ls (.int (iN Y) :: .int (iN X) :: rest)) := lv_icmp_gt S.1 S.2.1 hdg ht (fun h => kt ((iN_lt hY hX).mp h)) (fun h => kf (fun h2 => h ((iN_lt hY hX).mpr h2)))
theorem fm_icmp_le {X Y : Int} {off : Int} {tgt : Nat} (S : CallFix p m c cc nL s args Ts own) (hX : inI X) (hY : inI Y) (hdg : decode cc pc = .ok (.if_icmp .le off, 3)) (ht : (pc : Int) + off = (tgt : Int)) (kt : X ≤ Y → W p l e R s m args below meth c H locs cells slots Q (F0 m tgt ls rest)) (kf : ¬ X ≤ Y → W p l e R s m args below meth c H locs cells slots Q (F0 m (pc + 3) ls rest)) : W p l e R s m args below meth c H locs cells slots Q (F0 m pc ls (.int (iN Y) :: .int (iN X) :: rest)) := lv_icmp_le S.1 S.2.1 hdg ht (fun h => kt ((iN_le hX hY).mp h)) (fun h => kf (fun h2 => h ((iN_le hX hY).mpr h2)))
def fm_cmp (x y : Int) : Int := if y < x then 1 else if x = y then 0 else -1
theorem fm_lcmp {x y : Int} (S : CallFix p m c cc nL s args Ts own) (hx : inJ x) (hy : inJ y) (hdg : decode cc pc = .ok (.lcmp, 1)) (k : W p l e R s m args below meth c H locs cells slots Q (F0 m (pc + 1) ls (.int (iN (fm_cmp x y)) :: rest))) : W p l e R s m args below meth c H locs cells slots Q (F0 m pc ls (.long (jN y) :: .long (jN x) :: rest)) := by
  refine W.lcmp S.1 S.2.1 hdg ?_
  have e : lg_cmp (jN x) (jN y) = iN (fm_cmp x y) := by
    unfold lg_cmp fm_cmp
    by_cases h1 : y < x
    · rw [if_pos h1, if_pos ((jN_lt hy hx).mpr h1)]; decide
    · rw [if_neg h1, if_neg (fun h => h1 ((jN_lt hy hx).mp h))]
      by_cases h2 : x = y
      · rw [if_pos h2, if_pos ((jN_eq hx hy).mpr h2)]; decide
      · rw [if_neg h2, if_neg (fun h => h2 ((jN_eq hx hy).mp h))]; decide
  rw [e]
  exact k
theorem fm_cmp_in (x y : Int) : inI (fm_cmp x y) := by unfold fm_cmp; split; decide; split <;> decide
theorem fm_cmp_lt {x y : Int} : fm_cmp x y < 0 ↔ x < y := by unfold fm_cmp; split; omega; split <;> omega
theorem fm_cmp_gt {x y : Int} : 0 < fm_cmp x y ↔ y < x := by unfold fm_cmp; split; omega; split <;> omega
theorem fm_cmp_le {x y : Int} : fm_cmp x y ≤ 0 ↔ x ≤ y := by unfold fm_cmp; split; omega; split <;> omega
theorem fm_cmp_ge {x y : Int} : 0 ≤ fm_cmp x y ↔ y ≤ x := by unfold fm_cmp; split; omega; split <;> omega
theorem fm_cmp_eq {x y : Int} : fm_cmp x y = 0 ↔ x = y := by unfold fm_cmp; split; omega; split <;> omega
theorem fm_topi {x : Int} (k : ∀ y : Int, y = x → W p l e R s m args below meth c H locs cells slots Q (F0 m pc ls (.int (iN y) :: rest))) : W p l e R s m args below meth c H locs cells slots Q (F0 m pc ls (.int (iN x) :: rest)) := k x rfl
theorem fm_topl {x : Int} (k : ∀ y : Int, y = x → W p l e R s m args below meth c H locs cells slots Q (F0 m pc ls (.long (jN y) :: rest))) : W p l e R s m args below meth c H locs cells slots Q (F0 m pc ls (.long (jN x) :: rest)) := k x rfl
-- fields
theorem fm_get (S : CallFix p m c cc nL s args Ts own) (hK : va_K D cl tys s) (hw : fm_W D cl A H0 μ H locs) {a ci : Nat} {fs : List Value} (ha : μ a = some (oE ci fs)) {ref C : String} {T : u_T} {N index : Nat} (hin : ∀ w ∈ u_ws C T N, w ∈ Ts) (hc : cl[ci]? = some (C, T, N)) (k : Nat) (hk : k < N) (hlink : (Cond.fieldLink own index ref (T k).2.1 (T k).2.2.1).before args s = true) (hsame : ∀ x, s.fieldFound? (T k).1 (T k).2.1 (T k).2.2.1 = some x → s.fieldFound? ref (T k).2.1 (T k).2.2.1 = some x) {v : Value} (hv : fs[k]? = some v) (hdg : decode cc pc = .ok (.getfield index, 3)) (kk : W p l e R s m args below meth c H locs cells slots Q (F0 m (pc + 3) ls (v :: rest))) : W p l e R s m args below meth c H locs cells slots Q (F0 m pc ls (.ref a :: rest)) := by
  obtain ⟨⟨ws, h1, h2, hP, hD⟩, hS⟩ := hw
  obtain ⟨q0, hq⟩ := h1 _ _ ha
  exact va_get S.1 S.2.1 S.2.2.2.2 hin S.2.2.2.1 hK hP q0 hq hc k hk hlink hsame hv hdg kk
theorem fm_getN (S : CallFix p m c cc nL s args Ts own) (hK : va_K D cl tys s) (hw : fm_W D cl A H0 μ H locs) {a ci : Nat} {fs : List Value} (ha : μ a = some (oE ci fs)) {ref C host : String} {T : u_T} {N index : Nat} (hin : ∀ w ∈ u_ws C T N, w ∈ Ts) (hc : cl[ci]? = some (C, T, N)) (k : Nat) (hk : k < N) (hlink : (Cond.fieldLinkNest own index ref (T k).2.1 (T k).2.2.1 host).before args s = true) (hsame : ∀ x, s.fieldFound? (T k).1 (T k).2.1 (T k).2.2.1 = some x → s.fieldFound? ref (T k).2.1 (T k).2.2.1 = some x) {v : Value} (hv : fs[k]? = some v) (hdg : decode cc pc = .ok (.getfield index, 3)) (kk : W p l e R s m args below meth c H locs cells slots Q (F0 m (pc + 3) ls (v :: rest))) : W p l e R s m args below meth c H locs cells slots Q (F0 m pc ls (.ref a :: rest)) := by
  obtain ⟨⟨ws, h1, h2, hP, hD⟩, hS⟩ := hw
  obtain ⟨q0, hq⟩ := h1 _ _ ha
  exact va_getN S.1 S.2.1 S.2.2.2.2 hin S.2.2.2.1 hK hP q0 hq hc k hk hlink hsame hv hdg kk
theorem fm_put (S : CallFix p m c cc nL s args Ts own) (hK : va_K D cl tys s) (hw : fm_W D cl A H0 μ H locs) {a ci : Nat} {fs : List Value} (ha : μ a = some (oE ci fs)) {ref C : String} {T : u_T} {N index : Nat} (hin : ∀ w ∈ u_ws C T N, w ∈ Ts) (hc : cl[ci]? = some (C, T, N)) (ty0 : Nat → FieldType) (hty : ∀ k, k < N → parseFieldDescriptor (T k).2.2.1 = some (ty0 k)) (hnm : ∀ a, a < N → ∀ b, b < N → a ≠ b → (T a).2.1 ≠ (T b).2.1) (k : Nat) (hk : k < N) (hlink : (Cond.fieldLink own index ref (T k).2.1 (T k).2.2.1).before args s = true) (hsame : ∀ x, s.fieldFound? (T k).1 (T k).2.1 (T k).2.2.1 = some x → s.fieldFound? ref (T k).2.1 (T k).2.2.1 = some x) (hfin : (T k).2.2.2 = false) {ty : FieldType} {v : Value} (hd : parseFieldDescriptor (T k).2.2.1 = some ty) (hn : narrow ty v = v) (hfit : fits ty v = true) (hl : k < fs.length) (hdg : decode cc pc = .ok (.putfield index, 3)) (kk : ∀ (μ' : fm_Mu) (H1 : Heap) (locs1 : List Loc), fm_W D cl A H0 μ' H1 locs1 → μ' a = some (oE ci (fs.set k v)) → fm_O μ μ' [a] → W p l e R s m args below meth c H1 locs1 cells slots Q (F0 m (pc + 3) ls rest)) : W p l e R s m args below meth c H locs cells slots Q (F0 m pc ls (v :: .ref a :: rest)) := by
  obtain ⟨⟨ws, h1, h2, hP, hD⟩, hS⟩ := hw
  obtain ⟨q0, hq⟩ := h1 _ _ ha
  exact va_put S.1 S.2.1 S.2.2.2.2 hin ty0 hty hnm S.2.2.2.1 hK hP hD hS q0 hq hc k hk hlink hsame hfin hd hn hfit hl hdg (fun H1 locs1 hP1 hD1 hS1 => kk _ H1 locs1 ⟨fm_M.set h1 h2 hD hq hP1 hD1, hS1⟩ (fm_up_s _ _ _) (fun q hq => fm_up_n (fun h => hq (by rw [h]; exact List.mem_singleton.mpr rfl))))
theorem fm_putF (S : CallFix p m c cc nL s args Ts own) (hK : va_K D cl tys s) (hw : fm_W D cl A H0 μ H locs) {a ci : Nat} {fs : List Value} (ha : μ a = some (oE ci fs)) {ref C : String} {T : u_T} {N index : Nat} (hin : ∀ w ∈ u_ws C T N, w ∈ Ts) (hc : cl[ci]? = some (C, T, N)) (ty0 : Nat → FieldType) (hty : ∀ k, k < N → parseFieldDescriptor (T k).2.2.1 = some (ty0 k)) (hnm : ∀ a, a < N → ∀ b, b < N → a ≠ b → (T a).2.1 ≠ (T b).2.1) (k : Nat) (hk : k < N) (hlink : (Cond.fieldLink own index ref (T k).2.1 (T k).2.2.1).before args s = true) (hsame : ∀ x, s.fieldFound? (T k).1 (T k).2.1 (T k).2.2.1 = some x → s.fieldFound? ref (T k).2.1 (T k).2.2.1 = some x) (hfin : (T k).2.2.2 = true) (hin2 : meth.name = "<init>") (hdecl : (T k).1 = own) {ty : FieldType} {v : Value} (hd : parseFieldDescriptor (T k).2.2.1 = some ty) (hn : narrow ty v = v) (hfit : fits ty v = true) (hl : k < fs.length) (hdg : decode cc pc = .ok (.putfield index, 3)) (kk : ∀ (μ' : fm_Mu) (H1 : Heap) (locs1 : List Loc), fm_W D cl A H0 μ' H1 locs1 → μ' a = some (oE ci (fs.set k v)) → fm_O μ μ' [a] → W p l e R s m args below meth c H1 locs1 cells slots Q (F0 m (pc + 3) ls rest)) : W p l e R s m args below meth c H locs cells slots Q (F0 m pc ls (v :: .ref a :: rest)) := by
  obtain ⟨⟨ws, h1, h2, hP, hD⟩, hS⟩ := hw
  obtain ⟨q0, hq⟩ := h1 _ _ ha
  exact va_putF S.1 S.2.1 S.2.2.2.2 hin ty0 hty hnm S.2.2.2.1 hK hP hD hS q0 hq hc k hk hlink hsame hfin hin2 hdecl hd hn hfit hl hdg (fun H1 locs1 hP1 hD1 hS1 => kk _ H1 locs1 ⟨fm_M.set h1 h2 hD hq hP1 hD1, hS1⟩ (fm_up_s _ _ _) (fun q hq => fm_up_n (fun h => hq (by rw [h]; exact List.mem_singleton.mpr rfl))))
theorem fm_new (S : CallFix p m c cc nL s args Ts own) (hK : va_K D cl tys s) (hw : fm_W D cl A H0 μ H locs) (hA : ∀ q, H0.size ≤ q → A q) {ci : Nat} {fs : List Value} {C : String} {T : u_T} {N index : Nat} (hin : ∀ w ∈ u_ws C T N, w ∈ Ts) (hc : cl[ci]? = some (C, T, N)) (ty : Nat → FieldType) (hty : ∀ k, k < N → parseFieldDescriptor (T k).2.2.1 = some (ty k)) (hcl : (Cond.classLink own index C).before args s = true) (hinst : (Cond.instantiable C N).before args s = true) (hini : (Cond.initialized C).before args s = true) (hfs : ∀ j, j < N → defaultValue (ty j) = vp_V fs j) (hcells : cells + 1 ≤ R.cells) (hslots : slots + N ≤ R.slots) (hdg : decode cc pc = .ok (.new index, 3)) (kk : ∀ (q : Nat) (μ' : fm_Mu) (H1 : Heap), fm_W D cl A H0 μ' H1 locs → μ q = none → μ' q = some (oE ci fs) → fm_O μ μ' [q] → W p l e R s m args below meth c H1 locs (cells + 1) (slots + N) Q (F0 m (pc + 3) ls (.ref q :: rest))) : W p l e R s m args below meth c H locs cells slots Q (F0 m pc ls rest) := by
  obtain ⟨⟨ws, h1, h2, hP, hD⟩, hS⟩ := hw
  exact va_new S.1 S.2.1 S.2.2.2.2 hin ty hty S.2.2.2.1 hcl hinst hini hK hP hD hS hA hc hfs hcells hslots hdg (fun q H1 hP1 hD1 hS1 => kk q _ H1 ⟨(fm_M.push h1 h2 hP1 hD1).2, hS1⟩ (fm_M.push h1 h2 hP1 hD1).1 (fm_up_s _ _ _) (fun q hq => fm_up_n (fun h => hq (by rw [h]; exact List.mem_singleton.mpr rfl))))
-- arrays
theorem fm_lald (S : CallFix p m c cc nL s args Ts own) (hK : va_K D cl tys s) (hw : fm_W D cl A H0 μ H locs) {a n : Nat} {cA : ClassId} {F : Nat → Int} (ha : μ a = some (jE cA n F)) (t0 : Nat) (ht : tys[t0]? = some (cA, .long)) {i : Int} (hi : 0 ≤ i ∧ i < (n : Int) ∧ n < 2147483648) (hdg : decode cc pc = .ok (.laload, 1)) (kk : W p l e R s m args below meth c H locs cells slots Q (F0 m (pc + 1) ls (.long (jN (F i.toNat)) :: rest))) : W p l e R s m args below meth c H locs cells slots Q (F0 m pc ls (.int (iN i) :: .ref a :: rest)) := by
  obtain ⟨⟨ws, h1, h2, hP, hD⟩, hS⟩ := hw
  obtain ⟨q0, hq⟩ := h1 _ _ ha
  exact va_lald S.1 S.2.1 hK hP q0 t0 hq ht (iN_vin hi.1 hi.2.1 hi.2.2) hdg (by rw [iN_cl hi.1 (by omega)]; exact kk)
theorem fm_iald (S : CallFix p m c cc nL s args Ts own) (hK : va_K D cl tys s) (hw : fm_W D cl A H0 μ H locs) {a n : Nat} {cA : ClassId} {F : Nat → Int} (ha : μ a = some (iE cA n F)) (t0 : Nat) (ht : tys[t0]? = some (cA, .int)) {i : Int} (hi : 0 ≤ i ∧ i < (n : Int) ∧ n < 2147483648) (hdg : decode cc pc = .ok (.iaload, 1)) (kk : W p l e R s m args below meth c H locs cells slots Q (F0 m (pc + 1) ls (.int (iN (F i.toNat)) :: rest))) : W p l e R s m args below meth c H locs cells slots Q (F0 m pc ls (.int (iN i) :: .ref a :: rest)) := by
  obtain ⟨⟨ws, h1, h2, hP, hD⟩, hS⟩ := hw
  obtain ⟨q0, hq⟩ := h1 _ _ ha
  exact va_iald S.1 S.2.1 hK hP q0 t0 hq ht (iN_vin hi.1 hi.2.1 hi.2.2) hdg (by rw [iN_cl hi.1 (by omega)]; exact kk)
theorem fm_aald (S : CallFix p m c cc nL s args Ts own) (hK : va_K D cl tys s) (hw : fm_W D cl A H0 μ H locs) {a n : Nat} {cA : ClassId} {C : String} {f : Nat → Option Nat} (ha : μ a = some (qE cA n f)) (t0 : Nat) (ht : tys[t0]? = some (cA, .object C)) {i : Int} (hi : 0 ≤ i ∧ i < (n : Int) ∧ n < 2147483648) (hdg : decode cc pc = .ok (.aaload, 1)) (kk : W p l e R s m args below meth c H locs cells slots Q (F0 m (pc + 1) ls (va_rf (f i.toNat) :: rest))) : W p l e R s m args below meth c H locs cells slots Q (F0 m pc ls (.int (iN i) :: .ref a :: rest)) := by
  obtain ⟨⟨ws, h1, h2, hP, hD⟩, hS⟩ := hw
  obtain ⟨q0, hq⟩ := h1 _ _ ha
  exact va_aldq S.1 S.2.1 hK hP q0 t0 hq ht (iN_vin hi.1 hi.2.1 hi.2.2) hdg (by rw [iN_cl hi.1 (by omega)]; exact kk)
theorem fm_updL {F : Nat → Int} {k : Nat} {x : Int} : vp_updL (fun j => jN (F j)) k (jN x) = fun j => jN (uF F k x j) := by
  funext j
  unfold vp_updL uF
  split <;> rfl
theorem fm_updI {F : Nat → Int} {k : Nat} {x : Int} : upd (fun j => iN (F j)) k (iN x) = fun j => iN (uF F k x j) := by
  funext j
  unfold upd uF
  split <;> rfl
theorem fm_last (S : CallFix p m c cc nL s args Ts own) (hK : va_K D cl tys s) (hw : fm_W D cl A H0 μ H locs) {a n : Nat} {cA : ClassId} {F : Nat → Int} (ha : μ a = some (jE cA n F)) (t0 : Nat) (ht : tys[t0]? = some (cA, .long)) {i x : Int} (hi : 0 ≤ i ∧ i < (n : Int) ∧ n < 2147483648) (hdg : decode cc pc = .ok (.lastore, 1)) (kk : ∀ (μ' : fm_Mu) (H1 : Heap) (locs1 : List Loc), fm_W D cl A H0 μ' H1 locs1 → μ' a = some (jE cA n (uF F i.toNat x)) → fm_O μ μ' [a] → W p l e R s m args below meth c H1 locs1 cells slots Q (F0 m (pc + 1) ls rest)) : W p l e R s m args below meth c H locs cells slots Q (F0 m pc ls (.long (jN x) :: .int (iN i) :: .ref a :: rest)) := by
  obtain ⟨⟨ws, h1, h2, hP, hD⟩, hS⟩ := hw
  obtain ⟨q0, hq⟩ := h1 _ _ ha
  refine va_last S.1 S.2.1 hK hP hD hS q0 t0 hq ht (iN_vin hi.1 hi.2.1 hi.2.2) hdg (fun H1 locs1 hP1 hD1 hS1 => ?_)
  rw [iN_cl hi.1 (by omega), fm_updL] at hP1 hD1
  exact kk _ H1 locs1 ⟨fm_M.set h1 h2 hD hq hP1 hD1, hS1⟩ (fm_up_s _ _ _) (fun q hq => fm_up_n (fun h => hq (by rw [h]; exact List.mem_singleton.mpr rfl)))
theorem fm_iast (S : CallFix p m c cc nL s args Ts own) (hK : va_K D cl tys s) (hw : fm_W D cl A H0 μ H locs) {a n : Nat} {cA : ClassId} {F : Nat → Int} (ha : μ a = some (iE cA n F)) (t0 : Nat) (ht : tys[t0]? = some (cA, .int)) {i x : Int} (hi : 0 ≤ i ∧ i < (n : Int) ∧ n < 2147483648) (hdg : decode cc pc = .ok (.iastore, 1)) (kk : ∀ (μ' : fm_Mu) (H1 : Heap) (locs1 : List Loc), fm_W D cl A H0 μ' H1 locs1 → μ' a = some (iE cA n (uF F i.toNat x)) → fm_O μ μ' [a] → W p l e R s m args below meth c H1 locs1 cells slots Q (F0 m (pc + 1) ls rest)) : W p l e R s m args below meth c H locs cells slots Q (F0 m pc ls (.int (iN x) :: .int (iN i) :: .ref a :: rest)) := by
  obtain ⟨⟨ws, h1, h2, hP, hD⟩, hS⟩ := hw
  obtain ⟨q0, hq⟩ := h1 _ _ ha
  refine va_iast S.1 S.2.1 hK hP hD hS q0 t0 hq ht (iN_vin hi.1 hi.2.1 hi.2.2) hdg (fun H1 locs1 hP1 hD1 hS1 => ?_)
  rw [iN_cl hi.1 (by omega), fm_updI] at hP1 hD1
  exact kk _ H1 locs1 ⟨fm_M.set h1 h2 hD hq hP1 hD1, hS1⟩ (fm_up_s _ _ _) (fun q hq => fm_up_n (fun h => hq (by rw [h]; exact List.mem_singleton.mpr rfl)))
theorem fm_aast (S : CallFix p m c cc nL s args Ts own) (hK : va_K D cl tys s) (hw : fm_W D cl A H0 μ H locs) {a n b ci : Nat} {cA : ClassId} {r : vw_C} {f : Nat → Option Nat} {fs : List Value} (ha : μ a = some (qE cA n f)) (t0 : Nat) (ht : tys[t0]? = some (cA, .object r.1)) (hv : μ b = some (oE ci fs)) (hc : cl[ci]? = some r) {i : Int} (hi : 0 ≤ i ∧ i < (n : Int) ∧ n < 2147483648) (hdg : decode cc pc = .ok (.aastore, 1)) (kk : ∀ (μ' : fm_Mu) (H1 : Heap) (locs1 : List Loc), fm_W D cl A H0 μ' H1 locs1 → μ' a = some (qE cA n (uF f i.toNat (some b))) → fm_O μ μ' [a] → W p l e R s m args below meth c H1 locs1 cells slots Q (F0 m (pc + 1) ls rest)) : W p l e R s m args below meth c H locs cells slots Q (F0 m pc ls (.ref b :: .int (iN i) :: .ref a :: rest)) := by
  obtain ⟨⟨ws, h1, h2, hP, hD⟩, hS⟩ := hw
  obtain ⟨q0, hq⟩ := h1 _ _ ha
  obtain ⟨qk, hqk⟩ := h1 _ _ hv
  refine va_astq S.1 S.2.1 hK hP hD hS q0 t0 qk ci hq ht hqk hc (iN_vin hi.1 hi.2.1 hi.2.2) hdg (fun H1 locs1 hP1 hD1 hS1 => ?_)
  rw [iN_cl hi.1 (by omega)] at hP1 hD1
  exact kk _ H1 locs1 ⟨fm_M.set h1 h2 hD hq hP1 hD1, hS1⟩ (fm_up_s _ _ _) (fun q hq => fm_up_n (fun h => hq (by rw [h]; exact List.mem_singleton.mpr rfl)))
theorem fm_alen (S : CallFix p m c cc nL s args Ts own) (hK : va_K D cl tys s) (hw : fm_W D cl A H0 μ H locs) {a : Nat} {cA : ClassId} {x : vp_A} (ha : μ a = some (.inl (cA, x))) (t0 : Nat) {ty : FieldType} (ht : tys[t0]? = some (cA, ty)) {n : Int} (hn : (x.1 : Int) = n) (hdg : decode cc pc = .ok (.arraylength, 1)) (kk : W p l e R s m args below meth c H locs cells slots Q (F0 m (pc + 1) ls (.int (iN n) :: rest))) : W p l e R s m args below meth c H locs cells slots Q (F0 m pc ls (.ref a :: rest)) := by
  obtain ⟨⟨ws, h1, h2, hP, hD⟩, hS⟩ := hw
  obtain ⟨q0, hq⟩ := h1 _ _ ha
  exact va_alen S.1 S.2.1 hK hP q0 t0 hq ht (by rw [← hn]; exact Int32.ofInt_eq_ofNat.symm) hdg kk
end FmRows
end
section
-- ENTRY, CALLS AND RETURNS OVER THE FLAT MEMORY (own work)
section FmCalls
variable {p : Program} {l : Launch} {e : Env} {R : Room} {s : State} {m : MethodId} {args : Array Value} {below : List Frame} {meth : Method} {c : Code} {H H0 : Heap} {locs : List Loc} {cells slots : Nat} {Q : State → Prop} {cc : ByteArray} {pc nL : Nat} {ls : Array Slot} {rest st0 : List Value} {Ts : List Cond} {own : String} {D : va_G} {cl : List vw_C} {tys : List (ClassId × FieldType)} {A : Nat → Prop} {μ μ0 : fm_Mu} {Z : (Nat → Prop) → State → Heap → Prop} {a : Array Value} {mc ms : Nat}
theorem fm_pre (hZo : fm_Zok Z) (hK : va_K D cl tys s) (hw : fm_W D cl A s.heap μ H locs) (hZ : Z A s s.heap) (hA : ∀ q, s.heap.size ≤ q → A q) (As : List Value) : PreS s H (fm_Pc D cl tys Z μ H.size As) As := by
  refine ⟨fun a U g mk q => ?_, fun U hU hW => ?_⟩
  · obtain ⟨q0, q1, q2, q3, q4⟩ := q
    exact ⟨q0, q1, q2, va_K.moved (u := U) (U := U.calling g mk a) (Vm.Alike.refl U.vm) q3, hZo.2.2.2 _ U (U.calling g mk a) _ rfl q4⟩
  · refine ⟨rfl, by rw [hU], by rw [hU]; exact hw.1.weaken (fun _ _ => trivial), va_K.moved hW.alike hK, ?_⟩
    rw [hU]
    exact hZo.1 _ _ _ _ (hZo.2.1 _ _ _ _ hW (hZo.2.2.1 _ _ _ _ hZ hw.2.2.1)) (fm_A.sub hw hA)
theorem fm_preV (hZo : fm_Zok Z) (hK : va_K D cl tys s) (hw : fm_W D cl A s.heap μ H locs) (hZ : Z A s s.heap) (hA : ∀ q, s.heap.size ≤ q → A q) {b ci : Nat} {fs : List Value} {C : String} {T : u_T} {N : Nat} (hb : μ b = some (oE ci fs)) (hc : cl[ci]? = some (C, T, N)) (As : List Value) : PreV s H C b (fm_Pc D cl tys Z μ H.size (.ref b :: As)) As := by
  have h := fm_pre (tys := tys) hZo hK hw hZ hA (.ref b :: As)
  refine ⟨h.1, ?_, h.2⟩
  obtain ⟨⟨ws, h1, h2, hP, hD⟩, hS⟩ := hw
  obtain ⟨k, hk⟩ := h1 _ _ hb
  exact va_recv hK hP hc hk
theorem fm_calli {P : Int → fm_Mu → Prop} (hr : va_Run p l e R s m args below meth c H locs cells slots mc ms (F0 m pc ls st0) rest (fm_Qi D cl tys μ H.size P a) (fm_A μ H.size)) (hw : fm_W D cl A s.heap μ H locs) (hA : ∀ q, s.heap.size ≤ q → A q) (kk : ∀ (x : Int) (μ' : fm_Mu) (H1 : Heap) (locs1 : List Loc), P x μ' → fm_W D cl A s.heap μ' H1 locs1 → W p l e R s m args below meth c H1 locs1 (cells + mc) (slots + ms) Q (F0 m (pc + 3) ls (.int (iN x) :: rest))) : W p l e R s m args below meth c H locs cells slots Q (F0 m pc ls st0) := by
  refine va_calli hr hw.2 (fun q _ h => fm_A.sub hw hA q h) (fm_A.sub hw hA) (fun r u t H1 locs1 ht hvm hp hB hz hk hS => ?_)
  obtain ⟨x, rfl, hp⟩ := hp
  exact kk x u H1 locs1 hp ⟨by rw [← ht]; exact hB.1.weaken (fm_A.sub hw hA), hS⟩
theorem fm_calll {P : Int → fm_Mu → Prop} (hr : va_Run p l e R s m args below meth c H locs cells slots mc ms (F0 m pc ls st0) rest (fm_Ql D cl tys μ H.size P a) (fm_A μ H.size)) (hw : fm_W D cl A s.heap μ H locs) (hA : ∀ q, s.heap.size ≤ q → A q) (kk : ∀ (x : Int) (μ' : fm_Mu) (H1 : Heap) (locs1 : List Loc), P x μ' → fm_W D cl A s.heap μ' H1 locs1 → W p l e R s m args below meth c H1 locs1 (cells + mc) (slots + ms) Q (F0 m (pc + 3) ls (.long (jN x) :: rest))) : W p l e R s m args below meth c H locs cells slots Q (F0 m pc ls st0) := by
  refine va_calll hr hw.2 (fun q _ h => fm_A.sub hw hA q h) (fm_A.sub hw hA) (fun r u t H1 locs1 ht hvm hp hB hz hk hS => ?_)
  obtain ⟨x, rfl, hp⟩ := hp
  exact kk x u H1 locs1 hp ⟨by rw [← ht]; exact hB.1.weaken (fm_A.sub hw hA), hS⟩
theorem fm_callv {P : fm_Mu → Prop} (hr : va_Run p l e R s m args below meth c H locs cells slots mc ms (F0 m pc ls st0) rest (fm_Qv D cl tys μ H.size P a) (fm_A μ H.size)) (hw : fm_W D cl A s.heap μ H locs) (hA : ∀ q, s.heap.size ≤ q → A q) (kk : ∀ (μ' : fm_Mu) (H1 : Heap) (locs1 : List Loc), P μ' → fm_W D cl A s.heap μ' H1 locs1 → W p l e R s m args below meth c H1 locs1 (cells + mc) (slots + ms) Q (F0 m (pc + 3) ls rest)) : W p l e R s m args below meth c H locs cells slots Q (F0 m pc ls st0) := by
  refine va_callv hr hw.2 (fun q _ h => fm_A.sub hw hA q h) (fm_A.sub hw hA) (fun u t H1 locs1 ht hvm hp hB hz hk hS => ?_)
  exact kk u H1 locs1 hp ⟨by rw [← ht]; exact hB.1.weaken (fm_A.sub hw hA), hS⟩
theorem fm_callq {P : Option Nat → fm_Mu → Prop} (hr : va_Run p l e R s m args below meth c H locs cells slots mc ms (F0 m pc ls st0) rest (fm_Qq D cl tys μ H.size P a) (fm_A μ H.size)) (hw : fm_W D cl A s.heap μ H locs) (hA : ∀ q, s.heap.size ≤ q → A q) (kk : ∀ (x : Option Nat) (μ' : fm_Mu) (H1 : Heap) (locs1 : List Loc), P x μ' → fm_W D cl A s.heap μ' H1 locs1 → W p l e R s m args below meth c H1 locs1 (cells + mc) (slots + ms) Q (F0 m (pc + 3) ls (va_rf x :: rest))) : W p l e R s m args below meth c H locs cells slots Q (F0 m pc ls st0) := by
  refine va_callq hr hw.2 (fun q _ h => fm_A.sub hw hA q h) (fm_A.sub hw hA) (fun r u t H1 locs1 ht hvm hp hB hz hk hS => ?_)
  exact kk r u H1 locs1 hp ⟨by rw [← ht]; exact hB.1.weaken (fm_A.sub hw hA), hS⟩
theorem fm_callSi {P : Int → Prop} (hr : va_Run p l e R s m args below meth c H locs cells slots 0 0 (F0 m pc ls st0) rest (fm_Si P a) (fun _ => False)) (kk : ∀ x : Int, P x → W p l e R s m args below meth c H locs cells slots Q (F0 m (pc + 3) ls (.int (iN x) :: rest))) : W p l e R s m args below meth c H locs cells slots Q (F0 m pc ls st0) :=
  vp_callSi hr.run (fun r hr => by obtain ⟨x, rfl, hp⟩ := hr; exact kk x hp)
theorem fm_callSl {P : Int → Prop} (hr : va_Run p l e R s m args below meth c H locs cells slots 0 0 (F0 m pc ls st0) rest (fm_Sl P a) (fun _ => False)) (kk : ∀ x : Int, P x → W p l e R s m args below meth c H locs cells slots Q (F0 m (pc + 3) ls (.long (jN x) :: rest))) : W p l e R s m args below meth c H locs cells slots Q (F0 m pc ls st0) :=
  vp_callSl hr.run (fun r hr => by obtain ⟨x, rfl, hp⟩ := hr; exact kk x hp)
theorem fm_callSq {P : Option Nat → Prop} (hr : va_Run p l e R s m args below meth c H locs cells slots 0 0 (F0 m pc ls st0) rest (va_Sq P a) (fun _ => False)) (kk : ∀ x : Option Nat, P x → W p l e R s m args below meth c H locs cells slots Q (F0 m (pc + 3) ls (va_rf x :: rest))) : W p l e R s m args below meth c H locs cells slots Q (F0 m pc ls st0) :=
  va_csq hr.run kk
-- returns
theorem fm_iret {P : Int → fm_Mu → Prop} {X : Int} (S : CallFix p m c cc nL s args Ts own) (hr : meth.sig.returnType = some .int) (hlocks : meth.locks = false) (hK : va_K D cl tys s) (hw : fm_W D cl (fm_A μ0 s.heap.size) s.heap μ H locs) (hdg : decode cc pc = .ok (.ireturn, 1)) (hp : P X μ) : W p l e R s m args below meth c H locs cells slots (MQ below (fm_Qi D cl tys μ0 s.heap.size P) args s cells slots (fm_A μ0 s.heap.size)) (F0 m pc ls [.int (iN X)]) :=
  W.iret S.1 S.2.1 hr (fun t ht hW => ⟨⟨iN X, μ, rfl, ⟨X, rfl, hp⟩, by rw [ht]; exact hw.1, va_K.moved hW.alike hK⟩, hw.2.F ht⟩) hw.2.2.2 hdg hlocks
theorem fm_zret {P : Int → fm_Mu → Prop} {X : Int} (S : CallFix p m c cc nL s args Ts own) (hr : meth.sig.returnType = some .boolean) (hlocks : meth.locks = false) (hK : va_K D cl tys s) (hw : fm_W D cl (fm_A μ0 s.heap.size) s.heap μ H locs) (hX : X = 0 ∨ X = 1) (hdg : decode cc pc = .ok (.ireturn, 1)) (hp : P X μ) : W p l e R s m args below meth c H locs cells slots (MQ below (fm_Qi D cl tys μ0 s.heap.size P) args s cells slots (fm_A μ0 s.heap.size)) (F0 m pc ls [.int (iN X)]) :=
  W.zret S.1 S.2.1 hr (by rcases hX with h | h <;> subst h <;> rfl) (fun t ht hW => ⟨⟨iN X, μ, rfl, ⟨X, rfl, hp⟩, by rw [ht]; exact hw.1, va_K.moved hW.alike hK⟩, hw.2.F ht⟩) hw.2.2.2 hdg hlocks
theorem fm_lret {P : Int → fm_Mu → Prop} {X : Int} (S : CallFix p m c cc nL s args Ts own) (hr : meth.sig.returnType = some .long) (hlocks : meth.locks = false) (hK : va_K D cl tys s) (hw : fm_W D cl (fm_A μ0 s.heap.size) s.heap μ H locs) (hdg : decode cc pc = .ok (.lreturn, 1)) (hp : P X μ) : W p l e R s m args below meth c H locs cells slots (MQ below (fm_Ql D cl tys μ0 s.heap.size P) args s cells slots (fm_A μ0 s.heap.size)) (F0 m pc ls [.long (jN X)]) :=
  W.lret S.1 S.2.1 hr (fun t ht hW => ⟨⟨jN X, μ, rfl, ⟨X, rfl, hp⟩, by rw [ht]; exact hw.1, va_K.moved hW.alike hK⟩, hw.2.F ht⟩) hw.2.2.2 hdg hlocks
theorem fm_vret {P : fm_Mu → Prop} (S : CallFix p m c cc nL s args Ts own) (hr : meth.sig.returnType = none) (hlocks : meth.locks = false) (hK : va_K D cl tys s) (hw : fm_W D cl (fm_A μ0 s.heap.size) s.heap μ H locs) (hdg : decode cc pc = .ok (.return_, 1)) (hp : P μ) : W p l e R s m args below meth c H locs cells slots (MQ below (fm_Qv D cl tys μ0 s.heap.size P) args s cells slots (fm_A μ0 s.heap.size)) (F0 m pc ls []) :=
  W.vret S.1 S.2.1 hr (fun t ht hW => ⟨⟨μ, rfl, hp, by rw [ht]; exact hw.1, va_K.moved hW.alike hK⟩, hw.2.F ht⟩) hw.2.2.2 hdg hlocks
theorem fm_aret {P : Option Nat → fm_Mu → Prop} {X : Option Nat} {rt : FieldType} (S : CallFix p m c cc nL s args Ts own) (hr : meth.sig.returnType = some rt) (hrt : (∃ n, rt = .object n) ∨ ∃ t, rt = .array t) (hlocks : meth.locks = false) (hK : va_K D cl tys s) (hw : fm_W D cl (fm_A μ0 s.heap.size) s.heap μ H locs) (hdg : decode cc pc = .ok (.areturn, 1)) (hp : P X μ) : W p l e R s m args below meth c H locs cells slots (MQ below (fm_Qq D cl tys μ0 s.heap.size P) args s cells slots (fm_A μ0 s.heap.size)) (F0 m pc ls [va_rf X]) :=
  W.aret S.1 S.2.1 hr hrt (va_rf_or X) (fun t ht hW => ⟨⟨X, μ, rfl, hp, by rw [ht]; exact hw.1, va_K.moved hW.alike hK⟩, hw.2.F ht⟩) hw.2.2.2 hdg hlocks
theorem fm_iretS {P : Int → Prop} {X : Int} (S : CallFix p m c cc nL s args Ts own) (hr : meth.sig.returnType = some .int) (hlocks : meth.locks = false) (hdg : decode cc pc = .ok (.ireturn, 1)) (hp : P X) : W p l e R s m args below meth c s.heap [] cells slots (MQ below (fm_Si P) args s cells slots (fun _ => False)) (F0 m pc ls [.int (iN X)]) :=
  W.iret S.1 S.2.1 hr (fun t ht _ => ⟨iN X, rfl, ⟨X, rfl, hp⟩, ht⟩) (fun _ h => absurd h List.not_mem_nil) hdg hlocks
theorem fm_zretS {P : Int → Prop} {X : Int} (S : CallFix p m c cc nL s args Ts own) (hr : meth.sig.returnType = some .boolean) (hlocks : meth.locks = false) (hX : X = 0 ∨ X = 1) (hdg : decode cc pc = .ok (.ireturn, 1)) (hp : P X) : W p l e R s m args below meth c s.heap [] cells slots (MQ below (fm_Si P) args s cells slots (fun _ => False)) (F0 m pc ls [.int (iN X)]) :=
  W.zret S.1 S.2.1 hr (by rcases hX with h | h <;> subst h <;> rfl) (fun t ht _ => ⟨iN X, rfl, ⟨X, rfl, hp⟩, ht⟩) (fun _ h => absurd h List.not_mem_nil) hdg hlocks
theorem fm_lretS {P : Int → Prop} {X : Int} (S : CallFix p m c cc nL s args Ts own) (hr : meth.sig.returnType = some .long) (hlocks : meth.locks = false) (hdg : decode cc pc = .ok (.lreturn, 1)) (hp : P X) : W p l e R s m args below meth c s.heap [] cells slots (MQ below (fm_Sl P) args s cells slots (fun _ => False)) (F0 m pc ls [.long (jN X)]) :=
  W.lret S.1 S.2.1 hr (fun t ht _ => ⟨jN X, rfl, ⟨X, rfl, hp⟩, ht⟩) (fun _ h => absurd h List.not_mem_nil) hdg hlocks
theorem fm_aretS {P : Option Nat → Prop} {X : Option Nat} {rt : FieldType} (S : CallFix p m c cc nL s args Ts own) (hr : meth.sig.returnType = some rt) (hrt : (∃ n, rt = .object n) ∨ ∃ t, rt = .array t) (hlocks : meth.locks = false) (hdg : decode cc pc = .ok (.areturn, 1)) (hp : P X) : W p l e R s m args below meth c s.heap [] cells slots (MQ below (va_Sq P) args s cells slots (fun _ => False)) (F0 m pc ls [va_rf X]) :=
  W.aret S.1 S.2.1 hr hrt (va_rf_or X) (fun t ht _ => ⟨X, rfl, hp, ht⟩) (fun _ h => absurd h List.not_mem_nil) hdg hlocks
/-- a method's entry -/
theorem fm_of {y : MethodName} {ws ws' : List Cond} {rm : Room} {Qc : Array Value → State → Outcome → State → Prop} {free : Addr → Prop} {maxL sz : Nat} {ret : Option FieldType} {av : List Value} (hy : plainName y.cls = true) (hw : ws = Cond.code y cc maxL ret :: ws') (hlen : (lg_sl av).length ≤ maxL)
    (body : ∀ (p : Program) (e : Env) (s : State) (m : MethodId) (below : List Frame) (meth : Method) (c : Code), CallFix p m c cc maxL s av.toArray ws y.cls → meth.sig.returnType = ret → meth.locks = false → meth.name = y.name → s.heap.size = sz → fm_W D cl (fm_A μ s.heap.size) s.heap μ s.heap [] → va_K D cl tys s → Z (fm_A μ s.heap.size) s s.heap → (∀ q, s.heap.size ≤ q → fm_A μ s.heap.size q) → ∀ ls : Array Slot, lv_has ls maxL (lv_args 0 av) → W p l e rm s m av.toArray below meth c s.heap [] 0 0 (MQ below Qc av.toArray s mc ms free) (F0 m 0 ls [])) : Met l y ws rm (fm_Pc D cl tys Z μ sz av) Qc mc ms free := by
  refine Met.ofW (cc := cc) (maxL := maxL) (ret := ret) hy hw ?_
  intro p e s m args below meth c s₁ B hml hv
  obtain ⟨rfl, hsz, hM, hK, hZ⟩ := hv
  subst hsz
  have hl := lv_entry av (n := maxL) hlen
  rw [lg_entry_eq]
  exact body p e s m below meth c ⟨B.exec, B.bytes, hml, findClass_of_methodNamed B.named, atoms_spec (ws := ws) B.pre⟩ B.returns B.notSynchronized (name_of_methodNamed B.named B.method).1 rfl ⟨hM.own, va_S.rf⟩ hK hZ (fun _ h => Or.inr h) _ hl
end FmCalls
end
section
-- ===== PART A: goes FIRST, ahead of the names: the tables' words, and 'selects' of the private methods out of them =====
/-- a private method of a class that the tables say can be made, by its rows of tables_1 -/
def lw_okq (q : MethodName × Nat) : Prop := (q.1.cls ≠ "java/lang/invoke/MethodHandle" ∧ q.1.cls ≠ "java/lang/invoke/VarHandle") ∧ Cond.instantiable q.1.cls q.2 ∈ tables_1 ∧ Cond.privateMethod q.1 ∈ tables_1 ∧ Cond.instanceMethod q.1 ∈ tables_1
theorem lw_p0 : lw_okq (⟨"ArithmeticForms", "keepNode", "(LArithmeticForms$Decimal;)I"⟩, 9) := ⟨⟨by decide +kernel, by decide +kernel⟩, List.mem_of_getElem? (i := 16) (by decide +kernel), List.mem_of_getElem? (i := 147) (by decide +kernel), List.mem_of_getElem? (i := 148) (by decide +kernel)⟩
theorem lw_p1 : lw_okq (⟨"ArithmeticForms", "nodeAt", "(I)LArithmeticForms$Decimal;"⟩, 9) := ⟨⟨by decide +kernel, by decide +kernel⟩, List.mem_of_getElem? (i := 16) (by decide +kernel), List.mem_of_getElem? (i := 155) (by decide +kernel), List.mem_of_getElem? (i := 156) (by decide +kernel)⟩
theorem lw_p2 : lw_okq (⟨"ArithmeticForms", "operate", "(ILArithmeticForms$Decimal;LArithmeticForms$Decimal;LArithmeticForms$Decimal;)V"⟩, 9) := ⟨⟨by decide +kernel, by decide +kernel⟩, List.mem_of_getElem? (i := 16) (by decide +kernel), List.mem_of_getElem? (i := 159) (by decide +kernel), List.mem_of_getElem? (i := 160) (by decide +kernel)⟩
theorem lw_p3 : lw_okq (⟨"ArithmeticForms$Calculator", "carry", "()V"⟩, 4) := ⟨⟨by decide +kernel, by decide +kernel⟩, List.mem_of_getElem? (i := 59) (by decide +kernel), List.mem_of_getElem? (i := 208) (by decide +kernel), List.mem_of_getElem? (i := 209) (by decide +kernel)⟩
theorem lw_p4 : lw_okq (⟨"ArithmeticForms$Calculator", "settle", "(LArithmeticForms$Decimal;II)V"⟩, 4) := ⟨⟨by decide +kernel, by decide +kernel⟩, List.mem_of_getElem? (i := 59) (by decide +kernel), List.mem_of_getElem? (i := 216) (by decide +kernel), List.mem_of_getElem? (i := 217) (by decide +kernel)⟩
theorem lw_p5 : lw_okq (⟨"ArithmeticForms$Calculator", "wideAt", "(I)J"⟩, 4) := ⟨⟨by decide +kernel, by decide +kernel⟩, List.mem_of_getElem? (i := 59) (by decide +kernel), List.mem_of_getElem? (i := 222) (by decide +kernel), List.mem_of_getElem? (i := 223) (by decide +kernel)⟩
theorem lw_p6 : lw_okq (⟨"ArithmeticForms$Calculator", "takeOut", "(LArithmeticForms$Decimal;)J"⟩, 4) := ⟨⟨by decide +kernel, by decide +kernel⟩, List.mem_of_getElem? (i := 59) (by decide +kernel), List.mem_of_getElem? (i := 232) (by decide +kernel), List.mem_of_getElem? (i := 233) (by decide +kernel)⟩
theorem lw_p7 : lw_okq (⟨"ArithmeticForms$Calculator", "reaches", "(LArithmeticForms$Decimal;)Z"⟩, 4) := ⟨⟨by decide +kernel, by decide +kernel⟩, List.mem_of_getElem? (i := 59) (by decide +kernel), List.mem_of_getElem? (i := 239) (by decide +kernel), List.mem_of_getElem? (i := 240) (by decide +kernel)⟩
theorem lw_p8 : lw_okq (⟨"ArithmeticForms$Calculator", "reduce", "(LArithmeticForms$Decimal;J)V"⟩, 4) := ⟨⟨by decide +kernel, by decide +kernel⟩, List.mem_of_getElem? (i := 59) (by decide +kernel), List.mem_of_getElem? (i := 243) (by decide +kernel), List.mem_of_getElem? (i := 244) (by decide +kernel)⟩
theorem lw_p9 : lw_okq (⟨"ArithmeticForms", "calculate", "(ILArithmeticForms$Decimal;LArithmeticForms$Decimal;LArithmeticForms$Decimal;)V"⟩, 9) := ⟨⟨by decide +kernel, by decide +kernel⟩, List.mem_of_getElem? (i := 16) (by decide +kernel), List.mem_of_getElem? (i := 248) (by decide +kernel), List.mem_of_getElem? (i := 249) (by decide +kernel)⟩
theorem lw_p10 : lw_okq (⟨"ArithmeticForms$Calculator", "place", "(LArithmeticForms$Decimal;I)V"⟩, 4) := ⟨⟨by decide +kernel, by decide +kernel⟩, List.mem_of_getElem? (i := 59) (by decide +kernel), List.mem_of_getElem? (i := 266) (by decide +kernel), List.mem_of_getElem? (i := 267) (by decide +kernel)⟩
theorem lw_p11 : lw_okq (⟨"ArithmeticForms", "receiverAt", "(I)LArithmeticForms$Receiver;"⟩, 9) := ⟨⟨by decide +kernel, by decide +kernel⟩, List.mem_of_getElem? (i := 16) (by decide +kernel), List.mem_of_getElem? (i := 305) (by decide +kernel), List.mem_of_getElem? (i := 306) (by decide +kernel)⟩
theorem lw_p12 : lw_okq (⟨"ArithmeticForms", "give", "(LArithmeticForms$Receiver;ILArithmeticForms$Decimal;Z)Z"⟩, 9) := ⟨⟨by decide +kernel, by decide +kernel⟩, List.mem_of_getElem? (i := 16) (by decide +kernel), List.mem_of_getElem? (i := 309) (by decide +kernel), List.mem_of_getElem? (i := 310) (by decide +kernel)⟩
theorem lw_p13 : lw_okq (⟨"ArithmeticForms$Receiver", "isExact", "(LArithmeticForms$Decimal;)Z"⟩, 6) := ⟨⟨by decide +kernel, by decide +kernel⟩, List.mem_of_getElem? (i := 275) (by decide +kernel), List.mem_of_getElem? (i := 317) (by decide +kernel), List.mem_of_getElem? (i := 318) (by decide +kernel)⟩
theorem lw_p14 : lw_okq (⟨"ArithmeticForms$Receiver", "goesUp", "(LArithmeticForms$Decimal;)Z"⟩, 6) := ⟨⟨by decide +kernel, by decide +kernel⟩, List.mem_of_getElem? (i := 275) (by decide +kernel), List.mem_of_getElem? (i := 331) (by decide +kernel), List.mem_of_getElem? (i := 332) (by decide +kernel)⟩
theorem lw_p15 : lw_okq (⟨"ArithmeticForms$Receiver", "compareToHalf", "(LArithmeticForms$Decimal;)I"⟩, 6) := ⟨⟨by decide +kernel, by decide +kernel⟩, List.mem_of_getElem? (i := 275) (by decide +kernel), List.mem_of_getElem? (i := 335) (by decide +kernel), List.mem_of_getElem? (i := 336) (by decide +kernel)⟩
def lw_privs_1 : List (MethodName × Nat) := [(⟨"ArithmeticForms", "keepNode", "(LArithmeticForms$Decimal;)I"⟩, 9), (⟨"ArithmeticForms", "nodeAt", "(I)LArithmeticForms$Decimal;"⟩, 9), (⟨"ArithmeticForms", "operate", "(ILArithmeticForms$Decimal;LArithmeticForms$Decimal;LArithmeticForms$Decimal;)V"⟩, 9), (⟨"ArithmeticForms$Calculator", "carry", "()V"⟩, 4), (⟨"ArithmeticForms$Calculator", "settle", "(LArithmeticForms$Decimal;II)V"⟩, 4), (⟨"ArithmeticForms$Calculator", "wideAt", "(I)J"⟩, 4), (⟨"ArithmeticForms$Calculator", "takeOut", "(LArithmeticForms$Decimal;)J"⟩, 4), (⟨"ArithmeticForms$Calculator", "reaches", "(LArithmeticForms$Decimal;)Z"⟩, 4), (⟨"ArithmeticForms$Calculator", "reduce", "(LArithmeticForms$Decimal;J)V"⟩, 4), (⟨"ArithmeticForms", "calculate", "(ILArithmeticForms$Decimal;LArithmeticForms$Decimal;LArithmeticForms$Decimal;)V"⟩, 9), (⟨"ArithmeticForms$Calculator", "place", "(LArithmeticForms$Decimal;I)V"⟩, 4), (⟨"ArithmeticForms", "receiverAt", "(I)LArithmeticForms$Receiver;"⟩, 9), (⟨"ArithmeticForms", "give", "(LArithmeticForms$Receiver;ILArithmeticForms$Decimal;Z)Z"⟩, 9), (⟨"ArithmeticForms$Receiver", "isExact", "(LArithmeticForms$Decimal;)Z"⟩, 6), (⟨"ArithmeticForms$Receiver", "goesUp", "(LArithmeticForms$Decimal;)Z"⟩, 6), (⟨"ArithmeticForms$Receiver", "compareToHalf", "(LArithmeticForms$Decimal;)I"⟩, 6)]
theorem lw_r1 : ∀ q ∈ lw_privs_1, lw_okq q := List.forall_mem_cons.mpr ⟨lw_p0, List.forall_mem_cons.mpr ⟨lw_p1, List.forall_mem_cons.mpr ⟨lw_p2, List.forall_mem_cons.mpr ⟨lw_p3, List.forall_mem_cons.mpr ⟨lw_p4, List.forall_mem_cons.mpr ⟨lw_p5, List.forall_mem_cons.mpr ⟨lw_p6, List.forall_mem_cons.mpr ⟨lw_p7, List.forall_mem_cons.mpr ⟨lw_p8, List.forall_mem_cons.mpr ⟨lw_p9, List.forall_mem_cons.mpr ⟨lw_p10, List.forall_mem_cons.mpr ⟨lw_p11, List.forall_mem_cons.mpr ⟨lw_p12, List.forall_mem_cons.mpr ⟨lw_p13, List.forall_mem_cons.mpr ⟨lw_p14, List.forall_mem_cons.mpr ⟨lw_p15, fun _ h => absurd h List.not_mem_nil⟩⟩⟩⟩⟩⟩⟩⟩⟩⟩⟩⟩⟩⟩⟩⟩
theorem lw_p16 : lw_okq (⟨"ArithmeticForms$Receiver", "endsOdd", "(LArithmeticForms$Decimal;)Z"⟩, 6) := ⟨⟨by decide +kernel, by decide +kernel⟩, List.mem_of_getElem? (i := 275) (by decide +kernel), List.mem_of_getElem? (i := 341) (by decide +kernel), List.mem_of_getElem? (i := 342) (by decide +kernel)⟩
theorem lw_p17 : lw_okq (⟨"ArithmeticForms", "restOf", "(LArithmeticForms$Receiver;LArithmeticForms$Decimal;)J"⟩, 9) := ⟨⟨by decide +kernel, by decide +kernel⟩, List.mem_of_getElem? (i := 16) (by decide +kernel), List.mem_of_getElem? (i := 351) (by decide +kernel), List.mem_of_getElem? (i := 352) (by decide +kernel)⟩
theorem lw_p18 : lw_okq (⟨"java/lang/Throwable", "fillInStackTrace", "(I)Ljava/lang/Throwable;"⟩, 6) := ⟨⟨by decide +kernel, by decide +kernel⟩, List.mem_of_getElem? (i := 429) (by decide +kernel), List.mem_of_getElem? (i := 427) (by decide +kernel), List.mem_of_getElem? (i := 428) (by decide +kernel)⟩
theorem lw_p19 : lw_okq (⟨"ArithmeticFormsModel", "whole", "(JII)V"⟩, 23) := ⟨⟨by decide +kernel, by decide +kernel⟩, List.mem_of_getElem? (i := 461) (by decide +kernel), List.mem_of_getElem? (i := 547) (by decide +kernel), List.mem_of_getElem? (i := 548) (by decide +kernel)⟩
theorem lw_p20 : lw_okq (⟨"ArithmeticFormsModel", "zero", "(I)V"⟩, 23) := ⟨⟨by decide +kernel, by decide +kernel⟩, List.mem_of_getElem? (i := 461) (by decide +kernel), List.mem_of_getElem? (i := 551) (by decide +kernel), List.mem_of_getElem? (i := 552) (by decide +kernel)⟩
theorem lw_p21 : lw_okq (⟨"ArithmeticFormsModel", "cut", "(II)I"⟩, 23) := ⟨⟨by decide +kernel, by decide +kernel⟩, List.mem_of_getElem? (i := 461) (by decide +kernel), List.mem_of_getElem? (i := 556) (by decide +kernel), List.mem_of_getElem? (i := 557) (by decide +kernel)⟩
theorem lw_p22 : lw_okq (⟨"ArithmeticFormsModel", "drop", "(II)V"⟩, 23) := ⟨⟨by decide +kernel, by decide +kernel⟩, List.mem_of_getElem? (i := 461) (by decide +kernel), List.mem_of_getElem? (i := 560) (by decide +kernel), List.mem_of_getElem? (i := 561) (by decide +kernel)⟩
theorem lw_p23 : lw_okq (⟨"ArithmeticFormsModel", "kept", "(I)I"⟩, 23) := ⟨⟨by decide +kernel, by decide +kernel⟩, List.mem_of_getElem? (i := 461) (by decide +kernel), List.mem_of_getElem? (i := 564) (by decide +kernel), List.mem_of_getElem? (i := 565) (by decide +kernel)⟩
theorem lw_p24 : lw_okq (⟨"ArithmeticFormsModel", "isNode", "(I)Z"⟩, 23) := ⟨⟨by decide +kernel, by decide +kernel⟩, List.mem_of_getElem? (i := 461) (by decide +kernel), List.mem_of_getElem? (i := 572) (by decide +kernel), List.mem_of_getElem? (i := 573) (by decide +kernel)⟩
theorem lw_p25 : lw_okq (⟨"ArithmeticFormsModel", "load", "(II)V"⟩, 23) := ⟨⟨by decide +kernel, by decide +kernel⟩, List.mem_of_getElem? (i := 461) (by decide +kernel), List.mem_of_getElem? (i := 576) (by decide +kernel), List.mem_of_getElem? (i := 577) (by decide +kernel)⟩
theorem lw_p26 : lw_okq (⟨"ArithmeticFormsModel", "operated", "(I)I"⟩, 23) := ⟨⟨by decide +kernel, by decide +kernel⟩, List.mem_of_getElem? (i := 461) (by decide +kernel), List.mem_of_getElem? (i := 580) (by decide +kernel), List.mem_of_getElem? (i := 581) (by decide +kernel)⟩
theorem lw_p27 : lw_okq (⟨"ArithmeticFormsModel", "add", "()I"⟩, 23) := ⟨⟨by decide +kernel, by decide +kernel⟩, List.mem_of_getElem? (i := 461) (by decide +kernel), List.mem_of_getElem? (i := 584) (by decide +kernel), List.mem_of_getElem? (i := 585) (by decide +kernel)⟩
theorem lw_p28 : lw_okq (⟨"ArithmeticFormsModel", "copy", "(II)V"⟩, 23) := ⟨⟨by decide +kernel, by decide +kernel⟩, List.mem_of_getElem? (i := 461) (by decide +kernel), List.mem_of_getElem? (i := 588) (by decide +kernel), List.mem_of_getElem? (i := 589) (by decide +kernel)⟩
theorem lw_p29 : lw_okq (⟨"ArithmeticFormsModel", "topOf", "(I)I"⟩, 23) := ⟨⟨by decide +kernel, by decide +kernel⟩, List.mem_of_getElem? (i := 461) (by decide +kernel), List.mem_of_getElem? (i := 592) (by decide +kernel), List.mem_of_getElem? (i := 593) (by decide +kernel)⟩
theorem lw_p30 : lw_okq (⟨"ArithmeticFormsModel", "order", "(IIII)I"⟩, 23) := ⟨⟨by decide +kernel, by decide +kernel⟩, List.mem_of_getElem? (i := 461) (by decide +kernel), List.mem_of_getElem? (i := 596) (by decide +kernel), List.mem_of_getElem? (i := 597) (by decide +kernel)⟩
theorem lw_p31 : lw_okq (⟨"ArithmeticFormsModel", "digitAt", "(II)I"⟩, 23) := ⟨⟨by decide +kernel, by decide +kernel⟩, List.mem_of_getElem? (i := 461) (by decide +kernel), List.mem_of_getElem? (i := 600) (by decide +kernel), List.mem_of_getElem? (i := 601) (by decide +kernel)⟩
def lw_privs_2 : List (MethodName × Nat) := [(⟨"ArithmeticForms$Receiver", "endsOdd", "(LArithmeticForms$Decimal;)Z"⟩, 6), (⟨"ArithmeticForms", "restOf", "(LArithmeticForms$Receiver;LArithmeticForms$Decimal;)J"⟩, 9), (⟨"java/lang/Throwable", "fillInStackTrace", "(I)Ljava/lang/Throwable;"⟩, 6), (⟨"ArithmeticFormsModel", "whole", "(JII)V"⟩, 23), (⟨"ArithmeticFormsModel", "zero", "(I)V"⟩, 23), (⟨"ArithmeticFormsModel", "cut", "(II)I"⟩, 23), (⟨"ArithmeticFormsModel", "drop", "(II)V"⟩, 23), (⟨"ArithmeticFormsModel", "kept", "(I)I"⟩, 23), (⟨"ArithmeticFormsModel", "isNode", "(I)Z"⟩, 23), (⟨"ArithmeticFormsModel", "load", "(II)V"⟩, 23), (⟨"ArithmeticFormsModel", "operated", "(I)I"⟩, 23), (⟨"ArithmeticFormsModel", "add", "()I"⟩, 23), (⟨"ArithmeticFormsModel", "copy", "(II)V"⟩, 23), (⟨"ArithmeticFormsModel", "topOf", "(I)I"⟩, 23), (⟨"ArithmeticFormsModel", "order", "(IIII)I"⟩, 23), (⟨"ArithmeticFormsModel", "digitAt", "(II)I"⟩, 23)]
theorem lw_r2 : ∀ q ∈ lw_privs_2, lw_okq q := List.forall_mem_cons.mpr ⟨lw_p16, List.forall_mem_cons.mpr ⟨lw_p17, List.forall_mem_cons.mpr ⟨lw_p18, List.forall_mem_cons.mpr ⟨lw_p19, List.forall_mem_cons.mpr ⟨lw_p20, List.forall_mem_cons.mpr ⟨lw_p21, List.forall_mem_cons.mpr ⟨lw_p22, List.forall_mem_cons.mpr ⟨lw_p23, List.forall_mem_cons.mpr ⟨lw_p24, List.forall_mem_cons.mpr ⟨lw_p25, List.forall_mem_cons.mpr ⟨lw_p26, List.forall_mem_cons.mpr ⟨lw_p27, List.forall_mem_cons.mpr ⟨lw_p28, List.forall_mem_cons.mpr ⟨lw_p29, List.forall_mem_cons.mpr ⟨lw_p30, List.forall_mem_cons.mpr ⟨lw_p31, fun _ h => absurd h List.not_mem_nil⟩⟩⟩⟩⟩⟩⟩⟩⟩⟩⟩⟩⟩⟩⟩⟩
theorem lw_p32 : lw_okq (⟨"ArithmeticFormsModel", "multiply", "()I"⟩, 23) := ⟨⟨by decide +kernel, by decide +kernel⟩, List.mem_of_getElem? (i := 461) (by decide +kernel), List.mem_of_getElem? (i := 604) (by decide +kernel), List.mem_of_getElem? (i := 605) (by decide +kernel)⟩
theorem lw_p33 : lw_okq (⟨"ArithmeticFormsModel", "divide", "()I"⟩, 23) := ⟨⟨by decide +kernel, by decide +kernel⟩, List.mem_of_getElem? (i := 461) (by decide +kernel), List.mem_of_getElem? (i := 608) (by decide +kernel), List.mem_of_getElem? (i := 609) (by decide +kernel)⟩
theorem lw_p34 : lw_okq (⟨"ArithmeticFormsModel", "isEnough", "()Z"⟩, 23) := ⟨⟨by decide +kernel, by decide +kernel⟩, List.mem_of_getElem? (i := 461) (by decide +kernel), List.mem_of_getElem? (i := 612) (by decide +kernel), List.mem_of_getElem? (i := 613) (by decide +kernel)⟩
theorem lw_p35 : lw_okq (⟨"ArithmeticFormsModel", "lessen", "()V"⟩, 23) := ⟨⟨by decide +kernel, by decide +kernel⟩, List.mem_of_getElem? (i := 461) (by decide +kernel), List.mem_of_getElem? (i := 616) (by decide +kernel), List.mem_of_getElem? (i := 617) (by decide +kernel)⟩
theorem lw_p36 : lw_okq (⟨"ArithmeticFormsModel", "raise", "()I"⟩, 23) := ⟨⟨by decide +kernel, by decide +kernel⟩, List.mem_of_getElem? (i := 461) (by decide +kernel), List.mem_of_getElem? (i := 620) (by decide +kernel), List.mem_of_getElem? (i := 621) (by decide +kernel)⟩
theorem lw_p37 : lw_okq (⟨"ArithmeticFormsModel", "power", "()I"⟩, 23) := ⟨⟨by decide +kernel, by decide +kernel⟩, List.mem_of_getElem? (i := 461) (by decide +kernel), List.mem_of_getElem? (i := 624) (by decide +kernel), List.mem_of_getElem? (i := 625) (by decide +kernel)⟩
theorem lw_p38 : lw_okq (⟨"ArithmeticFormsModel", "isReceiver", "(I)Z"⟩, 23) := ⟨⟨by decide +kernel, by decide +kernel⟩, List.mem_of_getElem? (i := 461) (by decide +kernel), List.mem_of_getElem? (i := 645) (by decide +kernel), List.mem_of_getElem? (i := 646) (by decide +kernel)⟩
theorem lw_p39 : lw_okq (⟨"ArithmeticFormsModel", "isStored", "(IIIZ)Z"⟩, 23) := ⟨⟨by decide +kernel, by decide +kernel⟩, List.mem_of_getElem? (i := 461) (by decide +kernel), List.mem_of_getElem? (i := 656) (by decide +kernel), List.mem_of_getElem? (i := 657) (by decide +kernel)⟩
theorem lw_p40 : lw_okq (⟨"ArithmeticFormsModel", "given", "(II)I"⟩, 23) := ⟨⟨by decide +kernel, by decide +kernel⟩, List.mem_of_getElem? (i := 461) (by decide +kernel), List.mem_of_getElem? (i := 660) (by decide +kernel), List.mem_of_getElem? (i := 661) (by decide +kernel)⟩
theorem lw_p41 : lw_okq (⟨"ArithmeticFormsModel", "round", "(III)I"⟩, 23) := ⟨⟨by decide +kernel, by decide +kernel⟩, List.mem_of_getElem? (i := 461) (by decide +kernel), List.mem_of_getElem? (i := 664) (by decide +kernel), List.mem_of_getElem? (i := 665) (by decide +kernel)⟩
theorem lw_p42 : lw_okq (⟨"ArithmeticFormsModel", "goesUp", "(II)Z"⟩, 23) := ⟨⟨by decide +kernel, by decide +kernel⟩, List.mem_of_getElem? (i := 461) (by decide +kernel), List.mem_of_getElem? (i := 668) (by decide +kernel), List.mem_of_getElem? (i := 669) (by decide +kernel)⟩
theorem lw_p43 : lw_okq (⟨"ArithmeticFormsModel", "left", "(IJ)J"⟩, 23) := ⟨⟨by decide +kernel, by decide +kernel⟩, List.mem_of_getElem? (i := 461) (by decide +kernel), List.mem_of_getElem? (i := 672) (by decide +kernel), List.mem_of_getElem? (i := 673) (by decide +kernel)⟩
def lw_privs_3 : List (MethodName × Nat) := [(⟨"ArithmeticFormsModel", "multiply", "()I"⟩, 23), (⟨"ArithmeticFormsModel", "divide", "()I"⟩, 23), (⟨"ArithmeticFormsModel", "isEnough", "()Z"⟩, 23), (⟨"ArithmeticFormsModel", "lessen", "()V"⟩, 23), (⟨"ArithmeticFormsModel", "raise", "()I"⟩, 23), (⟨"ArithmeticFormsModel", "power", "()I"⟩, 23), (⟨"ArithmeticFormsModel", "isReceiver", "(I)Z"⟩, 23), (⟨"ArithmeticFormsModel", "isStored", "(IIIZ)Z"⟩, 23), (⟨"ArithmeticFormsModel", "given", "(II)I"⟩, 23), (⟨"ArithmeticFormsModel", "round", "(III)I"⟩, 23), (⟨"ArithmeticFormsModel", "goesUp", "(II)Z"⟩, 23), (⟨"ArithmeticFormsModel", "left", "(IJ)J"⟩, 23)]
theorem lw_r3 : ∀ q ∈ lw_privs_3, lw_okq q := List.forall_mem_cons.mpr ⟨lw_p32, List.forall_mem_cons.mpr ⟨lw_p33, List.forall_mem_cons.mpr ⟨lw_p34, List.forall_mem_cons.mpr ⟨lw_p35, List.forall_mem_cons.mpr ⟨lw_p36, List.forall_mem_cons.mpr ⟨lw_p37, List.forall_mem_cons.mpr ⟨lw_p38, List.forall_mem_cons.mpr ⟨lw_p39, List.forall_mem_cons.mpr ⟨lw_p40, List.forall_mem_cons.mpr ⟨lw_p41, List.forall_mem_cons.mpr ⟨lw_p42, List.forall_mem_cons.mpr ⟨lw_p43, fun _ h => absurd h List.not_mem_nil⟩⟩⟩⟩⟩⟩⟩⟩⟩⟩⟩⟩
def lw_privs : List (MethodName × Nat) := lw_privs_1 ++ (lw_privs_2 ++ (lw_privs_3))
def lw_tbl : List Cond := k2_sels lw_privs ++ tables_1
theorem lw_privs_ok : ∀ q ∈ lw_privs, lw_okq q := by
  show ∀ q ∈ lw_privs_1 ++ (lw_privs_2 ++ (lw_privs_3)), lw_okq q
  exact List.forall_mem_append.mpr ⟨lw_r1, List.forall_mem_append.mpr ⟨lw_r2, lw_r3⟩⟩
-- names (by program)
def wA : List Cond := lw_tbl.filter goodWord
theorem mA {w : Cond} (i : Nat) (h : tables_1[i]? = some w) (hg : goodWord w = true) : w ∈ wA := List.mem_filter.mpr ⟨List.mem_append_right _ (List.mem_of_getElem? h), hg⟩
theorem mS {w : Cond} (i : Nat) (h : (k2_sels lw_privs)[i]? = some w) (hg : goodWord w = true) : w ∈ wA := List.mem_filter.mpr ⟨List.mem_append_left _ (List.mem_of_getElem? h), hg⟩
theorem wA_good {w : Cond} (h : w ∈ wA) : (w.onTables && w.keeps) = true ∨ ∃ ty, w = .arrayClass ty := good_of_word (List.mem_filter.mp h).2
theorem wA_hts {args : Array Value} {s : State} (h : ∀ w ∈ lw_tbl, w.before args s = true) : ∀ w ∈ wA, w.before args s = true := fun w hw => h w (List.mem_filter.mp hw).1
theorem wA_in {ws : List Cond} (h : ∀ w ∈ ws, w ∈ wA) : GoodIn wA ws := fun w hw => ⟨h w hw, wA_good (h w hw)⟩
theorem gC {y : MethodName} {c : ByteArray} {n : Nat} {r : Option FieldType} (h5 : Cond.code y c n r ∈ wA) : GoodIn wA (Cond.code y c n r :: wA) := wA_in (List.forall_mem_cons.mpr ⟨h5, fun _ h => h⟩)
theorem gV {own C : String} {idx : Nat} {y : MethodName} {c : ByteArray} {n : Nat} {r : Option FieldType} (h1 : Cond.methodLink own idx y ∈ wA) (h2 : Cond.instanceMethod y ∈ wA) (h3 : Cond.selects C y y ∈ wA) (h4 : Cond.initialized C ∈ wA) (h5 : Cond.code y c n r ∈ wA) : GoodIn wA (wsV own idx C y (Cond.code y c n r :: wA)) := wA_in (List.forall_mem_append.mpr ⟨List.forall_mem_cons.mpr ⟨h1, List.forall_mem_cons.mpr ⟨h2, List.forall_mem_cons.mpr ⟨h3, List.forall_mem_cons.mpr ⟨h4, fun _ h => absurd h List.not_mem_nil⟩⟩⟩⟩, List.forall_mem_cons.mpr ⟨h5, fun _ h => h⟩⟩)
theorem gS {own : String} {idx : Nat} {y : MethodName} {c : ByteArray} {n : Nat} {r : Option FieldType} (h1 : Cond.methodLink own idx y ∈ wA) (h2 : Cond.static y ∈ wA) (h3 : Cond.initialized y.cls ∈ wA) (h5 : Cond.code y c n r ∈ wA) : GoodIn wA (va_wsS own idx y (Cond.code y c n r :: wA)) := wA_in (List.forall_mem_append.mpr ⟨List.forall_mem_cons.mpr ⟨h1, List.forall_mem_cons.mpr ⟨h2, List.forall_mem_cons.mpr ⟨h3, fun _ h => absurd h List.not_mem_nil⟩⟩⟩, List.forall_mem_cons.mpr ⟨h5, fun _ h => h⟩⟩)
def y_AF_init : MethodName := ⟨"ArithmeticForms", "<init>", "(I)V"⟩
def y_Ob_init : MethodName := ⟨"java/lang/Object", "<init>", "()V"⟩
def y_De_init : MethodName := ⟨"ArithmeticForms$Decimal", "<init>", "()V"⟩
def y_Ma_min : MethodName := ⟨"java/lang/Math", "min", "(II)I"⟩
def y_Ma_max : MethodName := ⟨"java/lang/Math", "max", "(II)I"⟩
def y_Ca_init : MethodName := ⟨"ArithmeticForms$Calculator", "<init>", "(I)V"⟩
def y_De_load : MethodName := ⟨"ArithmeticForms$Decimal", "load", "(JI)V"⟩
def y_De_clear : MethodName := ⟨"ArithmeticForms$Decimal", "clear", "()V"⟩
def y_Ar_fill : MethodName := ⟨"java/util/Arrays", "fill", "([JJ)V"⟩
def y_AF_ten : MethodName := ⟨"ArithmeticForms", "ten", "(I)J"⟩
def y_Ma_abs : MethodName := ⟨"java/lang/Math", "abs", "(J)J"⟩
def y_De_cut : MethodName := ⟨"ArithmeticForms$Decimal", "cut", "(I)V"⟩
def y_AF_value : MethodName := ⟨"ArithmeticForms", "value", "(JI)I"⟩
def y_AF_keepNode : MethodName := ⟨"ArithmeticForms", "keepNode", "(LArithmeticForms$Decimal;)I"⟩
def y_AF_node : MethodName := ⟨"ArithmeticForms", "node", "(III)I"⟩
def y_AF_nodeAt : MethodName := ⟨"ArithmeticForms", "nodeAt", "(I)LArithmeticForms$Decimal;"⟩
def y_AF_operate : MethodName := ⟨"ArithmeticForms", "operate", "(ILArithmeticForms$Decimal;LArithmeticForms$Decimal;LArithmeticForms$Decimal;)V"⟩
def y_Ca_power : MethodName := ⟨"ArithmeticForms$Calculator", "power", "(LArithmeticForms$Decimal;LArithmeticForms$Decimal;LArithmeticForms$Decimal;)V"⟩
def y_Ca_passOn : MethodName := ⟨"ArithmeticForms$Calculator", "passOn", "(LArithmeticForms$Decimal;LArithmeticForms$Decimal;LArithmeticForms$Decimal;)Z"⟩
def y_De_raise : MethodName := ⟨"ArithmeticForms$Decimal", "raise", "(I)V"⟩
def y_Ca_powerOf : MethodName := ⟨"ArithmeticForms$Calculator", "powerOf", "(LArithmeticForms$Decimal;)I"⟩
def y_De_exponent : MethodName := ⟨"ArithmeticForms$Decimal", "exponent", "()I"⟩
def y_De_lowestWhole : MethodName := ⟨"ArithmeticForms$Decimal", "lowestWhole", "(I)J"⟩
def y_De_wholeDigits : MethodName := ⟨"ArithmeticForms$Decimal", "wholeDigits", "(I)I"⟩
def y_De_digit : MethodName := ⟨"ArithmeticForms$Decimal", "digit", "(I)I"⟩
def y_De_copy : MethodName := ⟨"ArithmeticForms$Decimal", "copy", "(LArithmeticForms$Decimal;)V"⟩
def y_Sy_arraycopy : MethodName := ⟨"java/lang/System", "arraycopy", "(Ljava/lang/Object;ILjava/lang/Object;II)V"⟩
def y_Ma_abs2 : MethodName := ⟨"java/lang/Math", "abs", "(I)I"⟩
def y_Ca_multiply : MethodName := ⟨"ArithmeticForms$Calculator", "multiply", "(LArithmeticForms$Decimal;LArithmeticForms$Decimal;LArithmeticForms$Decimal;)V"⟩
def y_Ca_carry : MethodName := ⟨"ArithmeticForms$Calculator", "carry", "()V"⟩
def y_Ma_floorDiv : MethodName := ⟨"java/lang/Math", "floorDiv", "(JJ)J"⟩
def y_Ca_settle : MethodName := ⟨"ArithmeticForms$Calculator", "settle", "(LArithmeticForms$Decimal;II)V"⟩
def y_Ca_wideAt : MethodName := ⟨"ArithmeticForms$Calculator", "wideAt", "(I)J"⟩
def y_Ca_divide : MethodName := ⟨"ArithmeticForms$Calculator", "divide", "(LArithmeticForms$Decimal;LArithmeticForms$Decimal;LArithmeticForms$Decimal;)V"⟩
def y_Ca_takeOut : MethodName := ⟨"ArithmeticForms$Calculator", "takeOut", "(LArithmeticForms$Decimal;)J"⟩
def y_Ma_max2 : MethodName := ⟨"java/lang/Math", "max", "(JJ)J"⟩
def y_Ca_reaches : MethodName := ⟨"ArithmeticForms$Calculator", "reaches", "(LArithmeticForms$Decimal;)Z"⟩
def y_Ca_reduce : MethodName := ⟨"ArithmeticForms$Calculator", "reduce", "(LArithmeticForms$Decimal;J)V"⟩
def y_AF_calculate : MethodName := ⟨"ArithmeticForms", "calculate", "(ILArithmeticForms$Decimal;LArithmeticForms$Decimal;LArithmeticForms$Decimal;)V"⟩
def y_Ca_add : MethodName := ⟨"ArithmeticForms$Calculator", "add", "(LArithmeticForms$Decimal;LArithmeticForms$Decimal;LArithmeticForms$Decimal;I)V"⟩
def y_De_compareSize : MethodName := ⟨"ArithmeticForms$Decimal", "compareSize", "(LArithmeticForms$Decimal;)I"⟩
def y_In_compare : MethodName := ⟨"java/lang/Integer", "compare", "(II)I"⟩
def y_Lo_compare : MethodName := ⟨"java/lang/Long", "compare", "(JJ)I"⟩
def y_Ca_place : MethodName := ⟨"ArithmeticForms$Calculator", "place", "(LArithmeticForms$Decimal;I)V"⟩
def y_AF_receiver : MethodName := ⟨"ArithmeticForms", "receiver", "(III)I"⟩
def y_Re_init : MethodName := ⟨"ArithmeticForms$Receiver", "<init>", "(III)V"⟩
def y_AF_run : MethodName := ⟨"ArithmeticForms", "run", "(IIZ)I"⟩
def y_AF_receiverAt : MethodName := ⟨"ArithmeticForms", "receiverAt", "(I)LArithmeticForms$Receiver;"⟩
def y_AF_give : MethodName := ⟨"ArithmeticForms", "give", "(LArithmeticForms$Receiver;ILArithmeticForms$Decimal;Z)Z"⟩
def y_Re_refuses : MethodName := ⟨"ArithmeticForms$Receiver", "refuses", "(LArithmeticForms$Decimal;)Z"⟩
def y_Re_isExact : MethodName := ⟨"ArithmeticForms$Receiver", "isExact", "(LArithmeticForms$Decimal;)Z"⟩
def y_Re_fits : MethodName := ⟨"ArithmeticForms$Receiver", "fits", "(LArithmeticForms$Decimal;)Z"⟩
def y_Re_roundedSize : MethodName := ⟨"ArithmeticForms$Receiver", "roundedSize", "(LArithmeticForms$Decimal;)J"⟩
def y_Re_goesUp : MethodName := ⟨"ArithmeticForms$Receiver", "goesUp", "(LArithmeticForms$Decimal;)Z"⟩
def y_Re_compareToHalf : MethodName := ⟨"ArithmeticForms$Receiver", "compareToHalf", "(LArithmeticForms$Decimal;)I"⟩
def y_Re_endsOdd : MethodName := ⟨"ArithmeticForms$Receiver", "endsOdd", "(LArithmeticForms$Decimal;)Z"⟩
def y_Re_lowestDigits : MethodName := ⟨"ArithmeticForms$Receiver", "lowestDigits", "(J)J"⟩
def y_AF_restOf : MethodName := ⟨"ArithmeticForms", "restOf", "(LArithmeticForms$Receiver;LArithmeticForms$Decimal;)J"⟩
def y_AF_stored : MethodName := ⟨"ArithmeticForms", "stored", "(I)J"⟩
def y_AF_set : MethodName := ⟨"ArithmeticForms", "set", "(IJ)I"⟩
def y_AF_error : MethodName := ⟨"ArithmeticForms", "error", "(I)Z"⟩
def y_AF_rest : MethodName := ⟨"ArithmeticForms", "rest", "(I)J"⟩
def y_AF_raises : MethodName := ⟨"ArithmeticForms", "raises", "(I)I"⟩
def y_AF_raised : MethodName := ⟨"ArithmeticForms", "raised", "()I"⟩
def y_Lw_cell : MethodName := ⟨"ArithmeticFormsLaw", "cell", "([II)I"⟩
def y_Lw_exact : MethodName := ⟨"ArithmeticFormsLaw", "exact", "(LArithmeticForms;II[J)I"⟩
def y_AF_exact : MethodName := ⟨"ArithmeticForms", "exact", "(II)J"⟩
def y_Th_fillInStackTrace : MethodName := ⟨"java/lang/Throwable", "fillInStackTrace", "(I)Ljava/lang/Throwable;"⟩
def y_Th_fillInStackTrace2 : MethodName := ⟨"java/lang/Throwable", "fillInStackTrace", "()Ljava/lang/Throwable;"⟩
def y_Th_init : MethodName := ⟨"java/lang/Throwable", "<init>", "()V"⟩
def y_AE_init : MethodName := ⟨"java/lang/ArithmeticException", "<init>", "(Ljava/lang/String;)V"⟩
def y_RE_init : MethodName := ⟨"java/lang/RuntimeException", "<init>", "(Ljava/lang/String;)V"⟩
def y_Ex_init : MethodName := ⟨"java/lang/Exception", "<init>", "(Ljava/lang/String;)V"⟩
def y_Th_init2 : MethodName := ⟨"java/lang/Throwable", "<init>", "(Ljava/lang/String;)V"⟩
def y_Mo_init : MethodName := ⟨"ArithmeticFormsModel", "<init>", "(I)V"⟩
def y_Mo_thrown : MethodName := ⟨"ArithmeticFormsModel", "thrown", "()I"⟩
def y_Mo_value : MethodName := ⟨"ArithmeticFormsModel", "value", "(JI)I"⟩
def y_Mo_whole : MethodName := ⟨"ArithmeticFormsModel", "whole", "(JII)V"⟩
def y_Mo_zero : MethodName := ⟨"ArithmeticFormsModel", "zero", "(I)V"⟩
def y_Mo_cut : MethodName := ⟨"ArithmeticFormsModel", "cut", "(II)I"⟩
def y_Mo_drop : MethodName := ⟨"ArithmeticFormsModel", "drop", "(II)V"⟩
def y_Mo_kept : MethodName := ⟨"ArithmeticFormsModel", "kept", "(I)I"⟩
def y_Mo_node : MethodName := ⟨"ArithmeticFormsModel", "node", "(III)I"⟩
def y_Mo_isNode : MethodName := ⟨"ArithmeticFormsModel", "isNode", "(I)Z"⟩
def y_Mo_load : MethodName := ⟨"ArithmeticFormsModel", "load", "(II)V"⟩
def y_Mo_operated : MethodName := ⟨"ArithmeticFormsModel", "operated", "(I)I"⟩
def y_Mo_add : MethodName := ⟨"ArithmeticFormsModel", "add", "()I"⟩
def y_Mo_copy : MethodName := ⟨"ArithmeticFormsModel", "copy", "(II)V"⟩
def y_Mo_topOf : MethodName := ⟨"ArithmeticFormsModel", "topOf", "(I)I"⟩
def y_Mo_order : MethodName := ⟨"ArithmeticFormsModel", "order", "(IIII)I"⟩
def y_Mo_digitAt : MethodName := ⟨"ArithmeticFormsModel", "digitAt", "(II)I"⟩
def y_Mo_multiply : MethodName := ⟨"ArithmeticFormsModel", "multiply", "()I"⟩
def y_Mo_divide : MethodName := ⟨"ArithmeticFormsModel", "divide", "()I"⟩
def y_Mo_isEnough : MethodName := ⟨"ArithmeticFormsModel", "isEnough", "()Z"⟩
def y_Mo_lessen : MethodName := ⟨"ArithmeticFormsModel", "lessen", "()V"⟩
def y_Mo_raise : MethodName := ⟨"ArithmeticFormsModel", "raise", "()I"⟩
def y_Mo_power : MethodName := ⟨"ArithmeticFormsModel", "power", "()I"⟩
def y_Mo_raises : MethodName := ⟨"ArithmeticFormsModel", "raises", "(I)I"⟩
def y_Mo_exact : MethodName := ⟨"ArithmeticFormsModel", "exact", "(II)J"⟩
def y_Mo_receiver : MethodName := ⟨"ArithmeticFormsModel", "receiver", "(III)I"⟩
def y_Mo_set : MethodName := ⟨"ArithmeticFormsModel", "set", "(IJ)I"⟩
def y_Mo_isReceiver : MethodName := ⟨"ArithmeticFormsModel", "isReceiver", "(I)Z"⟩
def y_Mo_ten : MethodName := ⟨"ArithmeticFormsModel", "ten", "(I)J"⟩
def y_Mo_run : MethodName := ⟨"ArithmeticFormsModel", "run", "(IIZ)I"⟩
def y_Mo_isStored : MethodName := ⟨"ArithmeticFormsModel", "isStored", "(IIIZ)Z"⟩
def y_Mo_given : MethodName := ⟨"ArithmeticFormsModel", "given", "(II)I"⟩
def y_Mo_round : MethodName := ⟨"ArithmeticFormsModel", "round", "(III)I"⟩
def y_Mo_goesUp : MethodName := ⟨"ArithmeticFormsModel", "goesUp", "(II)Z"⟩
def y_Mo_left : MethodName := ⟨"ArithmeticFormsModel", "left", "(IJ)J"⟩
def y_Mo_stored : MethodName := ⟨"ArithmeticFormsModel", "stored", "(I)J"⟩
def y_Mo_error : MethodName := ⟨"ArithmeticFormsModel", "error", "(I)Z"⟩
def y_Mo_rest : MethodName := ⟨"ArithmeticFormsModel", "rest", "(I)J"⟩
def y_Mo_raised : MethodName := ⟨"ArithmeticFormsModel", "raised", "()I"⟩
abbrev c_AF_init : ByteArray := prog_1_method_1_code
abbrev c_Ob_init : ByteArray := object_method_1_code
abbrev c_De_init : ByteArray := prog_3_method_1_code
abbrev c_Ma_min : ByteArray := prog_11_method_69_code
abbrev c_Ma_max : ByteArray := prog_11_method_65_code
abbrev c_Ca_init : ByteArray := prog_2_method_1_code
abbrev c_De_load : ByteArray := prog_3_method_5_code
abbrev c_De_clear : ByteArray := prog_3_method_2_code
abbrev c_Ar_fill : ByteArray := prog_16_method_101_code
abbrev c_AF_ten : ByteArray := prog_1_method_20_code
abbrev c_Ma_abs : ByteArray := prog_11_method_61_code
abbrev c_De_cut : ByteArray := prog_3_method_6_code
abbrev c_AF_value : ByteArray := prog_1_method_2_code
abbrev c_AF_keepNode : ByteArray := prog_1_method_15_code
abbrev c_AF_node : ByteArray := prog_1_method_3_code
abbrev c_AF_nodeAt : ByteArray := prog_1_method_13_code
abbrev c_AF_operate : ByteArray := prog_1_method_16_code
abbrev c_Ca_power : ByteArray := prog_2_method_5_code
abbrev c_Ca_passOn : ByteArray := prog_2_method_7_code
abbrev c_De_raise : ByteArray := prog_3_method_3_code
abbrev c_Ca_powerOf : ByteArray := prog_2_method_6_code
abbrev c_De_exponent : ByteArray := prog_3_method_7_code
abbrev c_De_lowestWhole : ByteArray := prog_3_method_10_code
abbrev c_De_wholeDigits : ByteArray := prog_3_method_9_code
abbrev c_De_digit : ByteArray := prog_3_method_8_code
abbrev c_De_copy : ByteArray := prog_3_method_4_code
abbrev c_Ma_abs2 : ByteArray := prog_11_method_59_code
abbrev c_Ca_multiply : ByteArray := prog_2_method_3_code
abbrev c_Ca_carry : ByteArray := prog_2_method_9_code
abbrev c_Ma_floorDiv : ByteArray := prog_11_method_49_code
abbrev c_Ca_settle : ByteArray := prog_2_method_13_code
abbrev c_Ca_wideAt : ByteArray := prog_2_method_14_code
abbrev c_Ca_divide : ByteArray := prog_2_method_4_code
abbrev c_Ca_takeOut : ByteArray := prog_2_method_10_code
abbrev c_Ma_max2 : ByteArray := prog_11_method_66_code
abbrev c_Ca_reaches : ByteArray := prog_2_method_11_code
abbrev c_Ca_reduce : ByteArray := prog_2_method_12_code
abbrev c_AF_calculate : ByteArray := prog_1_method_17_code
abbrev c_Ca_add : ByteArray := prog_2_method_2_code
abbrev c_De_compareSize : ByteArray := prog_3_method_11_code
abbrev c_In_compare : ByteArray := prog_9_method_40_code
abbrev c_Lo_compare : ByteArray := prog_10_method_42_code
abbrev c_Ca_place : ByteArray := prog_2_method_8_code
abbrev c_AF_receiver : ByteArray := prog_1_method_4_code
abbrev c_Re_init : ByteArray := prog_4_method_1_code
abbrev c_AF_run : ByteArray := prog_1_method_5_code
abbrev c_AF_receiverAt : ByteArray := prog_1_method_14_code
abbrev c_AF_give : ByteArray := prog_1_method_18_code
abbrev c_Re_refuses : ByteArray := prog_4_method_2_code
abbrev c_Re_isExact : ByteArray := prog_4_method_6_code
abbrev c_Re_fits : ByteArray := prog_4_method_3_code
abbrev c_Re_roundedSize : ByteArray := prog_4_method_5_code
abbrev c_Re_goesUp : ByteArray := prog_4_method_7_code
abbrev c_Re_compareToHalf : ByteArray := prog_4_method_8_code
abbrev c_Re_endsOdd : ByteArray := prog_4_method_9_code
abbrev c_Re_lowestDigits : ByteArray := prog_4_method_4_code
abbrev c_AF_restOf : ByteArray := prog_1_method_19_code
abbrev c_AF_stored : ByteArray := prog_1_method_6_code
abbrev c_AF_set : ByteArray := prog_1_method_7_code
abbrev c_AF_error : ByteArray := prog_1_method_8_code
abbrev c_AF_rest : ByteArray := prog_1_method_9_code
abbrev c_AF_raises : ByteArray := prog_1_method_11_code
abbrev c_AF_raised : ByteArray := prog_1_method_12_code
abbrev c_Lw_cell : ByteArray := method_2_code
abbrev c_AF_exact : ByteArray := prog_1_method_10_code
abbrev c_Th_init : ByteArray := prog_15_method_1_code
abbrev c_AE_init : ByteArray := prog_7_method_2_code
abbrev c_RE_init : ByteArray := prog_12_method_2_code
abbrev c_Ex_init : ByteArray := prog_8_method_2_code
abbrev c_Th_init2 : ByteArray := prog_15_method_2_code
abbrev c_Mo_init : ByteArray := prog_6_method_1_code
abbrev c_Mo_thrown : ByteArray := prog_6_method_2_code
abbrev c_Mo_value : ByteArray := prog_6_method_20_code
abbrev c_Mo_whole : ByteArray := prog_6_method_5_code
abbrev c_Mo_zero : ByteArray := prog_6_method_3_code
abbrev c_Mo_cut : ByteArray := prog_6_method_7_code
abbrev c_Mo_drop : ByteArray := prog_6_method_6_code
abbrev c_Mo_kept : ByteArray := prog_6_method_19_code
abbrev c_Mo_node : ByteArray := prog_6_method_23_code
abbrev c_Mo_isNode : ByteArray := prog_6_method_21_code
abbrev c_Mo_load : ByteArray := prog_6_method_18_code
abbrev c_Mo_operated : ByteArray := prog_6_method_22_code
abbrev c_Mo_add : ByteArray := prog_6_method_11_code
abbrev c_Mo_copy : ByteArray := prog_6_method_4_code
abbrev c_Mo_topOf : ByteArray := prog_6_method_9_code
abbrev c_Mo_order : ByteArray := prog_6_method_10_code
abbrev c_Mo_digitAt : ByteArray := prog_6_method_8_code
abbrev c_Mo_multiply : ByteArray := prog_6_method_12_code
abbrev c_Mo_divide : ByteArray := prog_6_method_15_code
abbrev c_Mo_isEnough : ByteArray := prog_6_method_13_code
abbrev c_Mo_lessen : ByteArray := prog_6_method_14_code
abbrev c_Mo_raise : ByteArray := prog_6_method_17_code
abbrev c_Mo_power : ByteArray := prog_6_method_16_code
abbrev c_Mo_raises : ByteArray := prog_6_method_24_code
abbrev c_Mo_exact : ByteArray := prog_6_method_25_code
abbrev c_Mo_receiver : ByteArray := prog_6_method_26_code
abbrev c_Mo_set : ByteArray := prog_6_method_29_code
abbrev c_Mo_isReceiver : ByteArray := prog_6_method_27_code
abbrev c_Mo_ten : ByteArray := prog_6_method_28_code
abbrev c_Mo_run : ByteArray := prog_6_method_35_code
abbrev c_Mo_isStored : ByteArray := prog_6_method_34_code
abbrev c_Mo_given : ByteArray := prog_6_method_32_code
abbrev c_Mo_round : ByteArray := prog_6_method_31_code
abbrev c_Mo_goesUp : ByteArray := prog_6_method_30_code
abbrev c_Mo_left : ByteArray := prog_6_method_33_code
abbrev c_Mo_stored : ByteArray := prog_6_method_36_code
abbrev c_Mo_error : ByteArray := prog_6_method_37_code
abbrev c_Mo_rest : ByteArray := prog_6_method_38_code
abbrev c_Mo_raised : ByteArray := prog_6_method_39_code
def T_AF : u_T := fun k => match k with
  | 0 => ("ArithmeticForms", "calculator", "LArithmeticForms$Calculator;", true)
  | 1 => ("ArithmeticForms", "nodes", "[LArithmeticForms$Decimal;", true)
  | 2 => ("ArithmeticForms", "nodeCount", "I", false)
  | 3 => ("ArithmeticForms", "receivers", "[LArithmeticForms$Receiver;", true)
  | 4 => ("ArithmeticForms", "receiverCount", "I", false)
  | 5 => ("ArithmeticForms", "latestRaised", "I", false)
  | 6 => ("ArithmeticForms", "before", "LArithmeticForms$Decimal;", true)
  | 7 => ("ArithmeticForms", "given", "LArithmeticForms$Decimal;", true)
  | _ => ("ArithmeticForms", "over", "LArithmeticForms$Decimal;", true)
def t_AF : Nat → FieldType := fun k => match k with
  | 0 => (.object "ArithmeticForms$Calculator")
  | 1 => (.array (.object "ArithmeticForms$Decimal"))
  | 2 => .int
  | 3 => (.array (.object "ArithmeticForms$Receiver"))
  | 4 => .int
  | 5 => .int
  | 6 => (.object "ArithmeticForms$Decimal")
  | 7 => (.object "ArithmeticForms$Decimal")
  | _ => (.object "ArithmeticForms$Decimal")
theorem n_AF : ∀ a, a < 9 → ∀ b, b < 9 → a ≠ b → (T_AF a).2.1 ≠ (T_AF b).2.1 := by decide +kernel
theorem t_AF_ok : ∀ k, k < 9 → parseFieldDescriptor (T_AF k).2.2.1 = some (t_AF k) := by decide +kernel
theorem i_AF : ∀ w ∈ u_ws "ArithmeticForms" T_AF 9, w ∈ wA := by decide +kernel
def T_Ca : u_T := fun k => match k with
  | 0 => ("ArithmeticForms$Calculator", "precision", "I", true)
  | 1 => ("ArithmeticForms$Calculator", "wide", "[J", true)
  | 2 => ("ArithmeticForms$Calculator", "left", "[J", true)
  | _ => ("ArithmeticForms$Calculator", "one", "LArithmeticForms$Decimal;", true)
def t_Ca : Nat → FieldType := fun k => match k with
  | 0 => .int
  | 1 => (.array .long)
  | 2 => (.array .long)
  | _ => (.object "ArithmeticForms$Decimal")
theorem n_Ca : ∀ a, a < 4 → ∀ b, b < 4 → a ≠ b → (T_Ca a).2.1 ≠ (T_Ca b).2.1 := by decide +kernel
theorem t_Ca_ok : ∀ k, k < 4 → parseFieldDescriptor (T_Ca k).2.2.1 = some (t_Ca k) := by decide +kernel
theorem i_Ca : ∀ w ∈ u_ws "ArithmeticForms$Calculator" T_Ca 4, w ∈ wA := by decide +kernel
def T_De : u_T := fun k => match k with
  | 0 => ("ArithmeticForms$Decimal", "code", "I", false)
  | 1 => ("ArithmeticForms$Decimal", "sign", "I", false)
  | 2 => ("ArithmeticForms$Decimal", "top", "I", false)
  | 3 => ("ArithmeticForms$Decimal", "count", "I", false)
  | _ => ("ArithmeticForms$Decimal", "limbs", "[J", true)
def t_De : Nat → FieldType := fun k => match k with
  | 0 => .int
  | 1 => .int
  | 2 => .int
  | 3 => .int
  | _ => (.array .long)
theorem n_De : ∀ a, a < 5 → ∀ b, b < 5 → a ≠ b → (T_De a).2.1 ≠ (T_De b).2.1 := by decide +kernel
theorem t_De_ok : ∀ k, k < 5 → parseFieldDescriptor (T_De k).2.2.1 = some (t_De k) := by decide +kernel
theorem i_De : ∀ w ∈ u_ws "ArithmeticForms$Decimal" T_De 5, w ∈ wA := by decide +kernel
def T_Re : u_T := fun k => match k with
  | 0 => ("ArithmeticForms$Receiver", "scale", "I", true)
  | 1 => ("ArithmeticForms$Receiver", "digits", "I", true)
  | 2 => ("ArithmeticForms$Receiver", "rounding", "I", true)
  | 3 => ("ArithmeticForms$Receiver", "held", "J", false)
  | 4 => ("ArithmeticForms$Receiver", "remainder", "J", false)
  | _ => ("ArithmeticForms$Receiver", "failed", "Z", false)
def t_Re : Nat → FieldType := fun k => match k with
  | 0 => .int
  | 1 => .int
  | 2 => .int
  | 3 => .long
  | 4 => .long
  | _ => .boolean
theorem n_Re : ∀ a, a < 6 → ∀ b, b < 6 → a ≠ b → (T_Re a).2.1 ≠ (T_Re b).2.1 := by decide +kernel
theorem t_Re_ok : ∀ k, k < 6 → parseFieldDescriptor (T_Re k).2.2.1 = some (t_Re k) := by decide +kernel
theorem i_Re : ∀ w ∈ u_ws "ArithmeticForms$Receiver" T_Re 6, w ∈ wA := by decide +kernel
def T_Mo : u_T := fun k => match k with
  | 0 => ("ArithmeticFormsModel", "code", "I", false)
  | 1 => ("ArithmeticFormsModel", "precision", "I", true)
  | 2 => ("ArithmeticFormsModel", "digits", "[I", true)
  | 3 => ("ArithmeticFormsModel", "sizes", "[I", true)
  | 4 => ("ArithmeticFormsModel", "exponents", "[I", true)
  | 5 => ("ArithmeticFormsModel", "signs", "[I", true)
  | 6 => ("ArithmeticFormsModel", "rest", "[I", true)
  | 7 => ("ArithmeticFormsModel", "coefficients", "[I", true)
  | 8 => ("ArithmeticFormsModel", "nodeSizes", "[I", true)
  | 9 => ("ArithmeticFormsModel", "nodeExponents", "[I", true)
  | 10 => ("ArithmeticFormsModel", "nodeSigns", "[I", true)
  | 11 => ("ArithmeticFormsModel", "raises", "[I", true)
  | 12 => ("ArithmeticFormsModel", "nodes", "I", false)
  | 13 => ("ArithmeticFormsModel", "receivers", "I", false)
  | 14 => ("ArithmeticFormsModel", "latest", "I", false)
  | 15 => ("ArithmeticFormsModel", "most", "[I", true)
  | 16 => ("ArithmeticFormsModel", "scales", "[I", true)
  | 17 => ("ArithmeticFormsModel", "roundings", "[I", true)
  | 18 => ("ArithmeticFormsModel", "holds", "[J", true)
  | 19 => ("ArithmeticFormsModel", "rests", "[J", true)
  | 20 => ("ArithmeticFormsModel", "errors", "[Z", true)
  | 21 => ("ArithmeticFormsModel", "rounded", "J", false)
  | _ => ("ArithmeticFormsModel", "isLong", "Z", false)
def t_Mo : Nat → FieldType := fun k => match k with
  | 0 => .int
  | 1 => .int
  | 2 => (.array .int)
  | 3 => (.array .int)
  | 4 => (.array .int)
  | 5 => (.array .int)
  | 6 => (.array .int)
  | 7 => (.array .int)
  | 8 => (.array .int)
  | 9 => (.array .int)
  | 10 => (.array .int)
  | 11 => (.array .int)
  | 12 => .int
  | 13 => .int
  | 14 => .int
  | 15 => (.array .int)
  | 16 => (.array .int)
  | 17 => (.array .int)
  | 18 => (.array .long)
  | 19 => (.array .long)
  | 20 => (.array .boolean)
  | 21 => .long
  | _ => .boolean
theorem n_Mo : ∀ a, a < 23 → ∀ b, b < 23 → a ≠ b → (T_Mo a).2.1 ≠ (T_Mo b).2.1 := by decide +kernel
theorem t_Mo_ok : ∀ k, k < 23 → parseFieldDescriptor (T_Mo k).2.2.1 = some (t_Mo k) := by decide +kernel
theorem i_Mo : ∀ w ∈ u_ws "ArithmeticFormsModel" T_Mo 23, w ∈ wA := by decide +kernel
abbrev clsA : List vw_C := [("ArithmeticForms", T_AF, 9), ("ArithmeticForms$Calculator", T_Ca, 4), ("ArithmeticForms$Decimal", T_De, 5), ("ArithmeticForms$Receiver", T_Re, 6), ("ArithmeticFormsModel", T_Mo, 23)]
theorem k0 : Cond.initialized "ArithmeticFormsLaw" ∈ wA := mA 0 (by decide +kernel) (by decide +kernel)
theorem k1 : Cond.initialized "ArithmeticForms" ∈ wA := mA 1 (by decide +kernel) (by decide +kernel)
theorem k2 : Cond.initialized "ArithmeticForms$Decimal" ∈ wA := mA 2 (by decide +kernel) (by decide +kernel)
theorem k3 : Cond.initialized "ArithmeticForms$Calculator" ∈ wA := mA 3 (by decide +kernel) (by decide +kernel)
theorem k4 : Cond.initialized "java/lang/Math" ∈ wA := mA 4 (by decide +kernel) (by decide +kernel)
theorem k5 : Cond.initialized "java/util/Arrays" ∈ wA := mA 5 (by decide +kernel) (by decide +kernel)
theorem k6 : Cond.initialized "ArithmeticFormsModel" ∈ wA := mA 6 (by decide +kernel) (by decide +kernel)
theorem k7 : Cond.initialized "java/lang/System" ∈ wA := mA 7 (by decide +kernel) (by decide +kernel)
theorem k8 : Cond.initialized "java/lang/Integer" ∈ wA := mA 8 (by decide +kernel) (by decide +kernel)
theorem k9 : Cond.initialized "java/lang/Long" ∈ wA := mA 9 (by decide +kernel) (by decide +kernel)
theorem k10 : Cond.initialized "ArithmeticForms$Receiver" ∈ wA := mA 10 (by decide +kernel) (by decide +kernel)
theorem k11 : Cond.initialized "java/lang/Throwable" ∈ wA := mA 11 (by decide +kernel) (by decide +kernel)
theorem k12 : Cond.initialized "java/lang/Exception" ∈ wA := mA 12 (by decide +kernel) (by decide +kernel)
theorem k13 : Cond.initialized "java/lang/RuntimeException" ∈ wA := mA 13 (by decide +kernel) (by decide +kernel)
theorem k14 : Cond.initialized "java/lang/ArithmeticException" ∈ wA := mA 14 (by decide +kernel) (by decide +kernel)
theorem k15 : Cond.classLink "ArithmeticFormsLaw" (8 : Nat) "ArithmeticForms" ∈ wA := mA 15 (by decide +kernel) (by decide +kernel)
theorem k16 : Cond.instantiable "ArithmeticForms" (9 : Nat) ∈ wA := mA 16 (by decide +kernel) (by decide +kernel)
theorem k17 : Cond.methodLink "ArithmeticFormsLaw" 21 y_AF_init ∈ wA := mA 17 (by decide +kernel) (by decide +kernel)
theorem k18 : Cond.instanceMethod y_AF_init ∈ wA := mA 18 (by decide +kernel) (by decide +kernel)
theorem k19 : Cond.code y_AF_init c_AF_init 2 none ∈ wA := mA 19 (by decide +kernel) (by decide +kernel)
theorem k20 : Cond.methodLink "ArithmeticForms" 1 y_Ob_init ∈ wA := mA 20 (by decide +kernel) (by decide +kernel)
theorem k21 : Cond.instanceMethod y_Ob_init ∈ wA := mA 21 (by decide +kernel) (by decide +kernel)
theorem k22 : Cond.code y_Ob_init c_Ob_init 1 none ∈ wA := mA 22 (by decide +kernel) (by decide +kernel)
theorem k23 : Cond.classLink "ArithmeticForms" (9 : Nat) "ArithmeticForms$Decimal" ∈ wA := mA 23 (by decide +kernel) (by decide +kernel)
theorem k24t : Cond.arrayOver (Jvm.ClassFile.FieldType.object "ArithmeticForms$Decimal") ∈ lw_tbl := List.mem_append_right _ (List.mem_of_getElem? (i := 24) (by decide +kernel))
theorem k25 : Cond.classLink "ArithmeticForms" (15 : Nat) "ArithmeticForms$Receiver" ∈ wA := mA 25 (by decide +kernel) (by decide +kernel)
theorem k26t : Cond.arrayOver (Jvm.ClassFile.FieldType.object "ArithmeticForms$Receiver") ∈ lw_tbl := List.mem_append_right _ (List.mem_of_getElem? (i := 26) (by decide +kernel))
theorem k27 : Cond.instantiable "ArithmeticForms$Decimal" (5 : Nat) ∈ wA := mA 27 (by decide +kernel) (by decide +kernel)
theorem k28t : Cond.methodLinkNest "ArithmeticForms" 21 y_De_init "ArithmeticForms" ∈ lw_tbl := List.mem_append_right _ (List.mem_of_getElem? (i := 28) (by decide +kernel))
theorem k29 : Cond.instanceMethod y_De_init ∈ wA := mA 29 (by decide +kernel) (by decide +kernel)
theorem k30 : Cond.code y_De_init c_De_init 1 none ∈ wA := mA 30 (by decide +kernel) (by decide +kernel)
theorem k31 : Cond.methodLink "ArithmeticForms$Decimal" 5 y_Ob_init ∈ wA := mA 31 (by decide +kernel) (by decide +kernel)
theorem k32 : Cond.fieldLink "ArithmeticForms$Decimal" (15 : Nat) "ArithmeticForms$Decimal" "code" "I" ∈ wA := mA 32 (by decide +kernel) (by decide +kernel)
theorem k33 : Cond.fieldLink "ArithmeticForms$Calculator" (109 : Nat) "ArithmeticForms$Decimal" "code" "I" ∈ wA := mA 33 (by decide +kernel) (by decide +kernel)
theorem k34 : Cond.fieldLink "ArithmeticForms" (110 : Nat) "ArithmeticForms$Decimal" "code" "I" ∈ wA := mA 34 (by decide +kernel) (by decide +kernel)
theorem k35 : Cond.fieldLink "ArithmeticForms$Decimal" (19 : Nat) "ArithmeticForms$Decimal" "sign" "I" ∈ wA := mA 35 (by decide +kernel) (by decide +kernel)
theorem k36 : Cond.fieldLink "ArithmeticForms$Calculator" (37 : Nat) "ArithmeticForms$Decimal" "sign" "I" ∈ wA := mA 36 (by decide +kernel) (by decide +kernel)
theorem k37 : Cond.fieldLink "ArithmeticForms$Receiver" (55 : Nat) "ArithmeticForms$Decimal" "sign" "I" ∈ wA := mA 37 (by decide +kernel) (by decide +kernel)
theorem k38 : Cond.fieldLink "ArithmeticForms" (120 : Nat) "ArithmeticForms$Decimal" "sign" "I" ∈ wA := mA 38 (by decide +kernel) (by decide +kernel)
theorem k39 : Cond.fieldLink "ArithmeticForms$Decimal" (22 : Nat) "ArithmeticForms$Decimal" "top" "I" ∈ wA := mA 39 (by decide +kernel) (by decide +kernel)
theorem k40 : Cond.fieldLink "ArithmeticForms$Calculator" (64 : Nat) "ArithmeticForms$Decimal" "top" "I" ∈ wA := mA 40 (by decide +kernel) (by decide +kernel)
theorem k41 : Cond.fieldLink "ArithmeticForms$Decimal" (25 : Nat) "ArithmeticForms$Decimal" "count" "I" ∈ wA := mA 41 (by decide +kernel) (by decide +kernel)
theorem k42 : Cond.fieldLink "ArithmeticForms$Receiver" (45 : Nat) "ArithmeticForms$Decimal" "count" "I" ∈ wA := mA 42 (by decide +kernel) (by decide +kernel)
theorem k43 : Cond.fieldLink "ArithmeticForms" (123 : Nat) "ArithmeticForms$Decimal" "count" "I" ∈ wA := mA 43 (by decide +kernel) (by decide +kernel)
theorem k44 : Cond.fieldLink "ArithmeticForms$Decimal" (11 : Nat) "ArithmeticForms$Decimal" "limbs" "[J" ∈ wA := mA 44 (by decide +kernel) (by decide +kernel)
theorem k45 : Cond.fieldLink "ArithmeticForms$Calculator" (61 : Nat) "ArithmeticForms$Decimal" "limbs" "[J" ∈ wA := mA 45 (by decide +kernel) (by decide +kernel)
theorem k56t : Cond.superclass "ArithmeticForms$Decimal" "java/lang/Object" ∈ lw_tbl := List.mem_append_right _ (List.mem_of_getElem? (i := 56) (by decide +kernel))
theorem k57 : Cond.arrayClass Jvm.ClassFile.FieldType.long ∈ wA := mA 57 (by decide +kernel) (by decide +kernel)
theorem k58 : Cond.classLink "ArithmeticForms" (32 : Nat) "ArithmeticForms$Calculator" ∈ wA := mA 58 (by decide +kernel) (by decide +kernel)
theorem k59 : Cond.instantiable "ArithmeticForms$Calculator" (4 : Nat) ∈ wA := mA 59 (by decide +kernel) (by decide +kernel)
theorem k60 : Cond.methodLink "ArithmeticForms" 34 y_Ma_min ∈ wA := mA 60 (by decide +kernel) (by decide +kernel)
theorem k61 : Cond.static y_Ma_min ∈ wA := mA 61 (by decide +kernel) (by decide +kernel)
theorem k62 : Cond.code y_Ma_min c_Ma_min 2 (some .int) ∈ wA := mA 62 (by decide +kernel) (by decide +kernel)
theorem k63 : Cond.methodLink "ArithmeticForms" 40 y_Ma_max ∈ wA := mA 63 (by decide +kernel) (by decide +kernel)
theorem k64 : Cond.static y_Ma_max ∈ wA := mA 64 (by decide +kernel) (by decide +kernel)
theorem k65 : Cond.code y_Ma_max c_Ma_max 2 (some .int) ∈ wA := mA 65 (by decide +kernel) (by decide +kernel)
theorem k66 : Cond.methodLink "ArithmeticForms" 43 y_Ca_init ∈ wA := mA 66 (by decide +kernel) (by decide +kernel)
theorem k67 : Cond.instanceMethod y_Ca_init ∈ wA := mA 67 (by decide +kernel) (by decide +kernel)
theorem k68 : Cond.code y_Ca_init c_Ca_init 2 none ∈ wA := mA 68 (by decide +kernel) (by decide +kernel)
theorem k69 : Cond.methodLink "ArithmeticForms$Calculator" 3 y_Ob_init ∈ wA := mA 69 (by decide +kernel) (by decide +kernel)
theorem k70 : Cond.classLink "ArithmeticForms$Calculator" (15 : Nat) "ArithmeticForms$Decimal" ∈ wA := mA 70 (by decide +kernel) (by decide +kernel)
theorem k71t : Cond.methodLinkNest "ArithmeticForms$Calculator" 20 y_De_init "ArithmeticForms" ∈ lw_tbl := List.mem_append_right _ (List.mem_of_getElem? (i := 71) (by decide +kernel))
theorem k72 : Cond.methodLink "ArithmeticForms$Calculator" 29 y_De_load ∈ wA := mA 72 (by decide +kernel) (by decide +kernel)
theorem k73 : Cond.instanceMethod y_De_load ∈ wA := mA 73 (by decide +kernel) (by decide +kernel)
theorem k74 : Cond.selects "ArithmeticForms$Decimal" y_De_load y_De_load ∈ wA := mA 74 (by decide +kernel) (by decide +kernel)
theorem k75 : Cond.code y_De_load c_De_load 8 none ∈ wA := mA 75 (by decide +kernel) (by decide +kernel)
theorem k76 : Cond.methodLink "ArithmeticForms$Decimal" 34 y_De_clear ∈ wA := mA 76 (by decide +kernel) (by decide +kernel)
theorem k77 : Cond.instanceMethod y_De_clear ∈ wA := mA 77 (by decide +kernel) (by decide +kernel)
theorem k78 : Cond.selects "ArithmeticForms$Decimal" y_De_clear y_De_clear ∈ wA := mA 78 (by decide +kernel) (by decide +kernel)
theorem k79 : Cond.code y_De_clear c_De_clear 1 none ∈ wA := mA 79 (by decide +kernel) (by decide +kernel)
theorem k80 : Cond.methodLink "ArithmeticForms$Decimal" 28 y_Ar_fill ∈ wA := mA 80 (by decide +kernel) (by decide +kernel)
theorem k81 : Cond.static y_Ar_fill ∈ wA := mA 81 (by decide +kernel) (by decide +kernel)
theorem k82 : Cond.code y_Ar_fill c_Ar_fill 5 none ∈ wA := mA 82 (by decide +kernel) (by decide +kernel)
theorem k83t : Cond.methodLinkNest "ArithmeticForms$Decimal" 43 y_AF_ten "ArithmeticForms" ∈ lw_tbl := List.mem_append_right _ (List.mem_of_getElem? (i := 83) (by decide +kernel))
theorem k84 : Cond.static y_AF_ten ∈ wA := mA 84 (by decide +kernel) (by decide +kernel)
theorem k85 : Cond.code y_AF_ten c_AF_ten 1 (some .long) ∈ wA := mA 85 (by decide +kernel) (by decide +kernel)
theorem k86 : Cond.fieldLink "ArithmeticForms" (180 : Nat) "ArithmeticForms" "TENS" "[J" ∈ wA := mA 86 (by decide +kernel) (by decide +kernel)
theorem k87t : Cond.laysStatic "ArithmeticForms" "TENS" "[J" ∈ lw_tbl := List.mem_append_right _ (List.mem_of_getElem? (i := 87) (by decide +kernel))
theorem k88 : Cond.constantLong "ArithmeticForms$Decimal" (47 : Nat) (10 : Int64) ∈ wA := mA 88 (by decide +kernel) (by decide +kernel)
theorem k89 : Cond.methodLink "ArithmeticForms$Decimal" 49 y_Ma_abs ∈ wA := mA 89 (by decide +kernel) (by decide +kernel)
theorem k90 : Cond.static y_Ma_abs ∈ wA := mA 90 (by decide +kernel) (by decide +kernel)
theorem k91 : Cond.code y_Ma_abs c_Ma_abs 2 (some .long) ∈ wA := mA 91 (by decide +kernel) (by decide +kernel)
theorem k92 : Cond.methodLink "ArithmeticForms$Decimal" 55 y_De_cut ∈ wA := mA 92 (by decide +kernel) (by decide +kernel)
theorem k93 : Cond.instanceMethod y_De_cut ∈ wA := mA 93 (by decide +kernel) (by decide +kernel)
theorem k94 : Cond.selects "ArithmeticForms$Decimal" y_De_cut y_De_cut ∈ wA := mA 94 (by decide +kernel) (by decide +kernel)
theorem k95 : Cond.code y_De_cut c_De_cut 4 none ∈ wA := mA 95 (by decide +kernel) (by decide +kernel)
theorem k96 : Cond.methodLink "ArithmeticForms$Decimal" 59 y_Ma_min ∈ wA := mA 96 (by decide +kernel) (by decide +kernel)
theorem k97 : Cond.methodLink "ArithmeticForms$Decimal" 63 y_Ma_max ∈ wA := mA 97 (by decide +kernel) (by decide +kernel)
theorem k98 : Cond.fieldLink "ArithmeticForms$Calculator" (25 : Nat) "ArithmeticForms$Calculator" "precision" "I" ∈ wA := mA 98 (by decide +kernel) (by decide +kernel)
theorem k99 : Cond.fieldLink "ArithmeticForms" (58 : Nat) "ArithmeticForms$Calculator" "precision" "I" ∈ wA := mA 99 (by decide +kernel) (by decide +kernel)
theorem k100 : Cond.fieldLink "ArithmeticForms$Calculator" (11 : Nat) "ArithmeticForms$Calculator" "wide" "[J" ∈ wA := mA 100 (by decide +kernel) (by decide +kernel)
theorem k101 : Cond.fieldLink "ArithmeticForms$Calculator" (17 : Nat) "ArithmeticForms$Calculator" "left" "[J" ∈ wA := mA 101 (by decide +kernel) (by decide +kernel)
theorem k102 : Cond.fieldLink "ArithmeticForms$Calculator" (21 : Nat) "ArithmeticForms$Calculator" "one" "LArithmeticForms$Decimal;" ∈ wA := mA 102 (by decide +kernel) (by decide +kernel)
theorem k111t : Cond.superclass "ArithmeticForms$Calculator" "java/lang/Object" ∈ lw_tbl := List.mem_append_right _ (List.mem_of_getElem? (i := 111) (by decide +kernel))
theorem k112 : Cond.fieldLink "ArithmeticForms" (46 : Nat) "ArithmeticForms" "calculator" "LArithmeticForms$Calculator;" ∈ wA := mA 112 (by decide +kernel) (by decide +kernel)
theorem k113 : Cond.fieldLink "ArithmeticForms" (11 : Nat) "ArithmeticForms" "nodes" "[LArithmeticForms$Decimal;" ∈ wA := mA 113 (by decide +kernel) (by decide +kernel)
theorem k114 : Cond.fieldLink "ArithmeticForms" (50 : Nat) "ArithmeticForms" "nodeCount" "I" ∈ wA := mA 114 (by decide +kernel) (by decide +kernel)
theorem k115 : Cond.fieldLink "ArithmeticForms" (17 : Nat) "ArithmeticForms" "receivers" "[LArithmeticForms$Receiver;" ∈ wA := mA 115 (by decide +kernel) (by decide +kernel)
theorem k116 : Cond.fieldLink "ArithmeticForms" (76 : Nat) "ArithmeticForms" "receiverCount" "I" ∈ wA := mA 116 (by decide +kernel) (by decide +kernel)
theorem k117 : Cond.fieldLink "ArithmeticForms" (82 : Nat) "ArithmeticForms" "latestRaised" "I" ∈ wA := mA 117 (by decide +kernel) (by decide +kernel)
theorem k118 : Cond.fieldLink "ArithmeticForms" (22 : Nat) "ArithmeticForms" "before" "LArithmeticForms$Decimal;" ∈ wA := mA 118 (by decide +kernel) (by decide +kernel)
theorem k119 : Cond.fieldLink "ArithmeticForms" (26 : Nat) "ArithmeticForms" "given" "LArithmeticForms$Decimal;" ∈ wA := mA 119 (by decide +kernel) (by decide +kernel)
theorem k120 : Cond.fieldLink "ArithmeticForms" (29 : Nat) "ArithmeticForms" "over" "LArithmeticForms$Decimal;" ∈ wA := mA 120 (by decide +kernel) (by decide +kernel)
theorem k139t : Cond.superclass "ArithmeticForms" "java/lang/Object" ∈ lw_tbl := List.mem_append_right _ (List.mem_of_getElem? (i := 139) (by decide +kernel))
theorem k140 : Cond.methodLink "ArithmeticFormsLaw" 29 y_AF_value ∈ wA := mA 140 (by decide +kernel) (by decide +kernel)
theorem k141 : Cond.instanceMethod y_AF_value ∈ wA := mA 141 (by decide +kernel) (by decide +kernel)
theorem k142 : Cond.selects "ArithmeticForms" y_AF_value y_AF_value ∈ wA := mA 142 (by decide +kernel) (by decide +kernel)
theorem k143 : Cond.code y_AF_value c_AF_value 5 (some .int) ∈ wA := mA 143 (by decide +kernel) (by decide +kernel)
theorem k144 : Cond.methodLink "ArithmeticForms" 54 y_De_load ∈ wA := mA 144 (by decide +kernel) (by decide +kernel)
theorem k145 : Cond.methodLink "ArithmeticForms" 61 y_De_cut ∈ wA := mA 145 (by decide +kernel) (by decide +kernel)
theorem k146 : Cond.methodLink "ArithmeticForms" 64 y_AF_keepNode ∈ wA := mA 146 (by decide +kernel) (by decide +kernel)
theorem k148 : Cond.instanceMethod y_AF_keepNode ∈ wA := mA 148 (by decide +kernel) (by decide +kernel)
theorem k149 : Cond.code y_AF_keepNode c_AF_keepNode 2 (some .int) ∈ wA := mA 149 (by decide +kernel) (by decide +kernel)
theorem k150 : Cond.methodLink "ArithmeticFormsLaw" 34 y_AF_node ∈ wA := mA 150 (by decide +kernel) (by decide +kernel)
theorem k151 : Cond.instanceMethod y_AF_node ∈ wA := mA 151 (by decide +kernel) (by decide +kernel)
theorem k152 : Cond.selects "ArithmeticForms" y_AF_node y_AF_node ∈ wA := mA 152 (by decide +kernel) (by decide +kernel)
theorem k153 : Cond.code y_AF_node c_AF_node 7 (some .int) ∈ wA := mA 153 (by decide +kernel) (by decide +kernel)
theorem k154 : Cond.methodLink "ArithmeticForms" 68 y_AF_nodeAt ∈ wA := mA 154 (by decide +kernel) (by decide +kernel)
theorem k156 : Cond.instanceMethod y_AF_nodeAt ∈ wA := mA 156 (by decide +kernel) (by decide +kernel)
theorem k157 : Cond.code y_AF_nodeAt c_AF_nodeAt 2 (some (.object "ArithmeticForms$Decimal")) ∈ wA := mA 157 (by decide +kernel) (by decide +kernel)
theorem k158 : Cond.methodLink "ArithmeticForms" 72 y_AF_operate ∈ wA := mA 158 (by decide +kernel) (by decide +kernel)
theorem k160 : Cond.instanceMethod y_AF_operate ∈ wA := mA 160 (by decide +kernel) (by decide +kernel)
theorem k161 : Cond.code y_AF_operate c_AF_operate 5 none ∈ wA := mA 161 (by decide +kernel) (by decide +kernel)
theorem k162 : Cond.methodLink "ArithmeticForms" 134 y_Ca_power ∈ wA := mA 162 (by decide +kernel) (by decide +kernel)
theorem k163 : Cond.instanceMethod y_Ca_power ∈ wA := mA 163 (by decide +kernel) (by decide +kernel)
theorem k164 : Cond.selects "ArithmeticForms$Calculator" y_Ca_power y_Ca_power ∈ wA := mA 164 (by decide +kernel) (by decide +kernel)
theorem k165 : Cond.code y_Ca_power c_Ca_power 6 none ∈ wA := mA 165 (by decide +kernel) (by decide +kernel)
theorem k166 : Cond.methodLink "ArithmeticForms$Calculator" 33 y_Ca_passOn ∈ wA := mA 166 (by decide +kernel) (by decide +kernel)
theorem k167 : Cond.static y_Ca_passOn ∈ wA := mA 167 (by decide +kernel) (by decide +kernel)
theorem k168 : Cond.code y_Ca_passOn c_Ca_passOn 4 (some .boolean) ∈ wA := mA 168 (by decide +kernel) (by decide +kernel)
theorem k169 : Cond.methodLink "ArithmeticForms$Calculator" 67 y_De_raise ∈ wA := mA 169 (by decide +kernel) (by decide +kernel)
theorem k170 : Cond.instanceMethod y_De_raise ∈ wA := mA 170 (by decide +kernel) (by decide +kernel)
theorem k171 : Cond.selects "ArithmeticForms$Decimal" y_De_raise y_De_raise ∈ wA := mA 171 (by decide +kernel) (by decide +kernel)
theorem k172 : Cond.code y_De_raise c_De_raise 2 none ∈ wA := mA 172 (by decide +kernel) (by decide +kernel)
theorem k173 : Cond.methodLink "ArithmeticForms$Calculator" 81 y_Ca_powerOf ∈ wA := mA 173 (by decide +kernel) (by decide +kernel)
theorem k174 : Cond.static y_Ca_powerOf ∈ wA := mA 174 (by decide +kernel) (by decide +kernel)
theorem k175 : Cond.code y_Ca_powerOf c_Ca_powerOf 1 (some .int) ∈ wA := mA 175 (by decide +kernel) (by decide +kernel)
theorem k176 : Cond.methodLink "ArithmeticForms$Calculator" 101 y_De_exponent ∈ wA := mA 176 (by decide +kernel) (by decide +kernel)
theorem k177 : Cond.instanceMethod y_De_exponent ∈ wA := mA 177 (by decide +kernel) (by decide +kernel)
theorem k178 : Cond.selects "ArithmeticForms$Decimal" y_De_exponent y_De_exponent ∈ wA := mA 178 (by decide +kernel) (by decide +kernel)
theorem k179 : Cond.code y_De_exponent c_De_exponent 1 (some .int) ∈ wA := mA 179 (by decide +kernel) (by decide +kernel)
theorem k180 : Cond.methodLink "ArithmeticForms$Calculator" 105 y_De_lowestWhole ∈ wA := mA 180 (by decide +kernel) (by decide +kernel)
theorem k181 : Cond.instanceMethod y_De_lowestWhole ∈ wA := mA 181 (by decide +kernel) (by decide +kernel)
theorem k182 : Cond.selects "ArithmeticForms$Decimal" y_De_lowestWhole y_De_lowestWhole ∈ wA := mA 182 (by decide +kernel) (by decide +kernel)
theorem k183 : Cond.code y_De_lowestWhole c_De_lowestWhole 6 (some .long) ∈ wA := mA 183 (by decide +kernel) (by decide +kernel)
theorem k184 : Cond.methodLink "ArithmeticForms$Decimal" 66 y_De_wholeDigits ∈ wA := mA 184 (by decide +kernel) (by decide +kernel)
theorem k185 : Cond.instanceMethod y_De_wholeDigits ∈ wA := mA 185 (by decide +kernel) (by decide +kernel)
theorem k186 : Cond.selects "ArithmeticForms$Decimal" y_De_wholeDigits y_De_wholeDigits ∈ wA := mA 186 (by decide +kernel) (by decide +kernel)
theorem k187 : Cond.code y_De_wholeDigits c_De_wholeDigits 2 (some .int) ∈ wA := mA 187 (by decide +kernel) (by decide +kernel)
theorem k188 : Cond.methodLink "ArithmeticForms$Decimal" 70 y_De_digit ∈ wA := mA 188 (by decide +kernel) (by decide +kernel)
theorem k189 : Cond.instanceMethod y_De_digit ∈ wA := mA 189 (by decide +kernel) (by decide +kernel)
theorem k190 : Cond.selects "ArithmeticForms$Decimal" y_De_digit y_De_digit ∈ wA := mA 190 (by decide +kernel) (by decide +kernel)
theorem k191 : Cond.code y_De_digit c_De_digit 2 (some .int) ∈ wA := mA 191 (by decide +kernel) (by decide +kernel)
theorem k192 : Cond.methodLink "ArithmeticForms$Calculator" 84 y_De_copy ∈ wA := mA 192 (by decide +kernel) (by decide +kernel)
theorem k193 : Cond.instanceMethod y_De_copy ∈ wA := mA 193 (by decide +kernel) (by decide +kernel)
theorem k194 : Cond.selects "ArithmeticForms$Decimal" y_De_copy y_De_copy ∈ wA := mA 194 (by decide +kernel) (by decide +kernel)
theorem k195 : Cond.code y_De_copy c_De_copy 2 none ∈ wA := mA 195 (by decide +kernel) (by decide +kernel)
theorem k196 : Cond.methodLink "ArithmeticForms$Decimal" 37 y_Sy_arraycopy ∈ wA := mA 196 (by decide +kernel) (by decide +kernel)
theorem k197 : Cond.static y_Sy_arraycopy ∈ wA := mA 197 (by decide +kernel) (by decide +kernel)
theorem k198t : Cond.native y_Sy_arraycopy ∈ lw_tbl := List.mem_append_right _ (List.mem_of_getElem? (i := 198) (by decide +kernel))
theorem k199 : Cond.methodLink "ArithmeticForms$Calculator" 88 y_Ma_abs2 ∈ wA := mA 199 (by decide +kernel) (by decide +kernel)
theorem k200 : Cond.static y_Ma_abs2 ∈ wA := mA 200 (by decide +kernel) (by decide +kernel)
theorem k201 : Cond.code y_Ma_abs2 c_Ma_abs2 1 (some .int) ∈ wA := mA 201 (by decide +kernel) (by decide +kernel)
theorem k202 : Cond.methodLink "ArithmeticForms$Calculator" 94 y_Ca_multiply ∈ wA := mA 202 (by decide +kernel) (by decide +kernel)
theorem k203 : Cond.instanceMethod y_Ca_multiply ∈ wA := mA 203 (by decide +kernel) (by decide +kernel)
theorem k204 : Cond.selects "ArithmeticForms$Calculator" y_Ca_multiply y_Ca_multiply ∈ wA := mA 204 (by decide +kernel) (by decide +kernel)
theorem k205 : Cond.code y_Ca_multiply c_Ca_multiply 6 none ∈ wA := mA 205 (by decide +kernel) (by decide +kernel)
theorem k206 : Cond.methodLink "ArithmeticForms$Calculator" 44 y_Ar_fill ∈ wA := mA 206 (by decide +kernel) (by decide +kernel)
theorem k207 : Cond.methodLink "ArithmeticForms$Calculator" 54 y_Ca_carry ∈ wA := mA 207 (by decide +kernel) (by decide +kernel)
theorem k209 : Cond.instanceMethod y_Ca_carry ∈ wA := mA 209 (by decide +kernel) (by decide +kernel)
theorem k210 : Cond.code y_Ca_carry c_Ca_carry 4 none ∈ wA := mA 210 (by decide +kernel) (by decide +kernel)
theorem k211 : Cond.constantLong "ArithmeticForms$Calculator" (115 : Nat) (100000000 : Int64) ∈ wA := mA 211 (by decide +kernel) (by decide +kernel)
theorem k212 : Cond.methodLink "ArithmeticForms$Calculator" 117 y_Ma_floorDiv ∈ wA := mA 212 (by decide +kernel) (by decide +kernel)
theorem k213 : Cond.static y_Ma_floorDiv ∈ wA := mA 213 (by decide +kernel) (by decide +kernel)
theorem k214 : Cond.code y_Ma_floorDiv c_Ma_floorDiv 6 (some .long) ∈ wA := mA 214 (by decide +kernel) (by decide +kernel)
theorem k215 : Cond.methodLink "ArithmeticForms$Calculator" 57 y_Ca_settle ∈ wA := mA 215 (by decide +kernel) (by decide +kernel)
theorem k217 : Cond.instanceMethod y_Ca_settle ∈ wA := mA 217 (by decide +kernel) (by decide +kernel)
theorem k218 : Cond.code y_Ca_settle c_Ca_settle 12 none ∈ wA := mA 218 (by decide +kernel) (by decide +kernel)
theorem k219 : Cond.methodLink "ArithmeticForms$Calculator" 132 y_De_clear ∈ wA := mA 219 (by decide +kernel) (by decide +kernel)
theorem k220t : Cond.methodLinkNest "ArithmeticForms$Calculator" 112 y_AF_ten "ArithmeticForms" ∈ lw_tbl := List.mem_append_right _ (List.mem_of_getElem? (i := 220) (by decide +kernel))
theorem k221 : Cond.methodLink "ArithmeticForms$Calculator" 135 y_Ca_wideAt ∈ wA := mA 221 (by decide +kernel) (by decide +kernel)
theorem k223 : Cond.instanceMethod y_Ca_wideAt ∈ wA := mA 223 (by decide +kernel) (by decide +kernel)
theorem k224 : Cond.code y_Ca_wideAt c_Ca_wideAt 2 (some .long) ∈ wA := mA 224 (by decide +kernel) (by decide +kernel)
theorem k225 : Cond.methodLink "ArithmeticForms$Calculator" 138 y_De_cut ∈ wA := mA 225 (by decide +kernel) (by decide +kernel)
theorem k226 : Cond.methodLink "ArithmeticForms$Calculator" 98 y_Ca_divide ∈ wA := mA 226 (by decide +kernel) (by decide +kernel)
theorem k227 : Cond.instanceMethod y_Ca_divide ∈ wA := mA 227 (by decide +kernel) (by decide +kernel)
theorem k228 : Cond.selects "ArithmeticForms$Calculator" y_Ca_divide y_Ca_divide ∈ wA := mA 228 (by decide +kernel) (by decide +kernel)
theorem k229 : Cond.code y_Ca_divide c_Ca_divide 5 none ∈ wA := mA 229 (by decide +kernel) (by decide +kernel)
theorem k230 : Cond.methodLink "ArithmeticForms$Calculator" 71 y_Sy_arraycopy ∈ wA := mA 230 (by decide +kernel) (by decide +kernel)
theorem k231 : Cond.methodLink "ArithmeticForms$Calculator" 77 y_Ca_takeOut ∈ wA := mA 231 (by decide +kernel) (by decide +kernel)
theorem k233 : Cond.instanceMethod y_Ca_takeOut ∈ wA := mA 233 (by decide +kernel) (by decide +kernel)
theorem k234 : Cond.code y_Ca_takeOut c_Ca_takeOut 9 (some .long) ∈ wA := mA 234 (by decide +kernel) (by decide +kernel)
theorem k235 : Cond.methodLink "ArithmeticForms$Calculator" 121 y_Ma_max2 ∈ wA := mA 235 (by decide +kernel) (by decide +kernel)
theorem k236 : Cond.static y_Ma_max2 ∈ wA := mA 236 (by decide +kernel) (by decide +kernel)
theorem k237 : Cond.code y_Ma_max2 c_Ma_max2 4 (some .long) ∈ wA := mA 237 (by decide +kernel) (by decide +kernel)
theorem k238 : Cond.methodLink "ArithmeticForms$Calculator" 124 y_Ca_reaches ∈ wA := mA 238 (by decide +kernel) (by decide +kernel)
theorem k240 : Cond.instanceMethod y_Ca_reaches ∈ wA := mA 240 (by decide +kernel) (by decide +kernel)
theorem k241 : Cond.code y_Ca_reaches c_Ca_reaches 3 (some .boolean) ∈ wA := mA 241 (by decide +kernel) (by decide +kernel)
theorem k242 : Cond.methodLink "ArithmeticForms$Calculator" 128 y_Ca_reduce ∈ wA := mA 242 (by decide +kernel) (by decide +kernel)
theorem k244 : Cond.instanceMethod y_Ca_reduce ∈ wA := mA 244 (by decide +kernel) (by decide +kernel)
theorem k245 : Cond.code y_Ca_reduce c_Ca_reduce 9 none ∈ wA := mA 245 (by decide +kernel) (by decide +kernel)
theorem k246 : Cond.methodLink "ArithmeticForms" 138 y_De_copy ∈ wA := mA 246 (by decide +kernel) (by decide +kernel)
theorem k247 : Cond.methodLink "ArithmeticForms" 142 y_AF_calculate ∈ wA := mA 247 (by decide +kernel) (by decide +kernel)
theorem k249 : Cond.instanceMethod y_AF_calculate ∈ wA := mA 249 (by decide +kernel) (by decide +kernel)
theorem k250 : Cond.code y_AF_calculate c_AF_calculate 5 none ∈ wA := mA 250 (by decide +kernel) (by decide +kernel)
theorem k251 : Cond.methodLink "ArithmeticForms" 145 y_Ca_add ∈ wA := mA 251 (by decide +kernel) (by decide +kernel)
theorem k252 : Cond.instanceMethod y_Ca_add ∈ wA := mA 252 (by decide +kernel) (by decide +kernel)
theorem k253 : Cond.selects "ArithmeticForms$Calculator" y_Ca_add y_Ca_add ∈ wA := mA 253 (by decide +kernel) (by decide +kernel)
theorem k254 : Cond.code y_Ca_add c_Ca_add 7 none ∈ wA := mA 254 (by decide +kernel) (by decide +kernel)
theorem k255 : Cond.methodLink "ArithmeticForms$Calculator" 40 y_De_compareSize ∈ wA := mA 255 (by decide +kernel) (by decide +kernel)
theorem k256 : Cond.instanceMethod y_De_compareSize ∈ wA := mA 256 (by decide +kernel) (by decide +kernel)
theorem k257 : Cond.selects "ArithmeticForms$Decimal" y_De_compareSize y_De_compareSize ∈ wA := mA 257 (by decide +kernel) (by decide +kernel)
theorem k258 : Cond.code y_De_compareSize c_De_compareSize 3 (some .int) ∈ wA := mA 258 (by decide +kernel) (by decide +kernel)
theorem k259 : Cond.methodLink "ArithmeticForms$Decimal" 73 y_In_compare ∈ wA := mA 259 (by decide +kernel) (by decide +kernel)
theorem k260 : Cond.static y_In_compare ∈ wA := mA 260 (by decide +kernel) (by decide +kernel)
theorem k261 : Cond.code y_In_compare c_In_compare 2 (some .int) ∈ wA := mA 261 (by decide +kernel) (by decide +kernel)
theorem k262 : Cond.methodLink "ArithmeticForms$Decimal" 78 y_Lo_compare ∈ wA := mA 262 (by decide +kernel) (by decide +kernel)
theorem k263 : Cond.static y_Lo_compare ∈ wA := mA 263 (by decide +kernel) (by decide +kernel)
theorem k264 : Cond.code y_Lo_compare c_Lo_compare 4 (some .int) ∈ wA := mA 264 (by decide +kernel) (by decide +kernel)
theorem k265 : Cond.methodLink "ArithmeticForms$Calculator" 50 y_Ca_place ∈ wA := mA 265 (by decide +kernel) (by decide +kernel)
theorem k267 : Cond.instanceMethod y_Ca_place ∈ wA := mA 267 (by decide +kernel) (by decide +kernel)
theorem k268 : Cond.code y_Ca_place c_Ca_place 10 none ∈ wA := mA 268 (by decide +kernel) (by decide +kernel)
theorem k269 : Cond.methodLink "ArithmeticForms" 149 y_Ca_multiply ∈ wA := mA 269 (by decide +kernel) (by decide +kernel)
theorem k270 : Cond.methodLink "ArithmeticForms" 152 y_Ca_divide ∈ wA := mA 270 (by decide +kernel) (by decide +kernel)
theorem k271 : Cond.methodLink "ArithmeticFormsLaw" 39 y_AF_receiver ∈ wA := mA 271 (by decide +kernel) (by decide +kernel)
theorem k272 : Cond.instanceMethod y_AF_receiver ∈ wA := mA 272 (by decide +kernel) (by decide +kernel)
theorem k273 : Cond.selects "ArithmeticForms" y_AF_receiver y_AF_receiver ∈ wA := mA 273 (by decide +kernel) (by decide +kernel)
theorem k274 : Cond.code y_AF_receiver c_AF_receiver 4 (some .int) ∈ wA := mA 274 (by decide +kernel) (by decide +kernel)
theorem k275 : Cond.instantiable "ArithmeticForms$Receiver" (6 : Nat) ∈ wA := mA 275 (by decide +kernel) (by decide +kernel)
theorem k276 : Cond.methodLink "ArithmeticForms" 79 y_Re_init ∈ wA := mA 276 (by decide +kernel) (by decide +kernel)
theorem k277 : Cond.instanceMethod y_Re_init ∈ wA := mA 277 (by decide +kernel) (by decide +kernel)
theorem k278 : Cond.code y_Re_init c_Re_init 4 none ∈ wA := mA 278 (by decide +kernel) (by decide +kernel)
theorem k279 : Cond.methodLink "ArithmeticForms$Receiver" 1 y_Ob_init ∈ wA := mA 279 (by decide +kernel) (by decide +kernel)
theorem k280 : Cond.fieldLink "ArithmeticForms$Receiver" (13 : Nat) "ArithmeticForms$Receiver" "scale" "I" ∈ wA := mA 280 (by decide +kernel) (by decide +kernel)
theorem k281 : Cond.fieldLink "ArithmeticForms" (155 : Nat) "ArithmeticForms$Receiver" "scale" "I" ∈ wA := mA 281 (by decide +kernel) (by decide +kernel)
theorem k282 : Cond.fieldLink "ArithmeticForms$Receiver" (7 : Nat) "ArithmeticForms$Receiver" "digits" "I" ∈ wA := mA 282 (by decide +kernel) (by decide +kernel)
theorem k283 : Cond.fieldLink "ArithmeticForms$Receiver" (16 : Nat) "ArithmeticForms$Receiver" "rounding" "I" ∈ wA := mA 283 (by decide +kernel) (by decide +kernel)
theorem k284 : Cond.fieldLink "ArithmeticForms" (93 : Nat) "ArithmeticForms$Receiver" "held" "J" ∈ wA := mA 284 (by decide +kernel) (by decide +kernel)
theorem k285 : Cond.fieldLink "ArithmeticForms" (105 : Nat) "ArithmeticForms$Receiver" "remainder" "J" ∈ wA := mA 285 (by decide +kernel) (by decide +kernel)
theorem k286 : Cond.fieldLink "ArithmeticForms" (101 : Nat) "ArithmeticForms$Receiver" "failed" "Z" ∈ wA := mA 286 (by decide +kernel) (by decide +kernel)
theorem k299t : Cond.superclass "ArithmeticForms$Receiver" "java/lang/Object" ∈ lw_tbl := List.mem_append_right _ (List.mem_of_getElem? (i := 299) (by decide +kernel))
theorem k300 : Cond.methodLink "ArithmeticFormsLaw" 43 y_AF_run ∈ wA := mA 300 (by decide +kernel) (by decide +kernel)
theorem k301 : Cond.instanceMethod y_AF_run ∈ wA := mA 301 (by decide +kernel) (by decide +kernel)
theorem k302 : Cond.selects "ArithmeticForms" y_AF_run y_AF_run ∈ wA := mA 302 (by decide +kernel) (by decide +kernel)
theorem k303 : Cond.code y_AF_run c_AF_run 8 (some .int) ∈ wA := mA 303 (by decide +kernel) (by decide +kernel)
theorem k304 : Cond.methodLink "ArithmeticForms" 85 y_AF_receiverAt ∈ wA := mA 304 (by decide +kernel) (by decide +kernel)
theorem k306 : Cond.instanceMethod y_AF_receiverAt ∈ wA := mA 306 (by decide +kernel) (by decide +kernel)
theorem k307 : Cond.code y_AF_receiverAt c_AF_receiverAt 2 (some (.object "ArithmeticForms$Receiver")) ∈ wA := mA 307 (by decide +kernel) (by decide +kernel)
theorem k308 : Cond.methodLink "ArithmeticForms" 89 y_AF_give ∈ wA := mA 308 (by decide +kernel) (by decide +kernel)
theorem k310 : Cond.instanceMethod y_AF_give ∈ wA := mA 310 (by decide +kernel) (by decide +kernel)
theorem k311 : Cond.code y_AF_give c_AF_give 7 (some .boolean) ∈ wA := mA 311 (by decide +kernel) (by decide +kernel)
theorem k312 : Cond.methodLink "ArithmeticForms" 158 y_Re_refuses ∈ wA := mA 312 (by decide +kernel) (by decide +kernel)
theorem k313 : Cond.instanceMethod y_Re_refuses ∈ wA := mA 313 (by decide +kernel) (by decide +kernel)
theorem k314 : Cond.selects "ArithmeticForms$Receiver" y_Re_refuses y_Re_refuses ∈ wA := mA 314 (by decide +kernel) (by decide +kernel)
theorem k315 : Cond.code y_Re_refuses c_Re_refuses 2 (some .boolean) ∈ wA := mA 315 (by decide +kernel) (by decide +kernel)
theorem k316 : Cond.methodLink "ArithmeticForms$Receiver" 19 y_Re_isExact ∈ wA := mA 316 (by decide +kernel) (by decide +kernel)
theorem k318 : Cond.instanceMethod y_Re_isExact ∈ wA := mA 318 (by decide +kernel) (by decide +kernel)
theorem k319 : Cond.code y_Re_isExact c_Re_isExact 2 (some .boolean) ∈ wA := mA 319 (by decide +kernel) (by decide +kernel)
theorem k320 : Cond.methodLink "ArithmeticForms$Receiver" 23 y_De_wholeDigits ∈ wA := mA 320 (by decide +kernel) (by decide +kernel)
theorem k321 : Cond.methodLink "ArithmeticForms" 162 y_Re_fits ∈ wA := mA 321 (by decide +kernel) (by decide +kernel)
theorem k322 : Cond.instanceMethod y_Re_fits ∈ wA := mA 322 (by decide +kernel) (by decide +kernel)
theorem k323 : Cond.selects "ArithmeticForms$Receiver" y_Re_fits y_Re_fits ∈ wA := mA 323 (by decide +kernel) (by decide +kernel)
theorem k324 : Cond.code y_Re_fits c_Re_fits 2 (some .boolean) ∈ wA := mA 324 (by decide +kernel) (by decide +kernel)
theorem k325 : Cond.methodLink "ArithmeticForms$Receiver" 29 y_Re_roundedSize ∈ wA := mA 325 (by decide +kernel) (by decide +kernel)
theorem k326 : Cond.instanceMethod y_Re_roundedSize ∈ wA := mA 326 (by decide +kernel) (by decide +kernel)
theorem k327 : Cond.selects "ArithmeticForms$Receiver" y_Re_roundedSize y_Re_roundedSize ∈ wA := mA 327 (by decide +kernel) (by decide +kernel)
theorem k328 : Cond.code y_Re_roundedSize c_Re_roundedSize 2 (some .long) ∈ wA := mA 328 (by decide +kernel) (by decide +kernel)
theorem k329 : Cond.methodLink "ArithmeticForms$Receiver" 39 y_De_lowestWhole ∈ wA := mA 329 (by decide +kernel) (by decide +kernel)
theorem k330 : Cond.methodLink "ArithmeticForms$Receiver" 42 y_Re_goesUp ∈ wA := mA 330 (by decide +kernel) (by decide +kernel)
theorem k332 : Cond.instanceMethod y_Re_goesUp ∈ wA := mA 332 (by decide +kernel) (by decide +kernel)
theorem k333 : Cond.code y_Re_goesUp c_Re_goesUp 2 (some .boolean) ∈ wA := mA 333 (by decide +kernel) (by decide +kernel)
theorem k334 : Cond.methodLink "ArithmeticForms$Receiver" 48 y_Re_compareToHalf ∈ wA := mA 334 (by decide +kernel) (by decide +kernel)
theorem k336 : Cond.instanceMethod y_Re_compareToHalf ∈ wA := mA 336 (by decide +kernel) (by decide +kernel)
theorem k337 : Cond.code y_Re_compareToHalf c_Re_compareToHalf 4 (some .int) ∈ wA := mA 337 (by decide +kernel) (by decide +kernel)
theorem k338 : Cond.methodLink "ArithmeticForms$Receiver" 58 y_De_digit ∈ wA := mA 338 (by decide +kernel) (by decide +kernel)
theorem k339 : Cond.methodLink "ArithmeticForms$Receiver" 61 y_In_compare ∈ wA := mA 339 (by decide +kernel) (by decide +kernel)
theorem k340 : Cond.methodLink "ArithmeticForms$Receiver" 52 y_Re_endsOdd ∈ wA := mA 340 (by decide +kernel) (by decide +kernel)
theorem k342 : Cond.instanceMethod y_Re_endsOdd ∈ wA := mA 342 (by decide +kernel) (by decide +kernel)
theorem k343 : Cond.code y_Re_endsOdd c_Re_endsOdd 2 (some .boolean) ∈ wA := mA 343 (by decide +kernel) (by decide +kernel)
theorem k344t : Cond.methodLinkNest "ArithmeticForms$Receiver" 33 y_AF_ten "ArithmeticForms" ∈ lw_tbl := List.mem_append_right _ (List.mem_of_getElem? (i := 344) (by decide +kernel))
theorem k345 : Cond.methodLink "ArithmeticForms" 165 y_Re_roundedSize ∈ wA := mA 345 (by decide +kernel) (by decide +kernel)
theorem k346 : Cond.methodLink "ArithmeticForms" 97 y_Re_lowestDigits ∈ wA := mA 346 (by decide +kernel) (by decide +kernel)
theorem k347 : Cond.instanceMethod y_Re_lowestDigits ∈ wA := mA 347 (by decide +kernel) (by decide +kernel)
theorem k348 : Cond.selects "ArithmeticForms$Receiver" y_Re_lowestDigits y_Re_lowestDigits ∈ wA := mA 348 (by decide +kernel) (by decide +kernel)
theorem k349 : Cond.code y_Re_lowestDigits c_Re_lowestDigits 3 (some .long) ∈ wA := mA 349 (by decide +kernel) (by decide +kernel)
theorem k350 : Cond.methodLink "ArithmeticForms" 169 y_AF_restOf ∈ wA := mA 350 (by decide +kernel) (by decide +kernel)
theorem k352 : Cond.instanceMethod y_AF_restOf ∈ wA := mA 352 (by decide +kernel) (by decide +kernel)
theorem k353 : Cond.code y_AF_restOf c_AF_restOf 3 (some .long) ∈ wA := mA 353 (by decide +kernel) (by decide +kernel)
theorem k354 : Cond.methodLink "ArithmeticForms" 173 y_De_wholeDigits ∈ wA := mA 354 (by decide +kernel) (by decide +kernel)
theorem k355 : Cond.methodLink "ArithmeticForms" 176 y_De_lowestWhole ∈ wA := mA 355 (by decide +kernel) (by decide +kernel)
theorem k356 : Cond.methodLink "ArithmeticFormsLaw" 48 y_AF_stored ∈ wA := mA 356 (by decide +kernel) (by decide +kernel)
theorem k357 : Cond.instanceMethod y_AF_stored ∈ wA := mA 357 (by decide +kernel) (by decide +kernel)
theorem k358 : Cond.selects "ArithmeticForms" y_AF_stored y_AF_stored ∈ wA := mA 358 (by decide +kernel) (by decide +kernel)
theorem k359 : Cond.code y_AF_stored c_AF_stored 3 (some .long) ∈ wA := mA 359 (by decide +kernel) (by decide +kernel)
theorem k360 : Cond.methodLink "ArithmeticFormsLaw" 53 y_AF_set ∈ wA := mA 360 (by decide +kernel) (by decide +kernel)
theorem k361 : Cond.instanceMethod y_AF_set ∈ wA := mA 361 (by decide +kernel) (by decide +kernel)
theorem k362 : Cond.selects "ArithmeticForms" y_AF_set y_AF_set ∈ wA := mA 362 (by decide +kernel) (by decide +kernel)
theorem k363 : Cond.code y_AF_set c_AF_set 5 (some .int) ∈ wA := mA 363 (by decide +kernel) (by decide +kernel)
theorem k364 : Cond.methodLink "ArithmeticFormsLaw" 58 y_AF_error ∈ wA := mA 364 (by decide +kernel) (by decide +kernel)
theorem k365 : Cond.instanceMethod y_AF_error ∈ wA := mA 365 (by decide +kernel) (by decide +kernel)
theorem k366 : Cond.selects "ArithmeticForms" y_AF_error y_AF_error ∈ wA := mA 366 (by decide +kernel) (by decide +kernel)
theorem k367 : Cond.code y_AF_error c_AF_error 3 (some .boolean) ∈ wA := mA 367 (by decide +kernel) (by decide +kernel)
theorem k368 : Cond.methodLink "ArithmeticFormsLaw" 63 y_AF_rest ∈ wA := mA 368 (by decide +kernel) (by decide +kernel)
theorem k369 : Cond.instanceMethod y_AF_rest ∈ wA := mA 369 (by decide +kernel) (by decide +kernel)
theorem k370 : Cond.selects "ArithmeticForms" y_AF_rest y_AF_rest ∈ wA := mA 370 (by decide +kernel) (by decide +kernel)
theorem k371 : Cond.code y_AF_rest c_AF_rest 3 (some .long) ∈ wA := mA 371 (by decide +kernel) (by decide +kernel)
theorem k372 : Cond.methodLink "ArithmeticFormsLaw" 75 y_AF_raises ∈ wA := mA 372 (by decide +kernel) (by decide +kernel)
theorem k373 : Cond.instanceMethod y_AF_raises ∈ wA := mA 373 (by decide +kernel) (by decide +kernel)
theorem k374 : Cond.selects "ArithmeticForms" y_AF_raises y_AF_raises ∈ wA := mA 374 (by decide +kernel) (by decide +kernel)
theorem k375 : Cond.code y_AF_raises c_AF_raises 3 (some .int) ∈ wA := mA 375 (by decide +kernel) (by decide +kernel)
theorem k376 : Cond.methodLink "ArithmeticFormsLaw" 80 y_AF_raised ∈ wA := mA 376 (by decide +kernel) (by decide +kernel)
theorem k377 : Cond.instanceMethod y_AF_raised ∈ wA := mA 377 (by decide +kernel) (by decide +kernel)
theorem k378 : Cond.selects "ArithmeticForms" y_AF_raised y_AF_raised ∈ wA := mA 378 (by decide +kernel) (by decide +kernel)
theorem k379 : Cond.code y_AF_raised c_AF_raised 1 (some .int) ∈ wA := mA 379 (by decide +kernel) (by decide +kernel)
theorem k380 : Cond.methodLink "ArithmeticFormsLaw" 15 y_Lw_cell ∈ wA := mA 380 (by decide +kernel) (by decide +kernel)
theorem k381 : Cond.static y_Lw_cell ∈ wA := mA 381 (by decide +kernel) (by decide +kernel)
theorem k382 : Cond.code y_Lw_cell c_Lw_cell 2 (some .int) ∈ wA := mA 382 (by decide +kernel) (by decide +kernel)
theorem k383 : Cond.methodLink "ArithmeticFormsLaw" 67 y_Lw_exact ∈ wA := mA 383 (by decide +kernel) (by decide +kernel)
theorem k384 : Cond.static y_Lw_exact ∈ wA := mA 384 (by decide +kernel) (by decide +kernel)
theorem k385 : Cond.codeWith ({ cls := "ArithmeticFormsLaw", name := "exact", desc := "(LArithmeticForms;II[J)I" } : Jvm.MethodName) method_3_code (5 : Nat) (Option.some Jvm.ClassFile.FieldType.int) [((0 : Nat), (9 : Nat), (12 : Nat), (13 : Nat))] ∈ wA := mA 385 (by decide +kernel) (by decide +kernel)
theorem k386 : Cond.classLink "ArithmeticFormsLaw" (13 : Nat) "java/lang/ArithmeticException" ∈ wA := mA 386 (by decide +kernel) (by decide +kernel)
theorem k387 : Cond.methodLink "ArithmeticFormsLaw" 7 y_AF_exact ∈ wA := mA 387 (by decide +kernel) (by decide +kernel)
theorem k388 : Cond.instanceMethod y_AF_exact ∈ wA := mA 388 (by decide +kernel) (by decide +kernel)
theorem k389 : Cond.selects "ArithmeticForms" y_AF_exact y_AF_exact ∈ wA := mA 389 (by decide +kernel) (by decide +kernel)
theorem k390 : Cond.code y_AF_exact c_AF_exact 5 (some .long) ∈ wA := mA 390 (by decide +kernel) (by decide +kernel)
theorem k391 : Cond.constantLong "ArithmeticForms" (108 : Nat) (-1 : Int64) ∈ wA := mA 391 (by decide +kernel) (by decide +kernel)
theorem k392 : Cond.classLink "ArithmeticForms" (113 : Nat) "java/lang/ArithmeticException" ∈ wA := mA 392 (by decide +kernel) (by decide +kernel)
theorem k393 : Cond.instantiable "java/lang/ArithmeticException" (6 : Nat) ∈ wA := mA 393 (by decide +kernel) (by decide +kernel)
theorem k394t : Cond.castable "java/lang/ArithmeticException" "java/lang/ArithmeticException" ∈ lw_tbl := List.mem_append_right _ (List.mem_of_getElem? (i := 394) (by decide +kernel))
theorem k395t : Cond.declares ({ cls := "java/lang/RuntimeException", name := "<init>", desc := "()V" } : Jvm.MethodName) ∈ lw_tbl := List.mem_append_right _ (List.mem_of_getElem? (i := 395) (by decide +kernel))
theorem k396t : Cond.declares ({ cls := "java/lang/RuntimeException", name := "<init>", desc := "(Ljava/lang/String;)V" } : Jvm.MethodName) ∈ lw_tbl := List.mem_append_right _ (List.mem_of_getElem? (i := 396) (by decide +kernel))
theorem k397t : Cond.declares ({ cls := "java/lang/Exception", name := "<init>", desc := "()V" } : Jvm.MethodName) ∈ lw_tbl := List.mem_append_right _ (List.mem_of_getElem? (i := 397) (by decide +kernel))
theorem k398t : Cond.declares ({ cls := "java/lang/Exception", name := "<init>", desc := "(Ljava/lang/String;)V" } : Jvm.MethodName) ∈ lw_tbl := List.mem_append_right _ (List.mem_of_getElem? (i := 398) (by decide +kernel))
theorem k399t : Cond.declares ({ cls := "java/lang/Throwable", name := "<init>", desc := "()V" } : Jvm.MethodName) ∈ lw_tbl := List.mem_append_right _ (List.mem_of_getElem? (i := 399) (by decide +kernel))
theorem k400t : Cond.declares ({ cls := "java/lang/Throwable", name := "<init>", desc := "(Ljava/lang/String;)V" } : Jvm.MethodName) ∈ lw_tbl := List.mem_append_right _ (List.mem_of_getElem? (i := 400) (by decide +kernel))
theorem k401 : Cond.selects "java/lang/ArithmeticException" y_Th_fillInStackTrace y_Th_fillInStackTrace ∈ wA := mA 401 (by decide +kernel) (by decide +kernel)
theorem k402 : Cond.selects "java/lang/ArithmeticException" y_Th_fillInStackTrace2 y_Th_fillInStackTrace2 ∈ wA := mA 402 (by decide +kernel) (by decide +kernel)
theorem k413 : Cond.fieldLink "java/lang/Throwable" (198 : Nat) "java/lang/Throwable" "backtrace" "Ljava/lang/Object;" ∈ wA := mA 413 (by decide +kernel) (by decide +kernel)
theorem k414t : Cond.superclass "java/lang/Throwable" "java/lang/Object" ∈ lw_tbl := List.mem_append_right _ (List.mem_of_getElem? (i := 414) (by decide +kernel))
theorem k415 : Cond.instanceMethod y_Th_init ∈ wA := mA 415 (by decide +kernel) (by decide +kernel)
theorem k416 : Cond.code y_Th_init c_Th_init 1 none ∈ wA := mA 416 (by decide +kernel) (by decide +kernel)
theorem k417 : Cond.methodLink "java/lang/Throwable" 1 y_Ob_init ∈ wA := mA 417 (by decide +kernel) (by decide +kernel)
theorem k418 : Cond.fieldLink "java/lang/Throwable" (13 : Nat) "java/lang/Throwable" "UNASSIGNED_STACK" "[Ljava/lang/StackTraceElement;" ∈ wA := mA 418 (by decide +kernel) (by decide +kernel)
theorem k419t : Cond.laysStatic "java/lang/Throwable" "UNASSIGNED_STACK" "[Ljava/lang/StackTraceElement;" ∈ lw_tbl := List.mem_append_right _ (List.mem_of_getElem? (i := 419) (by decide +kernel))
theorem k420 : Cond.fieldLink "java/lang/Throwable" (20 : Nat) "java/lang/Throwable" "SUPPRESSED_SENTINEL" "Ljava/util/List;" ∈ wA := mA 420 (by decide +kernel) (by decide +kernel)
theorem k421t : Cond.laysStatic "java/lang/Throwable" "SUPPRESSED_SENTINEL" "Ljava/util/List;" ∈ lw_tbl := List.mem_append_right _ (List.mem_of_getElem? (i := 421) (by decide +kernel))
theorem k422 : Cond.methodLink "java/lang/Throwable" 27 y_Th_fillInStackTrace2 ∈ wA := mA 422 (by decide +kernel) (by decide +kernel)
theorem k423 : Cond.instanceMethod y_Th_fillInStackTrace2 ∈ wA := mA 423 (by decide +kernel) (by decide +kernel)
theorem k424 : Cond.sameMethod "java/lang/Throwable" "java/lang/Throwable" "fillInStackTrace" "()Ljava/lang/Throwable;" ∈ wA := mA 424 (by decide +kernel) (by decide +kernel)
theorem k425 : Cond.codeSync ({ cls := "java/lang/Throwable", name := "fillInStackTrace", desc := "()Ljava/lang/Throwable;" } : Jvm.MethodName) prog_15_method_18_code (1 : Nat) (Option.some (Jvm.ClassFile.FieldType.object "java/lang/Throwable")) ∈ wA := mA 425 (by decide +kernel) (by decide +kernel)
theorem k426 : Cond.methodLink "java/lang/Throwable" 202 y_Th_fillInStackTrace ∈ wA := mA 426 (by decide +kernel) (by decide +kernel)
theorem k428 : Cond.instanceMethod y_Th_fillInStackTrace ∈ wA := mA 428 (by decide +kernel) (by decide +kernel)
theorem k429 : Cond.instantiable "java/lang/Throwable" (6 : Nat) ∈ wA := mA 429 (by decide +kernel) (by decide +kernel)
theorem k430t : Cond.native y_Th_fillInStackTrace ∈ lw_tbl := List.mem_append_right _ (List.mem_of_getElem? (i := 430) (by decide +kernel))
theorem k431t : Cond.stringRef "ArithmeticForms" (115 : Nat) "the node's value is raised" ∈ lw_tbl := List.mem_append_right _ (List.mem_of_getElem? (i := 431) (by decide +kernel))
theorem k432 : Cond.methodLink "ArithmeticForms" 117 y_AE_init ∈ wA := mA 432 (by decide +kernel) (by decide +kernel)
theorem k433 : Cond.instanceMethod y_AE_init ∈ wA := mA 433 (by decide +kernel) (by decide +kernel)
theorem k434 : Cond.code y_AE_init c_AE_init 2 none ∈ wA := mA 434 (by decide +kernel) (by decide +kernel)
theorem k435 : Cond.methodLink "java/lang/ArithmeticException" 7 y_RE_init ∈ wA := mA 435 (by decide +kernel) (by decide +kernel)
theorem k436 : Cond.instanceMethod y_RE_init ∈ wA := mA 436 (by decide +kernel) (by decide +kernel)
theorem k437 : Cond.code y_RE_init c_RE_init 2 none ∈ wA := mA 437 (by decide +kernel) (by decide +kernel)
theorem k438 : Cond.methodLink "java/lang/RuntimeException" 7 y_Ex_init ∈ wA := mA 438 (by decide +kernel) (by decide +kernel)
theorem k439 : Cond.instanceMethod y_Ex_init ∈ wA := mA 439 (by decide +kernel) (by decide +kernel)
theorem k440 : Cond.code y_Ex_init c_Ex_init 2 none ∈ wA := mA 440 (by decide +kernel) (by decide +kernel)
theorem k441 : Cond.methodLink "java/lang/Exception" 7 y_Th_init2 ∈ wA := mA 441 (by decide +kernel) (by decide +kernel)
theorem k442 : Cond.instanceMethod y_Th_init2 ∈ wA := mA 442 (by decide +kernel) (by decide +kernel)
theorem k443 : Cond.code y_Th_init2 c_Th_init2 2 none ∈ wA := mA 443 (by decide +kernel) (by decide +kernel)
theorem k444 : Cond.fieldLink "java/lang/Throwable" (198 : Nat) "java/lang/Throwable" "backtrace" "Ljava/lang/Object;" ∈ wA := mA 444 (by decide +kernel) (by decide +kernel)
theorem k445 : Cond.fieldLink "java/lang/Throwable" (31 : Nat) "java/lang/Throwable" "detailMessage" "Ljava/lang/String;" ∈ wA := mA 445 (by decide +kernel) (by decide +kernel)
theorem k446 : Cond.fieldLink "java/lang/Throwable" (7 : Nat) "java/lang/Throwable" "cause" "Ljava/lang/Throwable;" ∈ wA := mA 446 (by decide +kernel) (by decide +kernel)
theorem k447 : Cond.fieldLink "java/lang/Throwable" (17 : Nat) "java/lang/Throwable" "stackTrace" "[Ljava/lang/StackTraceElement;" ∈ wA := mA 447 (by decide +kernel) (by decide +kernel)
theorem k448 : Cond.fieldLink "java/lang/Throwable" (24 : Nat) "java/lang/Throwable" "suppressedExceptions" "Ljava/util/List;" ∈ wA := mA 448 (by decide +kernel) (by decide +kernel)
theorem k456t : Cond.superclass "java/lang/ArithmeticException" "java/lang/RuntimeException" ∈ lw_tbl := List.mem_append_right _ (List.mem_of_getElem? (i := 456) (by decide +kernel))
theorem k457 : Cond.arrayClass Jvm.ClassFile.FieldType.byte ∈ wA := mA 457 (by decide +kernel) (by decide +kernel)
theorem k458 : Cond.methodLink "ArithmeticForms" 126 y_De_exponent ∈ wA := mA 458 (by decide +kernel) (by decide +kernel)
theorem k459 : Cond.methodLink "ArithmeticForms" 130 y_De_digit ∈ wA := mA 459 (by decide +kernel) (by decide +kernel)
theorem k460 : Cond.classLink "ArithmeticFormsLaw" (24 : Nat) "ArithmeticFormsModel" ∈ wA := mA 460 (by decide +kernel) (by decide +kernel)
theorem k461 : Cond.instantiable "ArithmeticFormsModel" (23 : Nat) ∈ wA := mA 461 (by decide +kernel) (by decide +kernel)
theorem k462 : Cond.methodLink "ArithmeticFormsLaw" 26 y_Mo_init ∈ wA := mA 462 (by decide +kernel) (by decide +kernel)
theorem k463 : Cond.instanceMethod y_Mo_init ∈ wA := mA 463 (by decide +kernel) (by decide +kernel)
theorem k464 : Cond.code y_Mo_init c_Mo_init 2 none ∈ wA := mA 464 (by decide +kernel) (by decide +kernel)
theorem k465 : Cond.methodLink "ArithmeticFormsModel" 1 y_Ob_init ∈ wA := mA 465 (by decide +kernel) (by decide +kernel)
theorem k466 : Cond.fieldLink "ArithmeticFormsModel" (64 : Nat) "ArithmeticFormsModel" "code" "I" ∈ wA := mA 466 (by decide +kernel) (by decide +kernel)
theorem k467 : Cond.fieldLink "ArithmeticFormsModel" (60 : Nat) "ArithmeticFormsModel" "precision" "I" ∈ wA := mA 467 (by decide +kernel) (by decide +kernel)
theorem k468 : Cond.fieldLink "ArithmeticFormsModel" (7 : Nat) "ArithmeticFormsModel" "digits" "[I" ∈ wA := mA 468 (by decide +kernel) (by decide +kernel)
theorem k469 : Cond.fieldLink "ArithmeticFormsModel" (13 : Nat) "ArithmeticFormsModel" "sizes" "[I" ∈ wA := mA 469 (by decide +kernel) (by decide +kernel)
theorem k470 : Cond.fieldLink "ArithmeticFormsModel" (16 : Nat) "ArithmeticFormsModel" "exponents" "[I" ∈ wA := mA 470 (by decide +kernel) (by decide +kernel)
theorem k471 : Cond.fieldLink "ArithmeticFormsModel" (19 : Nat) "ArithmeticFormsModel" "signs" "[I" ∈ wA := mA 471 (by decide +kernel) (by decide +kernel)
theorem k472 : Cond.fieldLink "ArithmeticFormsModel" (22 : Nat) "ArithmeticFormsModel" "rest" "[I" ∈ wA := mA 472 (by decide +kernel) (by decide +kernel)
theorem k473 : Cond.fieldLink "ArithmeticFormsModel" (25 : Nat) "ArithmeticFormsModel" "coefficients" "[I" ∈ wA := mA 473 (by decide +kernel) (by decide +kernel)
theorem k474 : Cond.fieldLink "ArithmeticFormsModel" (28 : Nat) "ArithmeticFormsModel" "nodeSizes" "[I" ∈ wA := mA 474 (by decide +kernel) (by decide +kernel)
theorem k475 : Cond.fieldLink "ArithmeticFormsModel" (31 : Nat) "ArithmeticFormsModel" "nodeExponents" "[I" ∈ wA := mA 475 (by decide +kernel) (by decide +kernel)
theorem k476 : Cond.fieldLink "ArithmeticFormsModel" (34 : Nat) "ArithmeticFormsModel" "nodeSigns" "[I" ∈ wA := mA 476 (by decide +kernel) (by decide +kernel)
theorem k477 : Cond.fieldLink "ArithmeticFormsModel" (37 : Nat) "ArithmeticFormsModel" "raises" "[I" ∈ wA := mA 477 (by decide +kernel) (by decide +kernel)
theorem k478 : Cond.fieldLink "ArithmeticFormsModel" (116 : Nat) "ArithmeticFormsModel" "nodes" "I" ∈ wA := mA 478 (by decide +kernel) (by decide +kernel)
theorem k479 : Cond.fieldLink "ArithmeticFormsModel" (140 : Nat) "ArithmeticFormsModel" "receivers" "I" ∈ wA := mA 479 (by decide +kernel) (by decide +kernel)
theorem k480 : Cond.fieldLink "ArithmeticFormsModel" (169 : Nat) "ArithmeticFormsModel" "latest" "I" ∈ wA := mA 480 (by decide +kernel) (by decide +kernel)
theorem k481 : Cond.fieldLink "ArithmeticFormsModel" (40 : Nat) "ArithmeticFormsModel" "most" "[I" ∈ wA := mA 481 (by decide +kernel) (by decide +kernel)
theorem k482 : Cond.fieldLink "ArithmeticFormsModel" (43 : Nat) "ArithmeticFormsModel" "scales" "[I" ∈ wA := mA 482 (by decide +kernel) (by decide +kernel)
theorem k483 : Cond.fieldLink "ArithmeticFormsModel" (46 : Nat) "ArithmeticFormsModel" "roundings" "[I" ∈ wA := mA 483 (by decide +kernel) (by decide +kernel)
theorem k484 : Cond.fieldLink "ArithmeticFormsModel" (49 : Nat) "ArithmeticFormsModel" "holds" "[J" ∈ wA := mA 484 (by decide +kernel) (by decide +kernel)
theorem k485 : Cond.fieldLink "ArithmeticFormsModel" (53 : Nat) "ArithmeticFormsModel" "rests" "[J" ∈ wA := mA 485 (by decide +kernel) (by decide +kernel)
theorem k486 : Cond.fieldLink "ArithmeticFormsModel" (56 : Nat) "ArithmeticFormsModel" "errors" "[Z" ∈ wA := mA 486 (by decide +kernel) (by decide +kernel)
theorem k487 : Cond.fieldLink "ArithmeticFormsModel" (158 : Nat) "ArithmeticFormsModel" "rounded" "J" ∈ wA := mA 487 (by decide +kernel) (by decide +kernel)
theorem k488 : Cond.fieldLink "ArithmeticFormsModel" (154 : Nat) "ArithmeticFormsModel" "isLong" "Z" ∈ wA := mA 488 (by decide +kernel) (by decide +kernel)
theorem k535t : Cond.superclass "ArithmeticFormsModel" "java/lang/Object" ∈ lw_tbl := List.mem_append_right _ (List.mem_of_getElem? (i := 535) (by decide +kernel))
theorem k536 : Cond.arrayClass Jvm.ClassFile.FieldType.int ∈ wA := mA 536 (by decide +kernel) (by decide +kernel)
theorem k537 : Cond.arrayClass Jvm.ClassFile.FieldType.boolean ∈ wA := mA 537 (by decide +kernel) (by decide +kernel)
theorem k538 : Cond.methodLink "ArithmeticFormsLaw" 71 y_Mo_thrown ∈ wA := mA 538 (by decide +kernel) (by decide +kernel)
theorem k539 : Cond.instanceMethod y_Mo_thrown ∈ wA := mA 539 (by decide +kernel) (by decide +kernel)
theorem k540 : Cond.selects "ArithmeticFormsModel" y_Mo_thrown y_Mo_thrown ∈ wA := mA 540 (by decide +kernel) (by decide +kernel)
theorem k541 : Cond.code y_Mo_thrown c_Mo_thrown 1 (some .int) ∈ wA := mA 541 (by decide +kernel) (by decide +kernel)
theorem k542 : Cond.methodLink "ArithmeticFormsLaw" 33 y_Mo_value ∈ wA := mA 542 (by decide +kernel) (by decide +kernel)
theorem k543 : Cond.instanceMethod y_Mo_value ∈ wA := mA 543 (by decide +kernel) (by decide +kernel)
theorem k544 : Cond.selects "ArithmeticFormsModel" y_Mo_value y_Mo_value ∈ wA := mA 544 (by decide +kernel) (by decide +kernel)
theorem k545 : Cond.code y_Mo_value c_Mo_value 4 (some .int) ∈ wA := mA 545 (by decide +kernel) (by decide +kernel)
theorem k546 : Cond.methodLink "ArithmeticFormsModel" 106 y_Mo_whole ∈ wA := mA 546 (by decide +kernel) (by decide +kernel)
theorem k548 : Cond.instanceMethod y_Mo_whole ∈ wA := mA 548 (by decide +kernel) (by decide +kernel)
theorem k549 : Cond.code y_Mo_whole c_Mo_whole 9 none ∈ wA := mA 549 (by decide +kernel) (by decide +kernel)
theorem k550 : Cond.methodLink "ArithmeticFormsModel" 67 y_Mo_zero ∈ wA := mA 550 (by decide +kernel) (by decide +kernel)
theorem k552 : Cond.instanceMethod y_Mo_zero ∈ wA := mA 552 (by decide +kernel) (by decide +kernel)
theorem k553 : Cond.code y_Mo_zero c_Mo_zero 2 none ∈ wA := mA 553 (by decide +kernel) (by decide +kernel)
theorem k554 : Cond.constantLong "ArithmeticFormsModel" (71 : Nat) (10 : Int64) ∈ wA := mA 554 (by decide +kernel) (by decide +kernel)
theorem k555 : Cond.methodLink "ArithmeticFormsModel" 84 y_Mo_cut ∈ wA := mA 555 (by decide +kernel) (by decide +kernel)
theorem k557 : Cond.instanceMethod y_Mo_cut ∈ wA := mA 557 (by decide +kernel) (by decide +kernel)
theorem k558 : Cond.code y_Mo_cut c_Mo_cut 5 (some .int) ∈ wA := mA 558 (by decide +kernel) (by decide +kernel)
theorem k559 : Cond.methodLink "ArithmeticFormsModel" 73 y_Mo_drop ∈ wA := mA 559 (by decide +kernel) (by decide +kernel)
theorem k561 : Cond.instanceMethod y_Mo_drop ∈ wA := mA 561 (by decide +kernel) (by decide +kernel)
theorem k562 : Cond.code y_Mo_drop c_Mo_drop 4 none ∈ wA := mA 562 (by decide +kernel) (by decide +kernel)
theorem k563 : Cond.methodLink "ArithmeticFormsModel" 119 y_Mo_kept ∈ wA := mA 563 (by decide +kernel) (by decide +kernel)
theorem k565 : Cond.instanceMethod y_Mo_kept ∈ wA := mA 565 (by decide +kernel) (by decide +kernel)
theorem k566 : Cond.code y_Mo_kept c_Mo_kept 3 (some .int) ∈ wA := mA 566 (by decide +kernel) (by decide +kernel)
theorem k567 : Cond.methodLink "ArithmeticFormsLaw" 38 y_Mo_node ∈ wA := mA 567 (by decide +kernel) (by decide +kernel)
theorem k568 : Cond.instanceMethod y_Mo_node ∈ wA := mA 568 (by decide +kernel) (by decide +kernel)
theorem k569 : Cond.selects "ArithmeticFormsModel" y_Mo_node y_Mo_node ∈ wA := mA 569 (by decide +kernel) (by decide +kernel)
theorem k570 : Cond.code y_Mo_node c_Mo_node 4 (some .int) ∈ wA := mA 570 (by decide +kernel) (by decide +kernel)
theorem k571 : Cond.methodLink "ArithmeticFormsModel" 128 y_Mo_isNode ∈ wA := mA 571 (by decide +kernel) (by decide +kernel)
theorem k573 : Cond.instanceMethod y_Mo_isNode ∈ wA := mA 573 (by decide +kernel) (by decide +kernel)
theorem k574 : Cond.code y_Mo_isNode c_Mo_isNode 2 (some .boolean) ∈ wA := mA 574 (by decide +kernel) (by decide +kernel)
theorem k575 : Cond.methodLink "ArithmeticFormsModel" 132 y_Mo_load ∈ wA := mA 575 (by decide +kernel) (by decide +kernel)
theorem k577 : Cond.instanceMethod y_Mo_load ∈ wA := mA 577 (by decide +kernel) (by decide +kernel)
theorem k578 : Cond.code y_Mo_load c_Mo_load 4 none ∈ wA := mA 578 (by decide +kernel) (by decide +kernel)
theorem k579 : Cond.methodLink "ArithmeticFormsModel" 135 y_Mo_operated ∈ wA := mA 579 (by decide +kernel) (by decide +kernel)
theorem k581 : Cond.instanceMethod y_Mo_operated ∈ wA := mA 581 (by decide +kernel) (by decide +kernel)
theorem k582 : Cond.code y_Mo_operated c_Mo_operated 2 (some .int) ∈ wA := mA 582 (by decide +kernel) (by decide +kernel)
theorem k583 : Cond.methodLink "ArithmeticFormsModel" 122 y_Mo_add ∈ wA := mA 583 (by decide +kernel) (by decide +kernel)
theorem k585 : Cond.instanceMethod y_Mo_add ∈ wA := mA 585 (by decide +kernel) (by decide +kernel)
theorem k586 : Cond.code y_Mo_add c_Mo_add 10 (some .int) ∈ wA := mA 586 (by decide +kernel) (by decide +kernel)
theorem k587 : Cond.methodLink "ArithmeticFormsModel" 81 y_Mo_copy ∈ wA := mA 587 (by decide +kernel) (by decide +kernel)
theorem k589 : Cond.instanceMethod y_Mo_copy ∈ wA := mA 589 (by decide +kernel) (by decide +kernel)
theorem k590 : Cond.code y_Mo_copy c_Mo_copy 4 none ∈ wA := mA 590 (by decide +kernel) (by decide +kernel)
theorem k591 : Cond.methodLink "ArithmeticFormsModel" 87 y_Mo_topOf ∈ wA := mA 591 (by decide +kernel) (by decide +kernel)
theorem k593 : Cond.instanceMethod y_Mo_topOf ∈ wA := mA 593 (by decide +kernel) (by decide +kernel)
theorem k594 : Cond.code y_Mo_topOf c_Mo_topOf 2 (some .int) ∈ wA := mA 594 (by decide +kernel) (by decide +kernel)
theorem k595 : Cond.methodLink "ArithmeticFormsModel" 91 y_Mo_order ∈ wA := mA 595 (by decide +kernel) (by decide +kernel)
theorem k597 : Cond.instanceMethod y_Mo_order ∈ wA := mA 597 (by decide +kernel) (by decide +kernel)
theorem k598 : Cond.code y_Mo_order c_Mo_order 7 (some .int) ∈ wA := mA 598 (by decide +kernel) (by decide +kernel)
theorem k599 : Cond.methodLink "ArithmeticFormsModel" 77 y_Mo_digitAt ∈ wA := mA 599 (by decide +kernel) (by decide +kernel)
theorem k601 : Cond.instanceMethod y_Mo_digitAt ∈ wA := mA 601 (by decide +kernel) (by decide +kernel)
theorem k602 : Cond.code y_Mo_digitAt c_Mo_digitAt 4 (some .int) ∈ wA := mA 602 (by decide +kernel) (by decide +kernel)
theorem k603 : Cond.methodLink "ArithmeticFormsModel" 110 y_Mo_multiply ∈ wA := mA 603 (by decide +kernel) (by decide +kernel)
theorem k605 : Cond.instanceMethod y_Mo_multiply ∈ wA := mA 605 (by decide +kernel) (by decide +kernel)
theorem k606 : Cond.code y_Mo_multiply c_Mo_multiply 6 (some .int) ∈ wA := mA 606 (by decide +kernel) (by decide +kernel)
theorem k607 : Cond.methodLink "ArithmeticFormsModel" 113 y_Mo_divide ∈ wA := mA 607 (by decide +kernel) (by decide +kernel)
theorem k609 : Cond.instanceMethod y_Mo_divide ∈ wA := mA 609 (by decide +kernel) (by decide +kernel)
theorem k610 : Cond.code y_Mo_divide c_Mo_divide 5 (some .int) ∈ wA := mA 610 (by decide +kernel) (by decide +kernel)
theorem k611 : Cond.methodLink "ArithmeticFormsModel" 95 y_Mo_isEnough ∈ wA := mA 611 (by decide +kernel) (by decide +kernel)
theorem k613 : Cond.instanceMethod y_Mo_isEnough ∈ wA := mA 613 (by decide +kernel) (by decide +kernel)
theorem k614 : Cond.code y_Mo_isEnough c_Mo_isEnough 4 (some .boolean) ∈ wA := mA 614 (by decide +kernel) (by decide +kernel)
theorem k615 : Cond.methodLink "ArithmeticFormsModel" 99 y_Mo_lessen ∈ wA := mA 615 (by decide +kernel) (by decide +kernel)
theorem k617 : Cond.instanceMethod y_Mo_lessen ∈ wA := mA 617 (by decide +kernel) (by decide +kernel)
theorem k618 : Cond.code y_Mo_lessen c_Mo_lessen 4 none ∈ wA := mA 618 (by decide +kernel) (by decide +kernel)
theorem k619 : Cond.methodLink "ArithmeticFormsModel" 125 y_Mo_raise ∈ wA := mA 619 (by decide +kernel) (by decide +kernel)
theorem k621 : Cond.instanceMethod y_Mo_raise ∈ wA := mA 621 (by decide +kernel) (by decide +kernel)
theorem k622 : Cond.code y_Mo_raise c_Mo_raise 4 (some .int) ∈ wA := mA 622 (by decide +kernel) (by decide +kernel)
theorem k623 : Cond.methodLink "ArithmeticFormsModel" 102 y_Mo_power ∈ wA := mA 623 (by decide +kernel) (by decide +kernel)
theorem k625 : Cond.instanceMethod y_Mo_power ∈ wA := mA 625 (by decide +kernel) (by decide +kernel)
theorem k626 : Cond.code y_Mo_power c_Mo_power 1 (some .int) ∈ wA := mA 626 (by decide +kernel) (by decide +kernel)
theorem k627 : Cond.methodLink "ArithmeticFormsLaw" 79 y_Mo_raises ∈ wA := mA 627 (by decide +kernel) (by decide +kernel)
theorem k628 : Cond.instanceMethod y_Mo_raises ∈ wA := mA 628 (by decide +kernel) (by decide +kernel)
theorem k629 : Cond.selects "ArithmeticFormsModel" y_Mo_raises y_Mo_raises ∈ wA := mA 629 (by decide +kernel) (by decide +kernel)
theorem k630 : Cond.code y_Mo_raises c_Mo_raises 2 (some .int) ∈ wA := mA 630 (by decide +kernel) (by decide +kernel)
theorem k631 : Cond.methodLink "ArithmeticFormsLaw" 70 y_Mo_exact ∈ wA := mA 631 (by decide +kernel) (by decide +kernel)
theorem k632 : Cond.instanceMethod y_Mo_exact ∈ wA := mA 632 (by decide +kernel) (by decide +kernel)
theorem k633 : Cond.selects "ArithmeticFormsModel" y_Mo_exact y_Mo_exact ∈ wA := mA 633 (by decide +kernel) (by decide +kernel)
theorem k634 : Cond.code y_Mo_exact c_Mo_exact 4 (some .long) ∈ wA := mA 634 (by decide +kernel) (by decide +kernel)
theorem k635 : Cond.constantLong "ArithmeticFormsModel" (138 : Nat) (-1 : Int64) ∈ wA := mA 635 (by decide +kernel) (by decide +kernel)
theorem k636 : Cond.methodLink "ArithmeticFormsLaw" 42 y_Mo_receiver ∈ wA := mA 636 (by decide +kernel) (by decide +kernel)
theorem k637 : Cond.instanceMethod y_Mo_receiver ∈ wA := mA 637 (by decide +kernel) (by decide +kernel)
theorem k638 : Cond.selects "ArithmeticFormsModel" y_Mo_receiver y_Mo_receiver ∈ wA := mA 638 (by decide +kernel) (by decide +kernel)
theorem k639 : Cond.code y_Mo_receiver c_Mo_receiver 4 (some .int) ∈ wA := mA 639 (by decide +kernel) (by decide +kernel)
theorem k640 : Cond.methodLink "ArithmeticFormsLaw" 57 y_Mo_set ∈ wA := mA 640 (by decide +kernel) (by decide +kernel)
theorem k641 : Cond.instanceMethod y_Mo_set ∈ wA := mA 641 (by decide +kernel) (by decide +kernel)
theorem k642 : Cond.selects "ArithmeticFormsModel" y_Mo_set y_Mo_set ∈ wA := mA 642 (by decide +kernel) (by decide +kernel)
theorem k643 : Cond.code y_Mo_set c_Mo_set 4 (some .int) ∈ wA := mA 643 (by decide +kernel) (by decide +kernel)
theorem k644 : Cond.methodLink "ArithmeticFormsModel" 143 y_Mo_isReceiver ∈ wA := mA 644 (by decide +kernel) (by decide +kernel)
theorem k646 : Cond.instanceMethod y_Mo_isReceiver ∈ wA := mA 646 (by decide +kernel) (by decide +kernel)
theorem k647 : Cond.code y_Mo_isReceiver c_Mo_isReceiver 2 (some .boolean) ∈ wA := mA 647 (by decide +kernel) (by decide +kernel)
theorem k648 : Cond.methodLink "ArithmeticFormsModel" 146 y_Mo_ten ∈ wA := mA 648 (by decide +kernel) (by decide +kernel)
theorem k649 : Cond.static y_Mo_ten ∈ wA := mA 649 (by decide +kernel) (by decide +kernel)
theorem k650 : Cond.code y_Mo_ten c_Mo_ten 4 (some .long) ∈ wA := mA 650 (by decide +kernel) (by decide +kernel)
theorem k651 : Cond.methodLink "ArithmeticFormsLaw" 47 y_Mo_run ∈ wA := mA 651 (by decide +kernel) (by decide +kernel)
theorem k652 : Cond.instanceMethod y_Mo_run ∈ wA := mA 652 (by decide +kernel) (by decide +kernel)
theorem k653 : Cond.selects "ArithmeticFormsModel" y_Mo_run y_Mo_run ∈ wA := mA 653 (by decide +kernel) (by decide +kernel)
theorem k654 : Cond.code y_Mo_run c_Mo_run 6 (some .int) ∈ wA := mA 654 (by decide +kernel) (by decide +kernel)
theorem k655 : Cond.methodLink "ArithmeticFormsModel" 176 y_Mo_isStored ∈ wA := mA 655 (by decide +kernel) (by decide +kernel)
theorem k657 : Cond.instanceMethod y_Mo_isStored ∈ wA := mA 657 (by decide +kernel) (by decide +kernel)
theorem k658 : Cond.code y_Mo_isStored c_Mo_isStored 9 (some .boolean) ∈ wA := mA 658 (by decide +kernel) (by decide +kernel)
theorem k659 : Cond.methodLink "ArithmeticFormsModel" 166 y_Mo_given ∈ wA := mA 659 (by decide +kernel) (by decide +kernel)
theorem k661 : Cond.instanceMethod y_Mo_given ∈ wA := mA 661 (by decide +kernel) (by decide +kernel)
theorem k662 : Cond.code y_Mo_given c_Mo_given 4 (some .int) ∈ wA := mA 662 (by decide +kernel) (by decide +kernel)
theorem k663 : Cond.methodLink "ArithmeticFormsModel" 162 y_Mo_round ∈ wA := mA 663 (by decide +kernel) (by decide +kernel)
theorem k665 : Cond.instanceMethod y_Mo_round ∈ wA := mA 665 (by decide +kernel) (by decide +kernel)
theorem k666 : Cond.code y_Mo_round c_Mo_round 13 (some .int) ∈ wA := mA 666 (by decide +kernel) (by decide +kernel)
theorem k667 : Cond.methodLink "ArithmeticFormsModel" 150 y_Mo_goesUp ∈ wA := mA 667 (by decide +kernel) (by decide +kernel)
theorem k669 : Cond.instanceMethod y_Mo_goesUp ∈ wA := mA 669 (by decide +kernel) (by decide +kernel)
theorem k670 : Cond.code y_Mo_goesUp c_Mo_goesUp 8 (some .boolean) ∈ wA := mA 670 (by decide +kernel) (by decide +kernel)
theorem k671 : Cond.methodLink "ArithmeticFormsModel" 172 y_Mo_left ∈ wA := mA 671 (by decide +kernel) (by decide +kernel)
theorem k673 : Cond.instanceMethod y_Mo_left ∈ wA := mA 673 (by decide +kernel) (by decide +kernel)
theorem k674 : Cond.code y_Mo_left c_Mo_left 5 (some .long) ∈ wA := mA 674 (by decide +kernel) (by decide +kernel)
theorem k675 : Cond.methodLink "ArithmeticFormsLaw" 52 y_Mo_stored ∈ wA := mA 675 (by decide +kernel) (by decide +kernel)
theorem k676 : Cond.instanceMethod y_Mo_stored ∈ wA := mA 676 (by decide +kernel) (by decide +kernel)
theorem k677 : Cond.selects "ArithmeticFormsModel" y_Mo_stored y_Mo_stored ∈ wA := mA 677 (by decide +kernel) (by decide +kernel)
theorem k678 : Cond.code y_Mo_stored c_Mo_stored 2 (some .long) ∈ wA := mA 678 (by decide +kernel) (by decide +kernel)
theorem k679 : Cond.methodLink "ArithmeticFormsLaw" 62 y_Mo_error ∈ wA := mA 679 (by decide +kernel) (by decide +kernel)
theorem k680 : Cond.instanceMethod y_Mo_error ∈ wA := mA 680 (by decide +kernel) (by decide +kernel)
theorem k681 : Cond.selects "ArithmeticFormsModel" y_Mo_error y_Mo_error ∈ wA := mA 681 (by decide +kernel) (by decide +kernel)
theorem k682 : Cond.code y_Mo_error c_Mo_error 2 (some .boolean) ∈ wA := mA 682 (by decide +kernel) (by decide +kernel)
theorem k683 : Cond.methodLink "ArithmeticFormsLaw" 66 y_Mo_rest ∈ wA := mA 683 (by decide +kernel) (by decide +kernel)
theorem k684 : Cond.instanceMethod y_Mo_rest ∈ wA := mA 684 (by decide +kernel) (by decide +kernel)
theorem k685 : Cond.selects "ArithmeticFormsModel" y_Mo_rest y_Mo_rest ∈ wA := mA 685 (by decide +kernel) (by decide +kernel)
theorem k686 : Cond.code y_Mo_rest c_Mo_rest 2 (some .long) ∈ wA := mA 686 (by decide +kernel) (by decide +kernel)
theorem k687 : Cond.methodLink "ArithmeticFormsLaw" 83 y_Mo_raised ∈ wA := mA 687 (by decide +kernel) (by decide +kernel)
theorem k688 : Cond.instanceMethod y_Mo_raised ∈ wA := mA 688 (by decide +kernel) (by decide +kernel)
theorem k689 : Cond.selects "ArithmeticFormsModel" y_Mo_raised y_Mo_raised ∈ wA := mA 689 (by decide +kernel) (by decide +kernel)
theorem k690 : Cond.code y_Mo_raised c_Mo_raised 1 (some .int) ∈ wA := mA 690 (by decide +kernel) (by decide +kernel)
theorem k691 : Cond.constantLong "ArithmeticFormsLaw" (27 : Nat) (4294967295 : Int64) ∈ wA := mA 691 (by decide +kernel) (by decide +kernel)
theorem k692 : Cond.sameMethod "java/lang/Throwable" "java/lang/Throwable" "fillInStackTrace" "(I)Ljava/lang/Throwable;" ∈ wA := mA 692 (by decide +kernel) (by decide +kernel)
theorem ks0 : Cond.selects "ArithmeticForms" y_AF_keepNode y_AF_keepNode ∈ wA := mS 0 (by decide +kernel) (by decide +kernel)
theorem ks1 : Cond.selects "ArithmeticForms" y_AF_nodeAt y_AF_nodeAt ∈ wA := mS 1 (by decide +kernel) (by decide +kernel)
theorem ks2 : Cond.selects "ArithmeticForms" y_AF_operate y_AF_operate ∈ wA := mS 2 (by decide +kernel) (by decide +kernel)
theorem ks3 : Cond.selects "ArithmeticForms$Calculator" y_Ca_carry y_Ca_carry ∈ wA := mS 3 (by decide +kernel) (by decide +kernel)
theorem ks4 : Cond.selects "ArithmeticForms$Calculator" y_Ca_settle y_Ca_settle ∈ wA := mS 4 (by decide +kernel) (by decide +kernel)
theorem ks5 : Cond.selects "ArithmeticForms$Calculator" y_Ca_wideAt y_Ca_wideAt ∈ wA := mS 5 (by decide +kernel) (by decide +kernel)
theorem ks6 : Cond.selects "ArithmeticForms$Calculator" y_Ca_takeOut y_Ca_takeOut ∈ wA := mS 6 (by decide +kernel) (by decide +kernel)
theorem ks7 : Cond.selects "ArithmeticForms$Calculator" y_Ca_reaches y_Ca_reaches ∈ wA := mS 7 (by decide +kernel) (by decide +kernel)
theorem ks8 : Cond.selects "ArithmeticForms$Calculator" y_Ca_reduce y_Ca_reduce ∈ wA := mS 8 (by decide +kernel) (by decide +kernel)
theorem ks9 : Cond.selects "ArithmeticForms" y_AF_calculate y_AF_calculate ∈ wA := mS 9 (by decide +kernel) (by decide +kernel)
theorem ks10 : Cond.selects "ArithmeticForms$Calculator" y_Ca_place y_Ca_place ∈ wA := mS 10 (by decide +kernel) (by decide +kernel)
theorem ks11 : Cond.selects "ArithmeticForms" y_AF_receiverAt y_AF_receiverAt ∈ wA := mS 11 (by decide +kernel) (by decide +kernel)
theorem ks12 : Cond.selects "ArithmeticForms" y_AF_give y_AF_give ∈ wA := mS 12 (by decide +kernel) (by decide +kernel)
theorem ks13 : Cond.selects "ArithmeticForms$Receiver" y_Re_isExact y_Re_isExact ∈ wA := mS 13 (by decide +kernel) (by decide +kernel)
theorem ks14 : Cond.selects "ArithmeticForms$Receiver" y_Re_goesUp y_Re_goesUp ∈ wA := mS 14 (by decide +kernel) (by decide +kernel)
theorem ks15 : Cond.selects "ArithmeticForms$Receiver" y_Re_compareToHalf y_Re_compareToHalf ∈ wA := mS 15 (by decide +kernel) (by decide +kernel)
theorem ks16 : Cond.selects "ArithmeticForms$Receiver" y_Re_endsOdd y_Re_endsOdd ∈ wA := mS 16 (by decide +kernel) (by decide +kernel)
theorem ks17 : Cond.selects "ArithmeticForms" y_AF_restOf y_AF_restOf ∈ wA := mS 17 (by decide +kernel) (by decide +kernel)
theorem ks18 : Cond.selects "java/lang/Throwable" y_Th_fillInStackTrace y_Th_fillInStackTrace ∈ wA := mS 18 (by decide +kernel) (by decide +kernel)
theorem ks19 : Cond.selects "ArithmeticFormsModel" y_Mo_whole y_Mo_whole ∈ wA := mS 19 (by decide +kernel) (by decide +kernel)
theorem ks20 : Cond.selects "ArithmeticFormsModel" y_Mo_zero y_Mo_zero ∈ wA := mS 20 (by decide +kernel) (by decide +kernel)
theorem ks21 : Cond.selects "ArithmeticFormsModel" y_Mo_cut y_Mo_cut ∈ wA := mS 21 (by decide +kernel) (by decide +kernel)
theorem ks22 : Cond.selects "ArithmeticFormsModel" y_Mo_drop y_Mo_drop ∈ wA := mS 22 (by decide +kernel) (by decide +kernel)
theorem ks23 : Cond.selects "ArithmeticFormsModel" y_Mo_kept y_Mo_kept ∈ wA := mS 23 (by decide +kernel) (by decide +kernel)
theorem ks24 : Cond.selects "ArithmeticFormsModel" y_Mo_isNode y_Mo_isNode ∈ wA := mS 24 (by decide +kernel) (by decide +kernel)
theorem ks25 : Cond.selects "ArithmeticFormsModel" y_Mo_load y_Mo_load ∈ wA := mS 25 (by decide +kernel) (by decide +kernel)
theorem ks26 : Cond.selects "ArithmeticFormsModel" y_Mo_operated y_Mo_operated ∈ wA := mS 26 (by decide +kernel) (by decide +kernel)
theorem ks27 : Cond.selects "ArithmeticFormsModel" y_Mo_add y_Mo_add ∈ wA := mS 27 (by decide +kernel) (by decide +kernel)
theorem ks28 : Cond.selects "ArithmeticFormsModel" y_Mo_copy y_Mo_copy ∈ wA := mS 28 (by decide +kernel) (by decide +kernel)
theorem ks29 : Cond.selects "ArithmeticFormsModel" y_Mo_topOf y_Mo_topOf ∈ wA := mS 29 (by decide +kernel) (by decide +kernel)
theorem ks30 : Cond.selects "ArithmeticFormsModel" y_Mo_order y_Mo_order ∈ wA := mS 30 (by decide +kernel) (by decide +kernel)
theorem ks31 : Cond.selects "ArithmeticFormsModel" y_Mo_digitAt y_Mo_digitAt ∈ wA := mS 31 (by decide +kernel) (by decide +kernel)
theorem ks32 : Cond.selects "ArithmeticFormsModel" y_Mo_multiply y_Mo_multiply ∈ wA := mS 32 (by decide +kernel) (by decide +kernel)
theorem ks33 : Cond.selects "ArithmeticFormsModel" y_Mo_divide y_Mo_divide ∈ wA := mS 33 (by decide +kernel) (by decide +kernel)
theorem ks34 : Cond.selects "ArithmeticFormsModel" y_Mo_isEnough y_Mo_isEnough ∈ wA := mS 34 (by decide +kernel) (by decide +kernel)
theorem ks35 : Cond.selects "ArithmeticFormsModel" y_Mo_lessen y_Mo_lessen ∈ wA := mS 35 (by decide +kernel) (by decide +kernel)
theorem ks36 : Cond.selects "ArithmeticFormsModel" y_Mo_raise y_Mo_raise ∈ wA := mS 36 (by decide +kernel) (by decide +kernel)
theorem ks37 : Cond.selects "ArithmeticFormsModel" y_Mo_power y_Mo_power ∈ wA := mS 37 (by decide +kernel) (by decide +kernel)
theorem ks38 : Cond.selects "ArithmeticFormsModel" y_Mo_isReceiver y_Mo_isReceiver ∈ wA := mS 38 (by decide +kernel) (by decide +kernel)
theorem ks39 : Cond.selects "ArithmeticFormsModel" y_Mo_isStored y_Mo_isStored ∈ wA := mS 39 (by decide +kernel) (by decide +kernel)
theorem ks40 : Cond.selects "ArithmeticFormsModel" y_Mo_given y_Mo_given ∈ wA := mS 40 (by decide +kernel) (by decide +kernel)
theorem ks41 : Cond.selects "ArithmeticFormsModel" y_Mo_round y_Mo_round ∈ wA := mS 41 (by decide +kernel) (by decide +kernel)
theorem ks42 : Cond.selects "ArithmeticFormsModel" y_Mo_goesUp y_Mo_goesUp ∈ wA := mS 42 (by decide +kernel) (by decide +kernel)
theorem ks43 : Cond.selects "ArithmeticFormsModel" y_Mo_left y_Mo_left ∈ wA := mS 43 (by decide +kernel) (by decide +kernel)
end
section
theorem d_Mo_init_0 : decode c_Mo_init 0 = .ok (.aload_n 0, 1) := by decide +kernel
theorem d_Mo_init_1 : decode c_Mo_init 1 = .ok (.invokespecial 1, 3) := by decide +kernel
theorem d_Mo_init_4 : decode c_Mo_init 4 = .ok (.aload_n 0, 1) := by decide +kernel
theorem d_Mo_init_5 : decode c_Mo_init 5 = .ok (.sipush 2240, 3) := by decide +kernel
theorem d_Mo_init_8 : decode c_Mo_init 8 = .ok (.newarray .int, 2) := by decide +kernel
theorem d_Mo_init_10 : decode c_Mo_init 10 = .ok (.putfield 7, 3) := by decide +kernel
theorem d_Mo_init_13 : decode c_Mo_init 13 = .ok (.aload_n 0, 1) := by decide +kernel
theorem d_Mo_init_14 : decode c_Mo_init 14 = .ok (.bipush 7, 2) := by decide +kernel
theorem d_Mo_init_16 : decode c_Mo_init 16 = .ok (.newarray .int, 2) := by decide +kernel
theorem d_Mo_init_18 : decode c_Mo_init 18 = .ok (.putfield 13, 3) := by decide +kernel
theorem d_Mo_init_21 : decode c_Mo_init 21 = .ok (.aload_n 0, 1) := by decide +kernel
theorem d_Mo_init_22 : decode c_Mo_init 22 = .ok (.bipush 7, 2) := by decide +kernel
theorem d_Mo_init_24 : decode c_Mo_init 24 = .ok (.newarray .int, 2) := by decide +kernel
theorem d_Mo_init_26 : decode c_Mo_init 26 = .ok (.putfield 16, 3) := by decide +kernel
theorem d_Mo_init_29 : decode c_Mo_init 29 = .ok (.aload_n 0, 1) := by decide +kernel
theorem d_Mo_init_30 : decode c_Mo_init 30 = .ok (.bipush 7, 2) := by decide +kernel
theorem d_Mo_init_32 : decode c_Mo_init 32 = .ok (.newarray .int, 2) := by decide +kernel
theorem d_Mo_init_34 : decode c_Mo_init 34 = .ok (.putfield 19, 3) := by decide +kernel
theorem d_Mo_init_37 : decode c_Mo_init 37 = .ok (.aload_n 0, 1) := by decide +kernel
theorem d_Mo_init_38 : decode c_Mo_init 38 = .ok (.bipush 40, 2) := by decide +kernel
theorem d_Mo_init_40 : decode c_Mo_init 40 = .ok (.newarray .int, 2) := by decide +kernel
theorem d_Mo_init_42 : decode c_Mo_init 42 = .ok (.putfield 22, 3) := by decide +kernel
theorem d_Mo_init_45 : decode c_Mo_init 45 = .ok (.aload_n 0, 1) := by decide +kernel
theorem d_Mo_init_46 : decode c_Mo_init 46 = .ok (.sipush 3131, 3) := by decide +kernel
theorem d_Mo_init_49 : decode c_Mo_init 49 = .ok (.newarray .int, 2) := by decide +kernel
theorem d_Mo_init_51 : decode c_Mo_init 51 = .ok (.putfield 25, 3) := by decide +kernel
theorem d_Mo_init_54 : decode c_Mo_init 54 = .ok (.aload_n 0, 1) := by decide +kernel
theorem d_Mo_init_55 : decode c_Mo_init 55 = .ok (.bipush 101, 2) := by decide +kernel
theorem d_Mo_init_57 : decode c_Mo_init 57 = .ok (.newarray .int, 2) := by decide +kernel
theorem d_Mo_init_59 : decode c_Mo_init 59 = .ok (.putfield 28, 3) := by decide +kernel
theorem d_Mo_init_62 : decode c_Mo_init 62 = .ok (.aload_n 0, 1) := by decide +kernel
theorem d_Mo_init_63 : decode c_Mo_init 63 = .ok (.bipush 101, 2) := by decide +kernel
theorem d_Mo_init_65 : decode c_Mo_init 65 = .ok (.newarray .int, 2) := by decide +kernel
theorem d_Mo_init_67 : decode c_Mo_init 67 = .ok (.putfield 31, 3) := by decide +kernel
theorem d_Mo_init_70 : decode c_Mo_init 70 = .ok (.aload_n 0, 1) := by decide +kernel
theorem d_Mo_init_71 : decode c_Mo_init 71 = .ok (.bipush 101, 2) := by decide +kernel
theorem d_Mo_init_73 : decode c_Mo_init 73 = .ok (.newarray .int, 2) := by decide +kernel
theorem d_Mo_init_75 : decode c_Mo_init 75 = .ok (.putfield 34, 3) := by decide +kernel
theorem d_Mo_init_78 : decode c_Mo_init 78 = .ok (.aload_n 0, 1) := by decide +kernel
theorem d_Mo_init_79 : decode c_Mo_init 79 = .ok (.bipush 101, 2) := by decide +kernel
theorem d_Mo_init_81 : decode c_Mo_init 81 = .ok (.newarray .int, 2) := by decide +kernel
theorem d_Mo_init_83 : decode c_Mo_init 83 = .ok (.putfield 37, 3) := by decide +kernel
theorem d_Mo_init_86 : decode c_Mo_init 86 = .ok (.aload_n 0, 1) := by decide +kernel
theorem d_Mo_init_87 : decode c_Mo_init 87 = .ok (.bipush 21, 2) := by decide +kernel
theorem d_Mo_init_89 : decode c_Mo_init 89 = .ok (.newarray .int, 2) := by decide +kernel
theorem d_Mo_init_91 : decode c_Mo_init 91 = .ok (.putfield 40, 3) := by decide +kernel
theorem d_Mo_init_94 : decode c_Mo_init 94 = .ok (.aload_n 0, 1) := by decide +kernel
theorem d_Mo_init_95 : decode c_Mo_init 95 = .ok (.bipush 21, 2) := by decide +kernel
theorem d_Mo_init_97 : decode c_Mo_init 97 = .ok (.newarray .int, 2) := by decide +kernel
theorem d_Mo_init_99 : decode c_Mo_init 99 = .ok (.putfield 43, 3) := by decide +kernel
theorem d_Mo_init_102 : decode c_Mo_init 102 = .ok (.aload_n 0, 1) := by decide +kernel
theorem d_Mo_init_103 : decode c_Mo_init 103 = .ok (.bipush 21, 2) := by decide +kernel
theorem d_Mo_init_105 : decode c_Mo_init 105 = .ok (.newarray .int, 2) := by decide +kernel
theorem d_Mo_init_107 : decode c_Mo_init 107 = .ok (.putfield 46, 3) := by decide +kernel
theorem d_Mo_init_110 : decode c_Mo_init 110 = .ok (.aload_n 0, 1) := by decide +kernel
theorem d_Mo_init_111 : decode c_Mo_init 111 = .ok (.bipush 21, 2) := by decide +kernel
theorem d_Mo_init_113 : decode c_Mo_init 113 = .ok (.newarray .long, 2) := by decide +kernel
theorem d_Mo_init_115 : decode c_Mo_init 115 = .ok (.putfield 49, 3) := by decide +kernel
theorem d_Mo_init_118 : decode c_Mo_init 118 = .ok (.aload_n 0, 1) := by decide +kernel
theorem d_Mo_init_119 : decode c_Mo_init 119 = .ok (.bipush 21, 2) := by decide +kernel
theorem d_Mo_init_121 : decode c_Mo_init 121 = .ok (.newarray .long, 2) := by decide +kernel
theorem d_Mo_init_123 : decode c_Mo_init 123 = .ok (.putfield 53, 3) := by decide +kernel
theorem d_Mo_init_126 : decode c_Mo_init 126 = .ok (.aload_n 0, 1) := by decide +kernel
theorem d_Mo_init_127 : decode c_Mo_init 127 = .ok (.bipush 21, 2) := by decide +kernel
theorem d_Mo_init_129 : decode c_Mo_init 129 = .ok (.newarray .boolean, 2) := by decide +kernel
theorem d_Mo_init_131 : decode c_Mo_init 131 = .ok (.putfield 56, 3) := by decide +kernel
theorem d_Mo_init_134 : decode c_Mo_init 134 = .ok (.aload_n 0, 1) := by decide +kernel
theorem d_Mo_init_135 : decode c_Mo_init 135 = .ok (.iload_n 1, 1) := by decide +kernel
theorem d_Mo_init_136 : decode c_Mo_init 136 = .ok (.iconst 1, 1) := by decide +kernel
theorem d_Mo_init_137 : decode c_Mo_init 137 = .ok (.if_icmp .ge 7, 3) := by decide +kernel
theorem d_Mo_init_140 : decode c_Mo_init 140 = .ok (.iconst 1, 1) := by decide +kernel
theorem d_Mo_init_141 : decode c_Mo_init 141 = .ok (.goto 15, 3) := by decide +kernel
theorem d_Mo_init_144 : decode c_Mo_init 144 = .ok (.iload_n 1, 1) := by decide +kernel
theorem d_Mo_init_145 : decode c_Mo_init 145 = .ok (.bipush 31, 2) := by decide +kernel
theorem d_Mo_init_147 : decode c_Mo_init 147 = .ok (.if_icmp .le 8, 3) := by decide +kernel
theorem d_Mo_init_150 : decode c_Mo_init 150 = .ok (.bipush 31, 2) := by decide +kernel
theorem d_Mo_init_152 : decode c_Mo_init 152 = .ok (.goto 4, 3) := by decide +kernel
theorem d_Mo_init_155 : decode c_Mo_init 155 = .ok (.iload_n 1, 1) := by decide +kernel
theorem d_Mo_init_156 : decode c_Mo_init 156 = .ok (.putfield 60, 3) := by decide +kernel
theorem d_Mo_init_159 : decode c_Mo_init 159 = .ok (.return_, 1) := by decide +kernel
theorem d_Mo_thrown_0 : decode c_Mo_thrown 0 = .ok (.aload_n 0, 1) := by decide +kernel
theorem d_Mo_thrown_1 : decode c_Mo_thrown 1 = .ok (.getfield 64, 3) := by decide +kernel
theorem d_Mo_thrown_4 : decode c_Mo_thrown 4 = .ok (.ireturn, 1) := by decide +kernel
theorem d_Mo_value_0 : decode c_Mo_value 0 = .ok (.aload_n 0, 1) := by decide +kernel
theorem d_Mo_value_1 : decode c_Mo_value 1 = .ok (.iconst 0, 1) := by decide +kernel
theorem d_Mo_value_2 : decode c_Mo_value 2 = .ok (.putfield 64, 3) := by decide +kernel
theorem d_Mo_value_5 : decode c_Mo_value 5 = .ok (.iload_n 3, 1) := by decide +kernel
theorem d_Mo_value_6 : decode c_Mo_value 6 = .ok (.ifCond .lt 9, 3) := by decide +kernel
theorem d_Mo_value_9 : decode c_Mo_value 9 = .ok (.iload_n 3, 1) := by decide +kernel
theorem d_Mo_value_10 : decode c_Mo_value 10 = .ok (.bipush 18, 2) := by decide +kernel
theorem d_Mo_value_12 : decode c_Mo_value 12 = .ok (.if_icmp .le 6, 3) := by decide +kernel
theorem d_Mo_value_15 : decode c_Mo_value 15 = .ok (.bipush (-4), 2) := by decide +kernel
theorem d_Mo_value_17 : decode c_Mo_value 17 = .ok (.ireturn, 1) := by decide +kernel
theorem d_Mo_value_18 : decode c_Mo_value 18 = .ok (.aload_n 0, 1) := by decide +kernel
theorem d_Mo_value_19 : decode c_Mo_value 19 = .ok (.getfield 116, 3) := by decide +kernel
theorem d_Mo_value_22 : decode c_Mo_value 22 = .ok (.bipush 100, 2) := by decide +kernel
theorem d_Mo_value_24 : decode c_Mo_value 24 = .ok (.if_icmp .ne 5, 3) := by decide +kernel
theorem d_Mo_value_27 : decode c_Mo_value 27 = .ok (.iconst (-1), 1) := by decide +kernel
theorem d_Mo_value_28 : decode c_Mo_value 28 = .ok (.ireturn, 1) := by decide +kernel
theorem d_Mo_value_29 : decode c_Mo_value 29 = .ok (.aload_n 0, 1) := by decide +kernel
theorem d_Mo_value_30 : decode c_Mo_value 30 = .ok (.lload_n 1, 1) := by decide +kernel
theorem d_Mo_value_31 : decode c_Mo_value 31 = .ok (.iconst 0, 1) := by decide +kernel
theorem d_Mo_value_32 : decode c_Mo_value 32 = .ok (.iload_n 3, 1) := by decide +kernel
theorem d_Mo_value_33 : decode c_Mo_value 33 = .ok (.isub, 1) := by decide +kernel
theorem d_Mo_value_34 : decode c_Mo_value 34 = .ok (.iconst 2, 1) := by decide +kernel
theorem d_Mo_value_35 : decode c_Mo_value 35 = .ok (.invokevirtual 106, 3) := by decide +kernel
theorem d_Mo_value_38 : decode c_Mo_value 38 = .ok (.aload_n 0, 1) := by decide +kernel
theorem d_Mo_value_39 : decode c_Mo_value 39 = .ok (.aload_n 0, 1) := by decide +kernel
theorem d_Mo_value_40 : decode c_Mo_value 40 = .ok (.iconst 2, 1) := by decide +kernel
theorem d_Mo_value_41 : decode c_Mo_value 41 = .ok (.aload_n 0, 1) := by decide +kernel
theorem d_Mo_value_42 : decode c_Mo_value 42 = .ok (.getfield 60, 3) := by decide +kernel
theorem d_Mo_value_45 : decode c_Mo_value 45 = .ok (.invokevirtual 84, 3) := by decide +kernel
theorem d_Mo_value_48 : decode c_Mo_value 48 = .ok (.invokevirtual 119, 3) := by decide +kernel
theorem d_Mo_value_51 : decode c_Mo_value 51 = .ok (.ireturn, 1) := by decide +kernel
theorem d_Mo_whole_0 : decode c_Mo_whole 0 = .ok (.aload_n 0, 1) := by decide +kernel
theorem d_Mo_whole_1 : decode c_Mo_whole 1 = .ok (.iload 4, 2) := by decide +kernel
theorem d_Mo_whole_3 : decode c_Mo_whole 3 = .ok (.invokevirtual 67, 3) := by decide +kernel
theorem d_Mo_whole_6 : decode c_Mo_whole 6 = .ok (.lload_n 1, 1) := by decide +kernel
theorem d_Mo_whole_7 : decode c_Mo_whole 7 = .ok (.lstore 5, 2) := by decide +kernel
theorem d_Mo_whole_9 : decode c_Mo_whole 9 = .ok (.lload 5, 2) := by decide +kernel
theorem d_Mo_whole_11 : decode c_Mo_whole 11 = .ok (.lconst 0, 1) := by decide +kernel
theorem d_Mo_whole_12 : decode c_Mo_whole 12 = .ok (.lcmp, 1) := by decide +kernel
theorem d_Mo_whole_13 : decode c_Mo_whole 13 = .ok (.ifCond .eq 69, 3) := by decide +kernel
theorem d_Mo_whole_16 : decode c_Mo_whole 16 = .ok (.lload 5, 2) := by decide +kernel
theorem d_Mo_whole_18 : decode c_Mo_whole 18 = .ok (.ldc2_w 71, 3) := by decide +kernel
theorem d_Mo_whole_21 : decode c_Mo_whole 21 = .ok (.lrem, 1) := by decide +kernel
theorem d_Mo_whole_22 : decode c_Mo_whole 22 = .ok (.lstore 7, 2) := by decide +kernel
theorem d_Mo_whole_24 : decode c_Mo_whole 24 = .ok (.aload_n 0, 1) := by decide +kernel
theorem d_Mo_whole_25 : decode c_Mo_whole 25 = .ok (.getfield 7, 3) := by decide +kernel
theorem d_Mo_whole_28 : decode c_Mo_whole 28 = .ok (.sipush 320, 3) := by decide +kernel
theorem d_Mo_whole_31 : decode c_Mo_whole 31 = .ok (.iload 4, 2) := by decide +kernel
theorem d_Mo_whole_33 : decode c_Mo_whole 33 = .ok (.imul, 1) := by decide +kernel
theorem d_Mo_whole_34 : decode c_Mo_whole 34 = .ok (.aload_n 0, 1) := by decide +kernel
theorem d_Mo_whole_35 : decode c_Mo_whole 35 = .ok (.getfield 13, 3) := by decide +kernel
theorem d_Mo_whole_38 : decode c_Mo_whole 38 = .ok (.iload 4, 2) := by decide +kernel
theorem d_Mo_whole_40 : decode c_Mo_whole 40 = .ok (.iaload, 1) := by decide +kernel
theorem d_Mo_whole_41 : decode c_Mo_whole 41 = .ok (.iadd, 1) := by decide +kernel
theorem d_Mo_whole_42 : decode c_Mo_whole 42 = .ok (.lload 7, 2) := by decide +kernel
theorem d_Mo_whole_44 : decode c_Mo_whole 44 = .ok (.lconst 0, 1) := by decide +kernel
theorem d_Mo_whole_45 : decode c_Mo_whole 45 = .ok (.lcmp, 1) := by decide +kernel
theorem d_Mo_whole_46 : decode c_Mo_whole 46 = .ok (.ifCond .ge 10, 3) := by decide +kernel
theorem d_Mo_whole_49 : decode c_Mo_whole 49 = .ok (.lconst 0, 1) := by decide +kernel
theorem d_Mo_whole_50 : decode c_Mo_whole 50 = .ok (.lload 7, 2) := by decide +kernel
theorem d_Mo_whole_52 : decode c_Mo_whole 52 = .ok (.lsub, 1) := by decide +kernel
theorem d_Mo_whole_53 : decode c_Mo_whole 53 = .ok (.goto 5, 3) := by decide +kernel
theorem d_Mo_whole_56 : decode c_Mo_whole 56 = .ok (.lload 7, 2) := by decide +kernel
theorem d_Mo_whole_58 : decode c_Mo_whole 58 = .ok (.l2i, 1) := by decide +kernel
theorem d_Mo_whole_59 : decode c_Mo_whole 59 = .ok (.iastore, 1) := by decide +kernel
theorem d_Mo_whole_60 : decode c_Mo_whole 60 = .ok (.aload_n 0, 1) := by decide +kernel
theorem d_Mo_whole_61 : decode c_Mo_whole 61 = .ok (.getfield 13, 3) := by decide +kernel
theorem d_Mo_whole_64 : decode c_Mo_whole 64 = .ok (.iload 4, 2) := by decide +kernel
theorem d_Mo_whole_66 : decode c_Mo_whole 66 = .ok (.dup2, 1) := by decide +kernel
theorem d_Mo_whole_67 : decode c_Mo_whole 67 = .ok (.iaload, 1) := by decide +kernel
theorem d_Mo_whole_68 : decode c_Mo_whole 68 = .ok (.iconst 1, 1) := by decide +kernel
theorem d_Mo_whole_69 : decode c_Mo_whole 69 = .ok (.iadd, 1) := by decide +kernel
theorem d_Mo_whole_70 : decode c_Mo_whole 70 = .ok (.iastore, 1) := by decide +kernel
theorem d_Mo_whole_71 : decode c_Mo_whole 71 = .ok (.lload 5, 2) := by decide +kernel
theorem d_Mo_whole_73 : decode c_Mo_whole 73 = .ok (.ldc2_w 71, 3) := by decide +kernel
theorem d_Mo_whole_76 : decode c_Mo_whole 76 = .ok (.ldiv, 1) := by decide +kernel
theorem d_Mo_whole_77 : decode c_Mo_whole 77 = .ok (.lstore 5, 2) := by decide +kernel
theorem d_Mo_whole_79 : decode c_Mo_whole 79 = .ok (.goto (-70), 3) := by decide +kernel
theorem d_Mo_whole_82 : decode c_Mo_whole 82 = .ok (.aload_n 0, 1) := by decide +kernel
theorem d_Mo_whole_83 : decode c_Mo_whole 83 = .ok (.getfield 19, 3) := by decide +kernel
theorem d_Mo_whole_86 : decode c_Mo_whole 86 = .ok (.iload 4, 2) := by decide +kernel
theorem d_Mo_whole_88 : decode c_Mo_whole 88 = .ok (.lload_n 1, 1) := by decide +kernel
theorem d_Mo_whole_89 : decode c_Mo_whole 89 = .ok (.lconst 0, 1) := by decide +kernel
theorem d_Mo_whole_90 : decode c_Mo_whole 90 = .ok (.lcmp, 1) := by decide +kernel
theorem d_Mo_whole_91 : decode c_Mo_whole 91 = .ok (.ifCond .ge 7, 3) := by decide +kernel
theorem d_Mo_whole_94 : decode c_Mo_whole 94 = .ok (.iconst (-1), 1) := by decide +kernel
theorem d_Mo_whole_95 : decode c_Mo_whole 95 = .ok (.goto 14, 3) := by decide +kernel
theorem d_Mo_whole_98 : decode c_Mo_whole 98 = .ok (.lload_n 1, 1) := by decide +kernel
theorem d_Mo_whole_99 : decode c_Mo_whole 99 = .ok (.lconst 0, 1) := by decide +kernel
theorem d_Mo_whole_100 : decode c_Mo_whole 100 = .ok (.lcmp, 1) := by decide +kernel
theorem d_Mo_whole_101 : decode c_Mo_whole 101 = .ok (.ifCond .le 7, 3) := by decide +kernel
theorem d_Mo_whole_104 : decode c_Mo_whole 104 = .ok (.iconst 1, 1) := by decide +kernel
theorem d_Mo_whole_105 : decode c_Mo_whole 105 = .ok (.goto 4, 3) := by decide +kernel
theorem d_Mo_whole_108 : decode c_Mo_whole 108 = .ok (.iconst 0, 1) := by decide +kernel
theorem d_Mo_whole_109 : decode c_Mo_whole 109 = .ok (.iastore, 1) := by decide +kernel
theorem d_Mo_whole_110 : decode c_Mo_whole 110 = .ok (.aload_n 0, 1) := by decide +kernel
theorem d_Mo_whole_111 : decode c_Mo_whole 111 = .ok (.getfield 16, 3) := by decide +kernel
theorem d_Mo_whole_114 : decode c_Mo_whole 114 = .ok (.iload 4, 2) := by decide +kernel
theorem d_Mo_whole_116 : decode c_Mo_whole 116 = .ok (.lload_n 1, 1) := by decide +kernel
theorem d_Mo_whole_117 : decode c_Mo_whole 117 = .ok (.lconst 0, 1) := by decide +kernel
theorem d_Mo_whole_118 : decode c_Mo_whole 118 = .ok (.lcmp, 1) := by decide +kernel
theorem d_Mo_whole_119 : decode c_Mo_whole 119 = .ok (.ifCond .ne 7, 3) := by decide +kernel
theorem d_Mo_whole_122 : decode c_Mo_whole 122 = .ok (.iconst 0, 1) := by decide +kernel
theorem d_Mo_whole_123 : decode c_Mo_whole 123 = .ok (.goto 4, 3) := by decide +kernel
theorem d_Mo_whole_126 : decode c_Mo_whole 126 = .ok (.iload_n 3, 1) := by decide +kernel
theorem d_Mo_whole_127 : decode c_Mo_whole 127 = .ok (.iastore, 1) := by decide +kernel
theorem d_Mo_whole_128 : decode c_Mo_whole 128 = .ok (.return_, 1) := by decide +kernel
theorem d_Mo_zero_0 : decode c_Mo_zero 0 = .ok (.aload_n 0, 1) := by decide +kernel
theorem d_Mo_zero_1 : decode c_Mo_zero 1 = .ok (.getfield 13, 3) := by decide +kernel
theorem d_Mo_zero_4 : decode c_Mo_zero 4 = .ok (.iload_n 1, 1) := by decide +kernel
theorem d_Mo_zero_5 : decode c_Mo_zero 5 = .ok (.iconst 0, 1) := by decide +kernel
theorem d_Mo_zero_6 : decode c_Mo_zero 6 = .ok (.iastore, 1) := by decide +kernel
theorem d_Mo_zero_7 : decode c_Mo_zero 7 = .ok (.aload_n 0, 1) := by decide +kernel
theorem d_Mo_zero_8 : decode c_Mo_zero 8 = .ok (.getfield 16, 3) := by decide +kernel
theorem d_Mo_zero_11 : decode c_Mo_zero 11 = .ok (.iload_n 1, 1) := by decide +kernel
theorem d_Mo_zero_12 : decode c_Mo_zero 12 = .ok (.iconst 0, 1) := by decide +kernel
theorem d_Mo_zero_13 : decode c_Mo_zero 13 = .ok (.iastore, 1) := by decide +kernel
theorem d_Mo_zero_14 : decode c_Mo_zero 14 = .ok (.aload_n 0, 1) := by decide +kernel
theorem d_Mo_zero_15 : decode c_Mo_zero 15 = .ok (.getfield 19, 3) := by decide +kernel
theorem d_Mo_zero_18 : decode c_Mo_zero 18 = .ok (.iload_n 1, 1) := by decide +kernel
theorem d_Mo_zero_19 : decode c_Mo_zero 19 = .ok (.iconst 0, 1) := by decide +kernel
theorem d_Mo_zero_20 : decode c_Mo_zero 20 = .ok (.iastore, 1) := by decide +kernel
theorem d_Mo_zero_21 : decode c_Mo_zero 21 = .ok (.return_, 1) := by decide +kernel
theorem d_Mo_cut_0 : decode c_Mo_cut 0 = .ok (.aload_n 0, 1) := by decide +kernel
theorem d_Mo_cut_1 : decode c_Mo_cut 1 = .ok (.getfield 13, 3) := by decide +kernel
theorem d_Mo_cut_4 : decode c_Mo_cut 4 = .ok (.iload_n 1, 1) := by decide +kernel
theorem d_Mo_cut_5 : decode c_Mo_cut 5 = .ok (.iaload, 1) := by decide +kernel
theorem d_Mo_cut_6 : decode c_Mo_cut 6 = .ok (.ifCond .le 38, 3) := by decide +kernel
theorem d_Mo_cut_9 : decode c_Mo_cut 9 = .ok (.aload_n 0, 1) := by decide +kernel
theorem d_Mo_cut_10 : decode c_Mo_cut 10 = .ok (.getfield 7, 3) := by decide +kernel
theorem d_Mo_cut_13 : decode c_Mo_cut 13 = .ok (.sipush 320, 3) := by decide +kernel
theorem d_Mo_cut_16 : decode c_Mo_cut 16 = .ok (.iload_n 1, 1) := by decide +kernel
theorem d_Mo_cut_17 : decode c_Mo_cut 17 = .ok (.imul, 1) := by decide +kernel
theorem d_Mo_cut_18 : decode c_Mo_cut 18 = .ok (.aload_n 0, 1) := by decide +kernel
theorem d_Mo_cut_19 : decode c_Mo_cut 19 = .ok (.getfield 13, 3) := by decide +kernel
theorem d_Mo_cut_22 : decode c_Mo_cut 22 = .ok (.iload_n 1, 1) := by decide +kernel
theorem d_Mo_cut_23 : decode c_Mo_cut 23 = .ok (.iaload, 1) := by decide +kernel
theorem d_Mo_cut_24 : decode c_Mo_cut 24 = .ok (.iadd, 1) := by decide +kernel
theorem d_Mo_cut_25 : decode c_Mo_cut 25 = .ok (.iconst 1, 1) := by decide +kernel
theorem d_Mo_cut_26 : decode c_Mo_cut 26 = .ok (.isub, 1) := by decide +kernel
theorem d_Mo_cut_27 : decode c_Mo_cut 27 = .ok (.iaload, 1) := by decide +kernel
theorem d_Mo_cut_28 : decode c_Mo_cut 28 = .ok (.ifCond .ne 16, 3) := by decide +kernel
theorem d_Mo_cut_31 : decode c_Mo_cut 31 = .ok (.aload_n 0, 1) := by decide +kernel
theorem d_Mo_cut_32 : decode c_Mo_cut 32 = .ok (.getfield 13, 3) := by decide +kernel
theorem d_Mo_cut_35 : decode c_Mo_cut 35 = .ok (.iload_n 1, 1) := by decide +kernel
theorem d_Mo_cut_36 : decode c_Mo_cut 36 = .ok (.dup2, 1) := by decide +kernel
theorem d_Mo_cut_37 : decode c_Mo_cut 37 = .ok (.iaload, 1) := by decide +kernel
theorem d_Mo_cut_38 : decode c_Mo_cut 38 = .ok (.iconst 1, 1) := by decide +kernel
theorem d_Mo_cut_39 : decode c_Mo_cut 39 = .ok (.isub, 1) := by decide +kernel
theorem d_Mo_cut_40 : decode c_Mo_cut 40 = .ok (.iastore, 1) := by decide +kernel
theorem d_Mo_cut_41 : decode c_Mo_cut 41 = .ok (.goto (-41), 3) := by decide +kernel
theorem d_Mo_cut_44 : decode c_Mo_cut 44 = .ok (.aload_n 0, 1) := by decide +kernel
theorem d_Mo_cut_45 : decode c_Mo_cut 45 = .ok (.getfield 13, 3) := by decide +kernel
theorem d_Mo_cut_48 : decode c_Mo_cut 48 = .ok (.iload_n 1, 1) := by decide +kernel
theorem d_Mo_cut_49 : decode c_Mo_cut 49 = .ok (.iaload, 1) := by decide +kernel
theorem d_Mo_cut_50 : decode c_Mo_cut 50 = .ok (.iload_n 2, 1) := by decide +kernel
theorem d_Mo_cut_51 : decode c_Mo_cut 51 = .ok (.if_icmp .le 16, 3) := by decide +kernel
theorem d_Mo_cut_54 : decode c_Mo_cut 54 = .ok (.aload_n 0, 1) := by decide +kernel
theorem d_Mo_cut_55 : decode c_Mo_cut 55 = .ok (.iload_n 1, 1) := by decide +kernel
theorem d_Mo_cut_56 : decode c_Mo_cut 56 = .ok (.aload_n 0, 1) := by decide +kernel
theorem d_Mo_cut_57 : decode c_Mo_cut 57 = .ok (.getfield 13, 3) := by decide +kernel
theorem d_Mo_cut_60 : decode c_Mo_cut 60 = .ok (.iload_n 1, 1) := by decide +kernel
theorem d_Mo_cut_61 : decode c_Mo_cut 61 = .ok (.iaload, 1) := by decide +kernel
theorem d_Mo_cut_62 : decode c_Mo_cut 62 = .ok (.iload_n 2, 1) := by decide +kernel
theorem d_Mo_cut_63 : decode c_Mo_cut 63 = .ok (.isub, 1) := by decide +kernel
theorem d_Mo_cut_64 : decode c_Mo_cut 64 = .ok (.invokevirtual 73, 3) := by decide +kernel
theorem d_Mo_cut_67 : decode c_Mo_cut 67 = .ok (.iconst 0, 1) := by decide +kernel
theorem d_Mo_cut_68 : decode c_Mo_cut 68 = .ok (.istore_n 3, 1) := by decide +kernel
theorem d_Mo_cut_69 : decode c_Mo_cut 69 = .ok (.iload_n 3, 1) := by decide +kernel
theorem d_Mo_cut_70 : decode c_Mo_cut 70 = .ok (.aload_n 0, 1) := by decide +kernel
theorem d_Mo_cut_71 : decode c_Mo_cut 71 = .ok (.getfield 13, 3) := by decide +kernel
theorem d_Mo_cut_74 : decode c_Mo_cut 74 = .ok (.iload_n 1, 1) := by decide +kernel
theorem d_Mo_cut_75 : decode c_Mo_cut 75 = .ok (.iaload, 1) := by decide +kernel
theorem d_Mo_cut_76 : decode c_Mo_cut 76 = .ok (.if_icmp .ge 24, 3) := by decide +kernel
theorem d_Mo_cut_79 : decode c_Mo_cut 79 = .ok (.aload_n 0, 1) := by decide +kernel
theorem d_Mo_cut_80 : decode c_Mo_cut 80 = .ok (.getfield 7, 3) := by decide +kernel
theorem d_Mo_cut_83 : decode c_Mo_cut 83 = .ok (.sipush 320, 3) := by decide +kernel
theorem d_Mo_cut_86 : decode c_Mo_cut 86 = .ok (.iload_n 1, 1) := by decide +kernel
theorem d_Mo_cut_87 : decode c_Mo_cut 87 = .ok (.imul, 1) := by decide +kernel
theorem d_Mo_cut_88 : decode c_Mo_cut 88 = .ok (.iload_n 3, 1) := by decide +kernel
theorem d_Mo_cut_89 : decode c_Mo_cut 89 = .ok (.iadd, 1) := by decide +kernel
theorem d_Mo_cut_90 : decode c_Mo_cut 90 = .ok (.iaload, 1) := by decide +kernel
theorem d_Mo_cut_91 : decode c_Mo_cut 91 = .ok (.ifCond .ne 9, 3) := by decide +kernel
theorem d_Mo_cut_94 : decode c_Mo_cut 94 = .ok (.iinc 3 1, 3) := by decide +kernel
theorem d_Mo_cut_97 : decode c_Mo_cut 97 = .ok (.goto (-28), 3) := by decide +kernel
theorem d_Mo_cut_100 : decode c_Mo_cut 100 = .ok (.iload_n 3, 1) := by decide +kernel
theorem d_Mo_cut_101 : decode c_Mo_cut 101 = .ok (.ifCond .le 9, 3) := by decide +kernel
theorem d_Mo_cut_104 : decode c_Mo_cut 104 = .ok (.aload_n 0, 1) := by decide +kernel
theorem d_Mo_cut_105 : decode c_Mo_cut 105 = .ok (.iload_n 1, 1) := by decide +kernel
theorem d_Mo_cut_106 : decode c_Mo_cut 106 = .ok (.iload_n 3, 1) := by decide +kernel
theorem d_Mo_cut_107 : decode c_Mo_cut 107 = .ok (.invokevirtual 73, 3) := by decide +kernel
theorem d_Mo_cut_110 : decode c_Mo_cut 110 = .ok (.aload_n 0, 1) := by decide +kernel
theorem d_Mo_cut_111 : decode c_Mo_cut 111 = .ok (.getfield 13, 3) := by decide +kernel
theorem d_Mo_cut_114 : decode c_Mo_cut 114 = .ok (.iload_n 1, 1) := by decide +kernel
theorem d_Mo_cut_115 : decode c_Mo_cut 115 = .ok (.iaload, 1) := by decide +kernel
theorem d_Mo_cut_116 : decode c_Mo_cut 116 = .ok (.aload_n 0, 1) := by decide +kernel
theorem d_Mo_cut_117 : decode c_Mo_cut 117 = .ok (.getfield 16, 3) := by decide +kernel
theorem d_Mo_cut_120 : decode c_Mo_cut 120 = .ok (.iload_n 1, 1) := by decide +kernel
theorem d_Mo_cut_121 : decode c_Mo_cut 121 = .ok (.iaload, 1) := by decide +kernel
theorem d_Mo_cut_122 : decode c_Mo_cut 122 = .ok (.iadd, 1) := by decide +kernel
theorem d_Mo_cut_123 : decode c_Mo_cut 123 = .ok (.iconst 1, 1) := by decide +kernel
theorem d_Mo_cut_124 : decode c_Mo_cut 124 = .ok (.isub, 1) := by decide +kernel
theorem d_Mo_cut_125 : decode c_Mo_cut 125 = .ok (.istore 4, 2) := by decide +kernel
theorem d_Mo_cut_127 : decode c_Mo_cut 127 = .ok (.aload_n 0, 1) := by decide +kernel
theorem d_Mo_cut_128 : decode c_Mo_cut 128 = .ok (.getfield 13, 3) := by decide +kernel
theorem d_Mo_cut_131 : decode c_Mo_cut 131 = .ok (.iload_n 1, 1) := by decide +kernel
theorem d_Mo_cut_132 : decode c_Mo_cut 132 = .ok (.iaload, 1) := by decide +kernel
theorem d_Mo_cut_133 : decode c_Mo_cut 133 = .ok (.ifCond .eq 10, 3) := by decide +kernel
theorem d_Mo_cut_136 : decode c_Mo_cut 136 = .ok (.iload 4, 2) := by decide +kernel
theorem d_Mo_cut_138 : decode c_Mo_cut 138 = .ok (.bipush (-99), 2) := by decide +kernel
theorem d_Mo_cut_140 : decode c_Mo_cut 140 = .ok (.if_icmp .ge 10, 3) := by decide +kernel
theorem d_Mo_cut_143 : decode c_Mo_cut 143 = .ok (.aload_n 0, 1) := by decide +kernel
theorem d_Mo_cut_144 : decode c_Mo_cut 144 = .ok (.iload_n 1, 1) := by decide +kernel
theorem d_Mo_cut_145 : decode c_Mo_cut 145 = .ok (.invokevirtual 67, 3) := by decide +kernel
theorem d_Mo_cut_148 : decode c_Mo_cut 148 = .ok (.iconst 0, 1) := by decide +kernel
theorem d_Mo_cut_149 : decode c_Mo_cut 149 = .ok (.ireturn, 1) := by decide +kernel
theorem d_Mo_cut_150 : decode c_Mo_cut 150 = .ok (.iload 4, 2) := by decide +kernel
theorem d_Mo_cut_152 : decode c_Mo_cut 152 = .ok (.bipush 99, 2) := by decide +kernel
theorem d_Mo_cut_154 : decode c_Mo_cut 154 = .ok (.if_icmp .lt 7, 3) := by decide +kernel
theorem d_Mo_cut_157 : decode c_Mo_cut 157 = .ok (.iconst 1, 1) := by decide +kernel
theorem d_Mo_cut_158 : decode c_Mo_cut 158 = .ok (.goto 4, 3) := by decide +kernel
theorem d_Mo_cut_161 : decode c_Mo_cut 161 = .ok (.iconst 0, 1) := by decide +kernel
theorem d_Mo_cut_162 : decode c_Mo_cut 162 = .ok (.ireturn, 1) := by decide +kernel
theorem d_Mo_drop_0 : decode c_Mo_drop 0 = .ok (.aload_n 0, 1) := by decide +kernel
theorem d_Mo_drop_1 : decode c_Mo_drop 1 = .ok (.getfield 13, 3) := by decide +kernel
theorem d_Mo_drop_4 : decode c_Mo_drop 4 = .ok (.iload_n 1, 1) := by decide +kernel
theorem d_Mo_drop_5 : decode c_Mo_drop 5 = .ok (.dup2, 1) := by decide +kernel
theorem d_Mo_drop_6 : decode c_Mo_drop 6 = .ok (.iaload, 1) := by decide +kernel
theorem d_Mo_drop_7 : decode c_Mo_drop 7 = .ok (.iload_n 2, 1) := by decide +kernel
theorem d_Mo_drop_8 : decode c_Mo_drop 8 = .ok (.isub, 1) := by decide +kernel
theorem d_Mo_drop_9 : decode c_Mo_drop 9 = .ok (.iastore, 1) := by decide +kernel
theorem d_Mo_drop_10 : decode c_Mo_drop 10 = .ok (.aload_n 0, 1) := by decide +kernel
theorem d_Mo_drop_11 : decode c_Mo_drop 11 = .ok (.getfield 16, 3) := by decide +kernel
theorem d_Mo_drop_14 : decode c_Mo_drop 14 = .ok (.iload_n 1, 1) := by decide +kernel
theorem d_Mo_drop_15 : decode c_Mo_drop 15 = .ok (.dup2, 1) := by decide +kernel
theorem d_Mo_drop_16 : decode c_Mo_drop 16 = .ok (.iaload, 1) := by decide +kernel
theorem d_Mo_drop_17 : decode c_Mo_drop 17 = .ok (.iload_n 2, 1) := by decide +kernel
theorem d_Mo_drop_18 : decode c_Mo_drop 18 = .ok (.iadd, 1) := by decide +kernel
theorem d_Mo_drop_19 : decode c_Mo_drop 19 = .ok (.iastore, 1) := by decide +kernel
theorem d_Mo_drop_20 : decode c_Mo_drop 20 = .ok (.iconst 0, 1) := by decide +kernel
theorem d_Mo_drop_21 : decode c_Mo_drop 21 = .ok (.istore_n 3, 1) := by decide +kernel
theorem d_Mo_drop_22 : decode c_Mo_drop 22 = .ok (.iload_n 3, 1) := by decide +kernel
theorem d_Mo_drop_23 : decode c_Mo_drop 23 = .ok (.aload_n 0, 1) := by decide +kernel
theorem d_Mo_drop_24 : decode c_Mo_drop 24 = .ok (.getfield 13, 3) := by decide +kernel
theorem d_Mo_drop_27 : decode c_Mo_drop 27 = .ok (.iload_n 1, 1) := by decide +kernel
theorem d_Mo_drop_28 : decode c_Mo_drop 28 = .ok (.iaload, 1) := by decide +kernel
theorem d_Mo_drop_29 : decode c_Mo_drop 29 = .ok (.if_icmp .ge 35, 3) := by decide +kernel
theorem d_Mo_drop_32 : decode c_Mo_drop 32 = .ok (.aload_n 0, 1) := by decide +kernel
theorem d_Mo_drop_33 : decode c_Mo_drop 33 = .ok (.getfield 7, 3) := by decide +kernel
theorem d_Mo_drop_36 : decode c_Mo_drop 36 = .ok (.sipush 320, 3) := by decide +kernel
theorem d_Mo_drop_39 : decode c_Mo_drop 39 = .ok (.iload_n 1, 1) := by decide +kernel
theorem d_Mo_drop_40 : decode c_Mo_drop 40 = .ok (.imul, 1) := by decide +kernel
theorem d_Mo_drop_41 : decode c_Mo_drop 41 = .ok (.iload_n 3, 1) := by decide +kernel
theorem d_Mo_drop_42 : decode c_Mo_drop 42 = .ok (.iadd, 1) := by decide +kernel
theorem d_Mo_drop_43 : decode c_Mo_drop 43 = .ok (.aload_n 0, 1) := by decide +kernel
theorem d_Mo_drop_44 : decode c_Mo_drop 44 = .ok (.getfield 7, 3) := by decide +kernel
theorem d_Mo_drop_47 : decode c_Mo_drop 47 = .ok (.sipush 320, 3) := by decide +kernel
theorem d_Mo_drop_50 : decode c_Mo_drop 50 = .ok (.iload_n 1, 1) := by decide +kernel
theorem d_Mo_drop_51 : decode c_Mo_drop 51 = .ok (.imul, 1) := by decide +kernel
theorem d_Mo_drop_52 : decode c_Mo_drop 52 = .ok (.iload_n 3, 1) := by decide +kernel
theorem d_Mo_drop_53 : decode c_Mo_drop 53 = .ok (.iadd, 1) := by decide +kernel
theorem d_Mo_drop_54 : decode c_Mo_drop 54 = .ok (.iload_n 2, 1) := by decide +kernel
theorem d_Mo_drop_55 : decode c_Mo_drop 55 = .ok (.iadd, 1) := by decide +kernel
theorem d_Mo_drop_56 : decode c_Mo_drop 56 = .ok (.iaload, 1) := by decide +kernel
theorem d_Mo_drop_57 : decode c_Mo_drop 57 = .ok (.iastore, 1) := by decide +kernel
theorem d_Mo_drop_58 : decode c_Mo_drop 58 = .ok (.iinc 3 1, 3) := by decide +kernel
theorem d_Mo_drop_61 : decode c_Mo_drop 61 = .ok (.goto (-39), 3) := by decide +kernel
theorem d_Mo_drop_64 : decode c_Mo_drop 64 = .ok (.return_, 1) := by decide +kernel
theorem d_Mo_kept_0 : decode c_Mo_kept 0 = .ok (.aload_n 0, 1) := by decide +kernel
theorem d_Mo_kept_1 : decode c_Mo_kept 1 = .ok (.dup, 1) := by decide +kernel
theorem d_Mo_kept_2 : decode c_Mo_kept 2 = .ok (.getfield 116, 3) := by decide +kernel
theorem d_Mo_kept_5 : decode c_Mo_kept 5 = .ok (.iconst 1, 1) := by decide +kernel
theorem d_Mo_kept_6 : decode c_Mo_kept 6 = .ok (.iadd, 1) := by decide +kernel
theorem d_Mo_kept_7 : decode c_Mo_kept 7 = .ok (.putfield 116, 3) := by decide +kernel
theorem d_Mo_kept_10 : decode c_Mo_kept 10 = .ok (.aload_n 0, 1) := by decide +kernel
theorem d_Mo_kept_11 : decode c_Mo_kept 11 = .ok (.getfield 37, 3) := by decide +kernel
theorem d_Mo_kept_14 : decode c_Mo_kept 14 = .ok (.aload_n 0, 1) := by decide +kernel
theorem d_Mo_kept_15 : decode c_Mo_kept 15 = .ok (.getfield 116, 3) := by decide +kernel
theorem d_Mo_kept_18 : decode c_Mo_kept 18 = .ok (.iload_n 1, 1) := by decide +kernel
theorem d_Mo_kept_19 : decode c_Mo_kept 19 = .ok (.iastore, 1) := by decide +kernel
theorem d_Mo_kept_20 : decode c_Mo_kept 20 = .ok (.iload_n 1, 1) := by decide +kernel
theorem d_Mo_kept_21 : decode c_Mo_kept 21 = .ok (.ifCond .eq 8, 3) := by decide +kernel
theorem d_Mo_kept_24 : decode c_Mo_kept 24 = .ok (.aload_n 0, 1) := by decide +kernel
theorem d_Mo_kept_25 : decode c_Mo_kept 25 = .ok (.getfield 116, 3) := by decide +kernel
theorem d_Mo_kept_28 : decode c_Mo_kept 28 = .ok (.ireturn, 1) := by decide +kernel
theorem d_Mo_kept_29 : decode c_Mo_kept 29 = .ok (.iconst 0, 1) := by decide +kernel
theorem d_Mo_kept_30 : decode c_Mo_kept 30 = .ok (.istore_n 2, 1) := by decide +kernel
theorem d_Mo_kept_31 : decode c_Mo_kept 31 = .ok (.iload_n 2, 1) := by decide +kernel
theorem d_Mo_kept_32 : decode c_Mo_kept 32 = .ok (.aload_n 0, 1) := by decide +kernel
theorem d_Mo_kept_33 : decode c_Mo_kept 33 = .ok (.getfield 13, 3) := by decide +kernel
theorem d_Mo_kept_36 : decode c_Mo_kept 36 = .ok (.iconst 2, 1) := by decide +kernel
theorem d_Mo_kept_37 : decode c_Mo_kept 37 = .ok (.iaload, 1) := by decide +kernel
theorem d_Mo_kept_38 : decode c_Mo_kept 38 = .ok (.if_icmp .ge 33, 3) := by decide +kernel
theorem d_Mo_kept_41 : decode c_Mo_kept 41 = .ok (.aload_n 0, 1) := by decide +kernel
theorem d_Mo_kept_42 : decode c_Mo_kept 42 = .ok (.getfield 25, 3) := by decide +kernel
theorem d_Mo_kept_45 : decode c_Mo_kept 45 = .ok (.bipush 31, 2) := by decide +kernel
theorem d_Mo_kept_47 : decode c_Mo_kept 47 = .ok (.aload_n 0, 1) := by decide +kernel
theorem d_Mo_kept_48 : decode c_Mo_kept 48 = .ok (.getfield 116, 3) := by decide +kernel
theorem d_Mo_kept_51 : decode c_Mo_kept 51 = .ok (.imul, 1) := by decide +kernel
theorem d_Mo_kept_52 : decode c_Mo_kept 52 = .ok (.iload_n 2, 1) := by decide +kernel
theorem d_Mo_kept_53 : decode c_Mo_kept 53 = .ok (.iadd, 1) := by decide +kernel
theorem d_Mo_kept_54 : decode c_Mo_kept 54 = .ok (.aload_n 0, 1) := by decide +kernel
theorem d_Mo_kept_55 : decode c_Mo_kept 55 = .ok (.getfield 7, 3) := by decide +kernel
theorem d_Mo_kept_58 : decode c_Mo_kept 58 = .ok (.sipush 640, 3) := by decide +kernel
theorem d_Mo_kept_61 : decode c_Mo_kept 61 = .ok (.iload_n 2, 1) := by decide +kernel
theorem d_Mo_kept_62 : decode c_Mo_kept 62 = .ok (.iadd, 1) := by decide +kernel
theorem d_Mo_kept_63 : decode c_Mo_kept 63 = .ok (.iaload, 1) := by decide +kernel
theorem d_Mo_kept_64 : decode c_Mo_kept 64 = .ok (.iastore, 1) := by decide +kernel
theorem d_Mo_kept_65 : decode c_Mo_kept 65 = .ok (.iinc 2 1, 3) := by decide +kernel
theorem d_Mo_kept_68 : decode c_Mo_kept 68 = .ok (.goto (-37), 3) := by decide +kernel
theorem d_Mo_kept_71 : decode c_Mo_kept 71 = .ok (.aload_n 0, 1) := by decide +kernel
theorem d_Mo_kept_72 : decode c_Mo_kept 72 = .ok (.getfield 28, 3) := by decide +kernel
theorem d_Mo_kept_75 : decode c_Mo_kept 75 = .ok (.aload_n 0, 1) := by decide +kernel
theorem d_Mo_kept_76 : decode c_Mo_kept 76 = .ok (.getfield 116, 3) := by decide +kernel
theorem d_Mo_kept_79 : decode c_Mo_kept 79 = .ok (.aload_n 0, 1) := by decide +kernel
theorem d_Mo_kept_80 : decode c_Mo_kept 80 = .ok (.getfield 13, 3) := by decide +kernel
theorem d_Mo_kept_83 : decode c_Mo_kept 83 = .ok (.iconst 2, 1) := by decide +kernel
theorem d_Mo_kept_84 : decode c_Mo_kept 84 = .ok (.iaload, 1) := by decide +kernel
theorem d_Mo_kept_85 : decode c_Mo_kept 85 = .ok (.iastore, 1) := by decide +kernel
theorem d_Mo_kept_86 : decode c_Mo_kept 86 = .ok (.aload_n 0, 1) := by decide +kernel
theorem d_Mo_kept_87 : decode c_Mo_kept 87 = .ok (.getfield 31, 3) := by decide +kernel
theorem d_Mo_kept_90 : decode c_Mo_kept 90 = .ok (.aload_n 0, 1) := by decide +kernel
theorem d_Mo_kept_91 : decode c_Mo_kept 91 = .ok (.getfield 116, 3) := by decide +kernel
theorem d_Mo_kept_94 : decode c_Mo_kept 94 = .ok (.aload_n 0, 1) := by decide +kernel
theorem d_Mo_kept_95 : decode c_Mo_kept 95 = .ok (.getfield 16, 3) := by decide +kernel
theorem d_Mo_kept_98 : decode c_Mo_kept 98 = .ok (.iconst 2, 1) := by decide +kernel
theorem d_Mo_kept_99 : decode c_Mo_kept 99 = .ok (.iaload, 1) := by decide +kernel
theorem d_Mo_kept_100 : decode c_Mo_kept 100 = .ok (.iastore, 1) := by decide +kernel
theorem d_Mo_kept_101 : decode c_Mo_kept 101 = .ok (.aload_n 0, 1) := by decide +kernel
theorem d_Mo_kept_102 : decode c_Mo_kept 102 = .ok (.getfield 34, 3) := by decide +kernel
theorem d_Mo_kept_105 : decode c_Mo_kept 105 = .ok (.aload_n 0, 1) := by decide +kernel
theorem d_Mo_kept_106 : decode c_Mo_kept 106 = .ok (.getfield 116, 3) := by decide +kernel
theorem d_Mo_kept_109 : decode c_Mo_kept 109 = .ok (.aload_n 0, 1) := by decide +kernel
theorem d_Mo_kept_110 : decode c_Mo_kept 110 = .ok (.getfield 19, 3) := by decide +kernel
theorem d_Mo_kept_113 : decode c_Mo_kept 113 = .ok (.iconst 2, 1) := by decide +kernel
theorem d_Mo_kept_114 : decode c_Mo_kept 114 = .ok (.iaload, 1) := by decide +kernel
theorem d_Mo_kept_115 : decode c_Mo_kept 115 = .ok (.iastore, 1) := by decide +kernel
theorem d_Mo_kept_116 : decode c_Mo_kept 116 = .ok (.aload_n 0, 1) := by decide +kernel
theorem d_Mo_kept_117 : decode c_Mo_kept 117 = .ok (.getfield 116, 3) := by decide +kernel
theorem d_Mo_kept_120 : decode c_Mo_kept 120 = .ok (.ireturn, 1) := by decide +kernel
theorem d_Mo_node_0 : decode c_Mo_node 0 = .ok (.aload_n 0, 1) := by decide +kernel
theorem d_Mo_node_1 : decode c_Mo_node 1 = .ok (.iconst 0, 1) := by decide +kernel
theorem d_Mo_node_2 : decode c_Mo_node 2 = .ok (.putfield 64, 3) := by decide +kernel
theorem d_Mo_node_5 : decode c_Mo_node 5 = .ok (.iload_n 1, 1) := by decide +kernel
theorem d_Mo_node_6 : decode c_Mo_node 6 = .ok (.ifCond .lt 8, 3) := by decide +kernel
theorem d_Mo_node_9 : decode c_Mo_node 9 = .ok (.iload_n 1, 1) := by decide +kernel
theorem d_Mo_node_10 : decode c_Mo_node 10 = .ok (.iconst 5, 1) := by decide +kernel
theorem d_Mo_node_11 : decode c_Mo_node 11 = .ok (.if_icmp .le 6, 3) := by decide +kernel
theorem d_Mo_node_14 : decode c_Mo_node 14 = .ok (.bipush (-4), 2) := by decide +kernel
theorem d_Mo_node_16 : decode c_Mo_node 16 = .ok (.ireturn, 1) := by decide +kernel
theorem d_Mo_node_17 : decode c_Mo_node 17 = .ok (.aload_n 0, 1) := by decide +kernel
theorem d_Mo_node_18 : decode c_Mo_node 18 = .ok (.iload_n 2, 1) := by decide +kernel
theorem d_Mo_node_19 : decode c_Mo_node 19 = .ok (.invokevirtual 128, 3) := by decide +kernel
theorem d_Mo_node_22 : decode c_Mo_node 22 = .ok (.ifCond .eq 16, 3) := by decide +kernel
theorem d_Mo_node_25 : decode c_Mo_node 25 = .ok (.iload_n 1, 1) := by decide +kernel
theorem d_Mo_node_26 : decode c_Mo_node 26 = .ok (.iconst 5, 1) := by decide +kernel
theorem d_Mo_node_27 : decode c_Mo_node 27 = .ok (.if_icmp .ge 14, 3) := by decide +kernel
theorem d_Mo_node_30 : decode c_Mo_node 30 = .ok (.aload_n 0, 1) := by decide +kernel
theorem d_Mo_node_31 : decode c_Mo_node 31 = .ok (.iload_n 3, 1) := by decide +kernel
theorem d_Mo_node_32 : decode c_Mo_node 32 = .ok (.invokevirtual 128, 3) := by decide +kernel
theorem d_Mo_node_35 : decode c_Mo_node 35 = .ok (.ifCond .ne 6, 3) := by decide +kernel
theorem d_Mo_node_38 : decode c_Mo_node 38 = .ok (.bipush (-2), 2) := by decide +kernel
theorem d_Mo_node_40 : decode c_Mo_node 40 = .ok (.ireturn, 1) := by decide +kernel
theorem d_Mo_node_41 : decode c_Mo_node 41 = .ok (.aload_n 0, 1) := by decide +kernel
theorem d_Mo_node_42 : decode c_Mo_node 42 = .ok (.getfield 116, 3) := by decide +kernel
theorem d_Mo_node_45 : decode c_Mo_node 45 = .ok (.bipush 100, 2) := by decide +kernel
theorem d_Mo_node_47 : decode c_Mo_node 47 = .ok (.if_icmp .ne 5, 3) := by decide +kernel
theorem d_Mo_node_50 : decode c_Mo_node 50 = .ok (.iconst (-1), 1) := by decide +kernel
theorem d_Mo_node_51 : decode c_Mo_node 51 = .ok (.ireturn, 1) := by decide +kernel
theorem d_Mo_node_52 : decode c_Mo_node 52 = .ok (.aload_n 0, 1) := by decide +kernel
theorem d_Mo_node_53 : decode c_Mo_node 53 = .ok (.getfield 37, 3) := by decide +kernel
theorem d_Mo_node_56 : decode c_Mo_node 56 = .ok (.iload_n 2, 1) := by decide +kernel
theorem d_Mo_node_57 : decode c_Mo_node 57 = .ok (.iaload, 1) := by decide +kernel
theorem d_Mo_node_58 : decode c_Mo_node 58 = .ok (.ifCond .eq 14, 3) := by decide +kernel
theorem d_Mo_node_61 : decode c_Mo_node 61 = .ok (.aload_n 0, 1) := by decide +kernel
theorem d_Mo_node_62 : decode c_Mo_node 62 = .ok (.aload_n 0, 1) := by decide +kernel
theorem d_Mo_node_63 : decode c_Mo_node 63 = .ok (.getfield 37, 3) := by decide +kernel
theorem d_Mo_node_66 : decode c_Mo_node 66 = .ok (.iload_n 2, 1) := by decide +kernel
theorem d_Mo_node_67 : decode c_Mo_node 67 = .ok (.iaload, 1) := by decide +kernel
theorem d_Mo_node_68 : decode c_Mo_node 68 = .ok (.invokevirtual 119, 3) := by decide +kernel
theorem d_Mo_node_71 : decode c_Mo_node 71 = .ok (.ireturn, 1) := by decide +kernel
theorem d_Mo_node_72 : decode c_Mo_node 72 = .ok (.iload_n 1, 1) := by decide +kernel
theorem d_Mo_node_73 : decode c_Mo_node 73 = .ok (.iconst 5, 1) := by decide +kernel
theorem d_Mo_node_74 : decode c_Mo_node 74 = .ok (.if_icmp .ge 23, 3) := by decide +kernel
theorem d_Mo_node_77 : decode c_Mo_node 77 = .ok (.aload_n 0, 1) := by decide +kernel
theorem d_Mo_node_78 : decode c_Mo_node 78 = .ok (.getfield 37, 3) := by decide +kernel
theorem d_Mo_node_81 : decode c_Mo_node 81 = .ok (.iload_n 3, 1) := by decide +kernel
theorem d_Mo_node_82 : decode c_Mo_node 82 = .ok (.iaload, 1) := by decide +kernel
theorem d_Mo_node_83 : decode c_Mo_node 83 = .ok (.ifCond .eq 14, 3) := by decide +kernel
theorem d_Mo_node_86 : decode c_Mo_node 86 = .ok (.aload_n 0, 1) := by decide +kernel
theorem d_Mo_node_87 : decode c_Mo_node 87 = .ok (.aload_n 0, 1) := by decide +kernel
theorem d_Mo_node_88 : decode c_Mo_node 88 = .ok (.getfield 37, 3) := by decide +kernel
theorem d_Mo_node_91 : decode c_Mo_node 91 = .ok (.iload_n 3, 1) := by decide +kernel
theorem d_Mo_node_92 : decode c_Mo_node 92 = .ok (.iaload, 1) := by decide +kernel
theorem d_Mo_node_93 : decode c_Mo_node 93 = .ok (.invokevirtual 119, 3) := by decide +kernel
theorem d_Mo_node_96 : decode c_Mo_node 96 = .ok (.ireturn, 1) := by decide +kernel
theorem d_Mo_node_97 : decode c_Mo_node 97 = .ok (.aload_n 0, 1) := by decide +kernel
theorem d_Mo_node_98 : decode c_Mo_node 98 = .ok (.iload_n 2, 1) := by decide +kernel
theorem d_Mo_node_99 : decode c_Mo_node 99 = .ok (.iconst 0, 1) := by decide +kernel
theorem d_Mo_node_100 : decode c_Mo_node 100 = .ok (.invokevirtual 132, 3) := by decide +kernel
theorem d_Mo_node_103 : decode c_Mo_node 103 = .ok (.iload_n 1, 1) := by decide +kernel
theorem d_Mo_node_104 : decode c_Mo_node 104 = .ok (.iconst 5, 1) := by decide +kernel
theorem d_Mo_node_105 : decode c_Mo_node 105 = .ok (.if_icmp .ge 9, 3) := by decide +kernel
theorem d_Mo_node_108 : decode c_Mo_node 108 = .ok (.aload_n 0, 1) := by decide +kernel
theorem d_Mo_node_109 : decode c_Mo_node 109 = .ok (.iload_n 3, 1) := by decide +kernel
theorem d_Mo_node_110 : decode c_Mo_node 110 = .ok (.iconst 1, 1) := by decide +kernel
theorem d_Mo_node_111 : decode c_Mo_node 111 = .ok (.invokevirtual 132, 3) := by decide +kernel
theorem d_Mo_node_114 : decode c_Mo_node 114 = .ok (.aload_n 0, 1) := by decide +kernel
theorem d_Mo_node_115 : decode c_Mo_node 115 = .ok (.aload_n 0, 1) := by decide +kernel
theorem d_Mo_node_116 : decode c_Mo_node 116 = .ok (.iload_n 1, 1) := by decide +kernel
theorem d_Mo_node_117 : decode c_Mo_node 117 = .ok (.invokevirtual 135, 3) := by decide +kernel
theorem d_Mo_node_120 : decode c_Mo_node 120 = .ok (.invokevirtual 119, 3) := by decide +kernel
theorem d_Mo_node_123 : decode c_Mo_node 123 = .ok (.ireturn, 1) := by decide +kernel
theorem d_Mo_isNode_0 : decode c_Mo_isNode 0 = .ok (.iload_n 1, 1) := by decide +kernel
theorem d_Mo_isNode_1 : decode c_Mo_isNode 1 = .ok (.ifCond .le 15, 3) := by decide +kernel
theorem d_Mo_isNode_4 : decode c_Mo_isNode 4 = .ok (.iload_n 1, 1) := by decide +kernel
theorem d_Mo_isNode_5 : decode c_Mo_isNode 5 = .ok (.aload_n 0, 1) := by decide +kernel
theorem d_Mo_isNode_6 : decode c_Mo_isNode 6 = .ok (.getfield 116, 3) := by decide +kernel
theorem d_Mo_isNode_9 : decode c_Mo_isNode 9 = .ok (.if_icmp .gt 7, 3) := by decide +kernel
theorem d_Mo_isNode_12 : decode c_Mo_isNode 12 = .ok (.iconst 1, 1) := by decide +kernel
theorem d_Mo_isNode_13 : decode c_Mo_isNode 13 = .ok (.goto 4, 3) := by decide +kernel
theorem d_Mo_isNode_16 : decode c_Mo_isNode 16 = .ok (.iconst 0, 1) := by decide +kernel
theorem d_Mo_isNode_17 : decode c_Mo_isNode 17 = .ok (.ireturn, 1) := by decide +kernel
theorem d_Mo_load_0 : decode c_Mo_load 0 = .ok (.iconst 0, 1) := by decide +kernel
theorem d_Mo_load_1 : decode c_Mo_load 1 = .ok (.istore_n 3, 1) := by decide +kernel
theorem d_Mo_load_2 : decode c_Mo_load 2 = .ok (.iload_n 3, 1) := by decide +kernel
theorem d_Mo_load_3 : decode c_Mo_load 3 = .ok (.aload_n 0, 1) := by decide +kernel
theorem d_Mo_load_4 : decode c_Mo_load 4 = .ok (.getfield 28, 3) := by decide +kernel
theorem d_Mo_load_7 : decode c_Mo_load 7 = .ok (.iload_n 1, 1) := by decide +kernel
theorem d_Mo_load_8 : decode c_Mo_load 8 = .ok (.iaload, 1) := by decide +kernel
theorem d_Mo_load_9 : decode c_Mo_load 9 = .ok (.if_icmp .ge 32, 3) := by decide +kernel
theorem d_Mo_load_12 : decode c_Mo_load 12 = .ok (.aload_n 0, 1) := by decide +kernel
theorem d_Mo_load_13 : decode c_Mo_load 13 = .ok (.getfield 7, 3) := by decide +kernel
theorem d_Mo_load_16 : decode c_Mo_load 16 = .ok (.sipush 320, 3) := by decide +kernel
theorem d_Mo_load_19 : decode c_Mo_load 19 = .ok (.iload_n 2, 1) := by decide +kernel
theorem d_Mo_load_20 : decode c_Mo_load 20 = .ok (.imul, 1) := by decide +kernel
theorem d_Mo_load_21 : decode c_Mo_load 21 = .ok (.iload_n 3, 1) := by decide +kernel
theorem d_Mo_load_22 : decode c_Mo_load 22 = .ok (.iadd, 1) := by decide +kernel
theorem d_Mo_load_23 : decode c_Mo_load 23 = .ok (.aload_n 0, 1) := by decide +kernel
theorem d_Mo_load_24 : decode c_Mo_load 24 = .ok (.getfield 25, 3) := by decide +kernel
theorem d_Mo_load_27 : decode c_Mo_load 27 = .ok (.bipush 31, 2) := by decide +kernel
theorem d_Mo_load_29 : decode c_Mo_load 29 = .ok (.iload_n 1, 1) := by decide +kernel
theorem d_Mo_load_30 : decode c_Mo_load 30 = .ok (.imul, 1) := by decide +kernel
theorem d_Mo_load_31 : decode c_Mo_load 31 = .ok (.iload_n 3, 1) := by decide +kernel
theorem d_Mo_load_32 : decode c_Mo_load 32 = .ok (.iadd, 1) := by decide +kernel
theorem d_Mo_load_33 : decode c_Mo_load 33 = .ok (.iaload, 1) := by decide +kernel
theorem d_Mo_load_34 : decode c_Mo_load 34 = .ok (.iastore, 1) := by decide +kernel
theorem d_Mo_load_35 : decode c_Mo_load 35 = .ok (.iinc 3 1, 3) := by decide +kernel
theorem d_Mo_load_38 : decode c_Mo_load 38 = .ok (.goto (-36), 3) := by decide +kernel
theorem d_Mo_load_41 : decode c_Mo_load 41 = .ok (.aload_n 0, 1) := by decide +kernel
theorem d_Mo_load_42 : decode c_Mo_load 42 = .ok (.getfield 13, 3) := by decide +kernel
theorem d_Mo_load_45 : decode c_Mo_load 45 = .ok (.iload_n 2, 1) := by decide +kernel
theorem d_Mo_load_46 : decode c_Mo_load 46 = .ok (.aload_n 0, 1) := by decide +kernel
theorem d_Mo_load_47 : decode c_Mo_load 47 = .ok (.getfield 28, 3) := by decide +kernel
theorem d_Mo_load_50 : decode c_Mo_load 50 = .ok (.iload_n 1, 1) := by decide +kernel
theorem d_Mo_load_51 : decode c_Mo_load 51 = .ok (.iaload, 1) := by decide +kernel
theorem d_Mo_load_52 : decode c_Mo_load 52 = .ok (.iastore, 1) := by decide +kernel
theorem d_Mo_load_53 : decode c_Mo_load 53 = .ok (.aload_n 0, 1) := by decide +kernel
theorem d_Mo_load_54 : decode c_Mo_load 54 = .ok (.getfield 16, 3) := by decide +kernel
theorem d_Mo_load_57 : decode c_Mo_load 57 = .ok (.iload_n 2, 1) := by decide +kernel
theorem d_Mo_load_58 : decode c_Mo_load 58 = .ok (.aload_n 0, 1) := by decide +kernel
theorem d_Mo_load_59 : decode c_Mo_load 59 = .ok (.getfield 31, 3) := by decide +kernel
theorem d_Mo_load_62 : decode c_Mo_load 62 = .ok (.iload_n 1, 1) := by decide +kernel
theorem d_Mo_load_63 : decode c_Mo_load 63 = .ok (.iaload, 1) := by decide +kernel
theorem d_Mo_load_64 : decode c_Mo_load 64 = .ok (.iastore, 1) := by decide +kernel
theorem d_Mo_load_65 : decode c_Mo_load 65 = .ok (.aload_n 0, 1) := by decide +kernel
theorem d_Mo_load_66 : decode c_Mo_load 66 = .ok (.getfield 19, 3) := by decide +kernel
theorem d_Mo_load_69 : decode c_Mo_load 69 = .ok (.iload_n 2, 1) := by decide +kernel
theorem d_Mo_load_70 : decode c_Mo_load 70 = .ok (.aload_n 0, 1) := by decide +kernel
theorem d_Mo_load_71 : decode c_Mo_load 71 = .ok (.getfield 34, 3) := by decide +kernel
theorem d_Mo_load_74 : decode c_Mo_load 74 = .ok (.iload_n 1, 1) := by decide +kernel
theorem d_Mo_load_75 : decode c_Mo_load 75 = .ok (.iaload, 1) := by decide +kernel
theorem d_Mo_load_76 : decode c_Mo_load 76 = .ok (.iastore, 1) := by decide +kernel
theorem d_Mo_load_77 : decode c_Mo_load 77 = .ok (.return_, 1) := by decide +kernel
theorem d_Mo_operated_0 : decode c_Mo_operated 0 = .ok (.iload_n 1, 1) := by decide +kernel
theorem d_Mo_operated_1 : decode c_Mo_operated 1 = .ok (.tableswitch 74 0 4 #[35, 40, 59, 64, 69], 35) := by decide +kernel
theorem d_Mo_operated_36 : decode c_Mo_operated 36 = .ok (.aload_n 0, 1) := by decide +kernel
theorem d_Mo_operated_37 : decode c_Mo_operated 37 = .ok (.invokevirtual 122, 3) := by decide +kernel
theorem d_Mo_operated_40 : decode c_Mo_operated 40 = .ok (.ireturn, 1) := by decide +kernel
theorem d_Mo_operated_41 : decode c_Mo_operated 41 = .ok (.aload_n 0, 1) := by decide +kernel
theorem d_Mo_operated_42 : decode c_Mo_operated 42 = .ok (.getfield 19, 3) := by decide +kernel
theorem d_Mo_operated_45 : decode c_Mo_operated 45 = .ok (.iconst 1, 1) := by decide +kernel
theorem d_Mo_operated_46 : decode c_Mo_operated 46 = .ok (.iconst 0, 1) := by decide +kernel
theorem d_Mo_operated_47 : decode c_Mo_operated 47 = .ok (.aload_n 0, 1) := by decide +kernel
theorem d_Mo_operated_48 : decode c_Mo_operated 48 = .ok (.getfield 19, 3) := by decide +kernel
theorem d_Mo_operated_51 : decode c_Mo_operated 51 = .ok (.iconst 1, 1) := by decide +kernel
theorem d_Mo_operated_52 : decode c_Mo_operated 52 = .ok (.iaload, 1) := by decide +kernel
theorem d_Mo_operated_53 : decode c_Mo_operated 53 = .ok (.isub, 1) := by decide +kernel
theorem d_Mo_operated_54 : decode c_Mo_operated 54 = .ok (.iastore, 1) := by decide +kernel
theorem d_Mo_operated_55 : decode c_Mo_operated 55 = .ok (.aload_n 0, 1) := by decide +kernel
theorem d_Mo_operated_56 : decode c_Mo_operated 56 = .ok (.invokevirtual 122, 3) := by decide +kernel
theorem d_Mo_operated_59 : decode c_Mo_operated 59 = .ok (.ireturn, 1) := by decide +kernel
theorem d_Mo_operated_60 : decode c_Mo_operated 60 = .ok (.aload_n 0, 1) := by decide +kernel
theorem d_Mo_operated_61 : decode c_Mo_operated 61 = .ok (.invokevirtual 110, 3) := by decide +kernel
theorem d_Mo_operated_64 : decode c_Mo_operated 64 = .ok (.ireturn, 1) := by decide +kernel
theorem d_Mo_operated_65 : decode c_Mo_operated 65 = .ok (.aload_n 0, 1) := by decide +kernel
theorem d_Mo_operated_66 : decode c_Mo_operated 66 = .ok (.invokevirtual 113, 3) := by decide +kernel
theorem d_Mo_operated_69 : decode c_Mo_operated 69 = .ok (.ireturn, 1) := by decide +kernel
theorem d_Mo_operated_70 : decode c_Mo_operated 70 = .ok (.aload_n 0, 1) := by decide +kernel
theorem d_Mo_operated_71 : decode c_Mo_operated 71 = .ok (.invokevirtual 125, 3) := by decide +kernel
theorem d_Mo_operated_74 : decode c_Mo_operated 74 = .ok (.ireturn, 1) := by decide +kernel
theorem d_Mo_operated_75 : decode c_Mo_operated 75 = .ok (.aload_n 0, 1) := by decide +kernel
theorem d_Mo_operated_76 : decode c_Mo_operated 76 = .ok (.iconst 0, 1) := by decide +kernel
theorem d_Mo_operated_77 : decode c_Mo_operated 77 = .ok (.iconst 2, 1) := by decide +kernel
theorem d_Mo_operated_78 : decode c_Mo_operated 78 = .ok (.invokevirtual 81, 3) := by decide +kernel
theorem d_Mo_operated_81 : decode c_Mo_operated 81 = .ok (.aload_n 0, 1) := by decide +kernel
theorem d_Mo_operated_82 : decode c_Mo_operated 82 = .ok (.getfield 19, 3) := by decide +kernel
theorem d_Mo_operated_85 : decode c_Mo_operated 85 = .ok (.iconst 2, 1) := by decide +kernel
theorem d_Mo_operated_86 : decode c_Mo_operated 86 = .ok (.iconst 0, 1) := by decide +kernel
theorem d_Mo_operated_87 : decode c_Mo_operated 87 = .ok (.aload_n 0, 1) := by decide +kernel
theorem d_Mo_operated_88 : decode c_Mo_operated 88 = .ok (.getfield 19, 3) := by decide +kernel
theorem d_Mo_operated_91 : decode c_Mo_operated 91 = .ok (.iconst 2, 1) := by decide +kernel
theorem d_Mo_operated_92 : decode c_Mo_operated 92 = .ok (.iaload, 1) := by decide +kernel
theorem d_Mo_operated_93 : decode c_Mo_operated 93 = .ok (.isub, 1) := by decide +kernel
theorem d_Mo_operated_94 : decode c_Mo_operated 94 = .ok (.iastore, 1) := by decide +kernel
theorem d_Mo_operated_95 : decode c_Mo_operated 95 = .ok (.iconst 0, 1) := by decide +kernel
theorem d_Mo_operated_96 : decode c_Mo_operated 96 = .ok (.ireturn, 1) := by decide +kernel
theorem d_Mo_add_0 : decode c_Mo_add 0 = .ok (.aload_n 0, 1) := by decide +kernel
theorem d_Mo_add_1 : decode c_Mo_add 1 = .ok (.getfield 13, 3) := by decide +kernel
theorem d_Mo_add_4 : decode c_Mo_add 4 = .ok (.iconst 0, 1) := by decide +kernel
theorem d_Mo_add_5 : decode c_Mo_add 5 = .ok (.iaload, 1) := by decide +kernel
theorem d_Mo_add_6 : decode c_Mo_add 6 = .ok (.ifCond .eq 12, 3) := by decide +kernel
theorem d_Mo_add_9 : decode c_Mo_add 9 = .ok (.aload_n 0, 1) := by decide +kernel
theorem d_Mo_add_10 : decode c_Mo_add 10 = .ok (.getfield 13, 3) := by decide +kernel
theorem d_Mo_add_13 : decode c_Mo_add 13 = .ok (.iconst 1, 1) := by decide +kernel
theorem d_Mo_add_14 : decode c_Mo_add 14 = .ok (.iaload, 1) := by decide +kernel
theorem d_Mo_add_15 : decode c_Mo_add 15 = .ok (.ifCond .ne 32, 3) := by decide +kernel
theorem d_Mo_add_18 : decode c_Mo_add 18 = .ok (.aload_n 0, 1) := by decide +kernel
theorem d_Mo_add_19 : decode c_Mo_add 19 = .ok (.aload_n 0, 1) := by decide +kernel
theorem d_Mo_add_20 : decode c_Mo_add 20 = .ok (.getfield 13, 3) := by decide +kernel
theorem d_Mo_add_23 : decode c_Mo_add 23 = .ok (.iconst 0, 1) := by decide +kernel
theorem d_Mo_add_24 : decode c_Mo_add 24 = .ok (.iaload, 1) := by decide +kernel
theorem d_Mo_add_25 : decode c_Mo_add 25 = .ok (.ifCond .ne 7, 3) := by decide +kernel
theorem d_Mo_add_28 : decode c_Mo_add 28 = .ok (.iconst 1, 1) := by decide +kernel
theorem d_Mo_add_29 : decode c_Mo_add 29 = .ok (.goto 4, 3) := by decide +kernel
theorem d_Mo_add_32 : decode c_Mo_add 32 = .ok (.iconst 0, 1) := by decide +kernel
theorem d_Mo_add_33 : decode c_Mo_add 33 = .ok (.iconst 2, 1) := by decide +kernel
theorem d_Mo_add_34 : decode c_Mo_add 34 = .ok (.invokevirtual 81, 3) := by decide +kernel
theorem d_Mo_add_37 : decode c_Mo_add 37 = .ok (.aload_n 0, 1) := by decide +kernel
theorem d_Mo_add_38 : decode c_Mo_add 38 = .ok (.iconst 2, 1) := by decide +kernel
theorem d_Mo_add_39 : decode c_Mo_add 39 = .ok (.aload_n 0, 1) := by decide +kernel
theorem d_Mo_add_40 : decode c_Mo_add 40 = .ok (.getfield 60, 3) := by decide +kernel
theorem d_Mo_add_43 : decode c_Mo_add 43 = .ok (.invokevirtual 84, 3) := by decide +kernel
theorem d_Mo_add_46 : decode c_Mo_add 46 = .ok (.ireturn, 1) := by decide +kernel
theorem d_Mo_add_47 : decode c_Mo_add 47 = .ok (.aload_n 0, 1) := by decide +kernel
theorem d_Mo_add_48 : decode c_Mo_add 48 = .ok (.getfield 16, 3) := by decide +kernel
theorem d_Mo_add_51 : decode c_Mo_add 51 = .ok (.iconst 0, 1) := by decide +kernel
theorem d_Mo_add_52 : decode c_Mo_add 52 = .ok (.iaload, 1) := by decide +kernel
theorem d_Mo_add_53 : decode c_Mo_add 53 = .ok (.aload_n 0, 1) := by decide +kernel
theorem d_Mo_add_54 : decode c_Mo_add 54 = .ok (.getfield 16, 3) := by decide +kernel
theorem d_Mo_add_57 : decode c_Mo_add 57 = .ok (.iconst 1, 1) := by decide +kernel
theorem d_Mo_add_58 : decode c_Mo_add 58 = .ok (.iaload, 1) := by decide +kernel
theorem d_Mo_add_59 : decode c_Mo_add 59 = .ok (.if_icmp .ge 12, 3) := by decide +kernel
theorem d_Mo_add_62 : decode c_Mo_add 62 = .ok (.aload_n 0, 1) := by decide +kernel
theorem d_Mo_add_63 : decode c_Mo_add 63 = .ok (.getfield 16, 3) := by decide +kernel
theorem d_Mo_add_66 : decode c_Mo_add 66 = .ok (.iconst 0, 1) := by decide +kernel
theorem d_Mo_add_67 : decode c_Mo_add 67 = .ok (.iaload, 1) := by decide +kernel
theorem d_Mo_add_68 : decode c_Mo_add 68 = .ok (.goto 9, 3) := by decide +kernel
theorem d_Mo_add_71 : decode c_Mo_add 71 = .ok (.aload_n 0, 1) := by decide +kernel
theorem d_Mo_add_72 : decode c_Mo_add 72 = .ok (.getfield 16, 3) := by decide +kernel
theorem d_Mo_add_75 : decode c_Mo_add 75 = .ok (.iconst 1, 1) := by decide +kernel
theorem d_Mo_add_76 : decode c_Mo_add 76 = .ok (.iaload, 1) := by decide +kernel
theorem d_Mo_add_77 : decode c_Mo_add 77 = .ok (.istore_n 1, 1) := by decide +kernel
theorem d_Mo_add_78 : decode c_Mo_add 78 = .ok (.aload_n 0, 1) := by decide +kernel
theorem d_Mo_add_79 : decode c_Mo_add 79 = .ok (.iconst 0, 1) := by decide +kernel
theorem d_Mo_add_80 : decode c_Mo_add 80 = .ok (.invokevirtual 87, 3) := by decide +kernel
theorem d_Mo_add_83 : decode c_Mo_add 83 = .ok (.aload_n 0, 1) := by decide +kernel
theorem d_Mo_add_84 : decode c_Mo_add 84 = .ok (.iconst 1, 1) := by decide +kernel
theorem d_Mo_add_85 : decode c_Mo_add 85 = .ok (.invokevirtual 87, 3) := by decide +kernel
theorem d_Mo_add_88 : decode c_Mo_add 88 = .ok (.if_icmp .le 11, 3) := by decide +kernel
theorem d_Mo_add_91 : decode c_Mo_add 91 = .ok (.aload_n 0, 1) := by decide +kernel
theorem d_Mo_add_92 : decode c_Mo_add 92 = .ok (.iconst 0, 1) := by decide +kernel
theorem d_Mo_add_93 : decode c_Mo_add 93 = .ok (.invokevirtual 87, 3) := by decide +kernel
theorem d_Mo_add_96 : decode c_Mo_add 96 = .ok (.goto 8, 3) := by decide +kernel
theorem d_Mo_add_99 : decode c_Mo_add 99 = .ok (.aload_n 0, 1) := by decide +kernel
theorem d_Mo_add_100 : decode c_Mo_add 100 = .ok (.iconst 1, 1) := by decide +kernel
theorem d_Mo_add_101 : decode c_Mo_add 101 = .ok (.invokevirtual 87, 3) := by decide +kernel
theorem d_Mo_add_104 : decode c_Mo_add 104 = .ok (.iconst 1, 1) := by decide +kernel
theorem d_Mo_add_105 : decode c_Mo_add 105 = .ok (.iadd, 1) := by decide +kernel
theorem d_Mo_add_106 : decode c_Mo_add 106 = .ok (.istore_n 2, 1) := by decide +kernel
theorem d_Mo_add_107 : decode c_Mo_add 107 = .ok (.aload_n 0, 1) := by decide +kernel
theorem d_Mo_add_108 : decode c_Mo_add 108 = .ok (.getfield 19, 3) := by decide +kernel
theorem d_Mo_add_111 : decode c_Mo_add 111 = .ok (.iconst 0, 1) := by decide +kernel
theorem d_Mo_add_112 : decode c_Mo_add 112 = .ok (.iaload, 1) := by decide +kernel
theorem d_Mo_add_113 : decode c_Mo_add 113 = .ok (.aload_n 0, 1) := by decide +kernel
theorem d_Mo_add_114 : decode c_Mo_add 114 = .ok (.getfield 19, 3) := by decide +kernel
theorem d_Mo_add_117 : decode c_Mo_add 117 = .ok (.iconst 1, 1) := by decide +kernel
theorem d_Mo_add_118 : decode c_Mo_add 118 = .ok (.iaload, 1) := by decide +kernel
theorem d_Mo_add_119 : decode c_Mo_add 119 = .ok (.if_icmp .ne 7, 3) := by decide +kernel
theorem d_Mo_add_122 : decode c_Mo_add 122 = .ok (.iconst 1, 1) := by decide +kernel
theorem d_Mo_add_123 : decode c_Mo_add 123 = .ok (.goto 4, 3) := by decide +kernel
theorem d_Mo_add_126 : decode c_Mo_add 126 = .ok (.iconst 0, 1) := by decide +kernel
theorem d_Mo_add_127 : decode c_Mo_add 127 = .ok (.istore_n 3, 1) := by decide +kernel
theorem d_Mo_add_128 : decode c_Mo_add 128 = .ok (.aload_n 0, 1) := by decide +kernel
theorem d_Mo_add_129 : decode c_Mo_add 129 = .ok (.iconst 0, 1) := by decide +kernel
theorem d_Mo_add_130 : decode c_Mo_add 130 = .ok (.iconst 1, 1) := by decide +kernel
theorem d_Mo_add_131 : decode c_Mo_add 131 = .ok (.iload_n 1, 1) := by decide +kernel
theorem d_Mo_add_132 : decode c_Mo_add 132 = .ok (.iload_n 2, 1) := by decide +kernel
theorem d_Mo_add_133 : decode c_Mo_add 133 = .ok (.invokevirtual 91, 3) := by decide +kernel
theorem d_Mo_add_136 : decode c_Mo_add 136 = .ok (.istore 4, 2) := by decide +kernel
theorem d_Mo_add_138 : decode c_Mo_add 138 = .ok (.iload 4, 2) := by decide +kernel
theorem d_Mo_add_140 : decode c_Mo_add 140 = .ok (.ifCond .ge 7, 3) := by decide +kernel
theorem d_Mo_add_143 : decode c_Mo_add 143 = .ok (.iconst 1, 1) := by decide +kernel
theorem d_Mo_add_144 : decode c_Mo_add 144 = .ok (.goto 4, 3) := by decide +kernel
theorem d_Mo_add_147 : decode c_Mo_add 147 = .ok (.iconst 0, 1) := by decide +kernel
theorem d_Mo_add_148 : decode c_Mo_add 148 = .ok (.istore 5, 2) := by decide +kernel
theorem d_Mo_add_150 : decode c_Mo_add 150 = .ok (.iload 4, 2) := by decide +kernel
theorem d_Mo_add_152 : decode c_Mo_add 152 = .ok (.ifCond .ge 7, 3) := by decide +kernel
theorem d_Mo_add_155 : decode c_Mo_add 155 = .ok (.iconst 0, 1) := by decide +kernel
theorem d_Mo_add_156 : decode c_Mo_add 156 = .ok (.goto 4, 3) := by decide +kernel
theorem d_Mo_add_159 : decode c_Mo_add 159 = .ok (.iconst 1, 1) := by decide +kernel
theorem d_Mo_add_160 : decode c_Mo_add 160 = .ok (.istore 6, 2) := by decide +kernel
theorem d_Mo_add_162 : decode c_Mo_add 162 = .ok (.iconst 0, 1) := by decide +kernel
theorem d_Mo_add_163 : decode c_Mo_add 163 = .ok (.istore 7, 2) := by decide +kernel
theorem d_Mo_add_165 : decode c_Mo_add 165 = .ok (.iload_n 1, 1) := by decide +kernel
theorem d_Mo_add_166 : decode c_Mo_add 166 = .ok (.istore 8, 2) := by decide +kernel
theorem d_Mo_add_168 : decode c_Mo_add 168 = .ok (.iload 8, 2) := by decide +kernel
theorem d_Mo_add_170 : decode c_Mo_add 170 = .ok (.iload_n 2, 1) := by decide +kernel
theorem d_Mo_add_171 : decode c_Mo_add 171 = .ok (.if_icmp .ge 92, 3) := by decide +kernel
theorem d_Mo_add_174 : decode c_Mo_add 174 = .ok (.aload_n 0, 1) := by decide +kernel
theorem d_Mo_add_175 : decode c_Mo_add 175 = .ok (.iload 5, 2) := by decide +kernel
theorem d_Mo_add_177 : decode c_Mo_add 177 = .ok (.iload 8, 2) := by decide +kernel
theorem d_Mo_add_179 : decode c_Mo_add 179 = .ok (.invokevirtual 77, 3) := by decide +kernel
theorem d_Mo_add_182 : decode c_Mo_add 182 = .ok (.iload_n 3, 1) := by decide +kernel
theorem d_Mo_add_183 : decode c_Mo_add 183 = .ok (.ifCond .eq 14, 3) := by decide +kernel
theorem d_Mo_add_186 : decode c_Mo_add 186 = .ok (.aload_n 0, 1) := by decide +kernel
theorem d_Mo_add_187 : decode c_Mo_add 187 = .ok (.iload 6, 2) := by decide +kernel
theorem d_Mo_add_189 : decode c_Mo_add 189 = .ok (.iload 8, 2) := by decide +kernel
theorem d_Mo_add_191 : decode c_Mo_add 191 = .ok (.invokevirtual 77, 3) := by decide +kernel
theorem d_Mo_add_194 : decode c_Mo_add 194 = .ok (.goto 13, 3) := by decide +kernel
theorem d_Mo_add_197 : decode c_Mo_add 197 = .ok (.iconst 0, 1) := by decide +kernel
theorem d_Mo_add_198 : decode c_Mo_add 198 = .ok (.aload_n 0, 1) := by decide +kernel
theorem d_Mo_add_199 : decode c_Mo_add 199 = .ok (.iload 6, 2) := by decide +kernel
theorem d_Mo_add_201 : decode c_Mo_add 201 = .ok (.iload 8, 2) := by decide +kernel
theorem d_Mo_add_203 : decode c_Mo_add 203 = .ok (.invokevirtual 77, 3) := by decide +kernel
theorem d_Mo_add_206 : decode c_Mo_add 206 = .ok (.isub, 1) := by decide +kernel
theorem d_Mo_add_207 : decode c_Mo_add 207 = .ok (.iadd, 1) := by decide +kernel
theorem d_Mo_add_208 : decode c_Mo_add 208 = .ok (.iload 7, 2) := by decide +kernel
theorem d_Mo_add_210 : decode c_Mo_add 210 = .ok (.iadd, 1) := by decide +kernel
theorem d_Mo_add_211 : decode c_Mo_add 211 = .ok (.istore 9, 2) := by decide +kernel
theorem d_Mo_add_213 : decode c_Mo_add 213 = .ok (.iload 9, 2) := by decide +kernel
theorem d_Mo_add_215 : decode c_Mo_add 215 = .ok (.ifCond .ge 7, 3) := by decide +kernel
theorem d_Mo_add_218 : decode c_Mo_add 218 = .ok (.iconst (-1), 1) := by decide +kernel
theorem d_Mo_add_219 : decode c_Mo_add 219 = .ok (.goto 15, 3) := by decide +kernel
theorem d_Mo_add_222 : decode c_Mo_add 222 = .ok (.iload 9, 2) := by decide +kernel
theorem d_Mo_add_224 : decode c_Mo_add 224 = .ok (.bipush 9, 2) := by decide +kernel
theorem d_Mo_add_226 : decode c_Mo_add 226 = .ok (.if_icmp .le 7, 3) := by decide +kernel
theorem d_Mo_add_229 : decode c_Mo_add 229 = .ok (.iconst 1, 1) := by decide +kernel
theorem d_Mo_add_230 : decode c_Mo_add 230 = .ok (.goto 4, 3) := by decide +kernel
theorem d_Mo_add_233 : decode c_Mo_add 233 = .ok (.iconst 0, 1) := by decide +kernel
theorem d_Mo_add_234 : decode c_Mo_add 234 = .ok (.istore 7, 2) := by decide +kernel
theorem d_Mo_add_236 : decode c_Mo_add 236 = .ok (.aload_n 0, 1) := by decide +kernel
theorem d_Mo_add_237 : decode c_Mo_add 237 = .ok (.getfield 7, 3) := by decide +kernel
theorem d_Mo_add_240 : decode c_Mo_add 240 = .ok (.sipush 640, 3) := by decide +kernel
theorem d_Mo_add_243 : decode c_Mo_add 243 = .ok (.iload 8, 2) := by decide +kernel
theorem d_Mo_add_245 : decode c_Mo_add 245 = .ok (.iadd, 1) := by decide +kernel
theorem d_Mo_add_246 : decode c_Mo_add 246 = .ok (.iload_n 1, 1) := by decide +kernel
theorem d_Mo_add_247 : decode c_Mo_add 247 = .ok (.isub, 1) := by decide +kernel
theorem d_Mo_add_248 : decode c_Mo_add 248 = .ok (.iload 9, 2) := by decide +kernel
theorem d_Mo_add_250 : decode c_Mo_add 250 = .ok (.bipush 10, 2) := by decide +kernel
theorem d_Mo_add_252 : decode c_Mo_add 252 = .ok (.iload 7, 2) := by decide +kernel
theorem d_Mo_add_254 : decode c_Mo_add 254 = .ok (.imul, 1) := by decide +kernel
theorem d_Mo_add_255 : decode c_Mo_add 255 = .ok (.isub, 1) := by decide +kernel
theorem d_Mo_add_256 : decode c_Mo_add 256 = .ok (.iastore, 1) := by decide +kernel
theorem d_Mo_add_257 : decode c_Mo_add 257 = .ok (.iinc 8 1, 3) := by decide +kernel
theorem d_Mo_add_260 : decode c_Mo_add 260 = .ok (.goto (-92), 3) := by decide +kernel
theorem d_Mo_add_263 : decode c_Mo_add 263 = .ok (.aload_n 0, 1) := by decide +kernel
theorem d_Mo_add_264 : decode c_Mo_add 264 = .ok (.getfield 13, 3) := by decide +kernel
theorem d_Mo_add_267 : decode c_Mo_add 267 = .ok (.iconst 2, 1) := by decide +kernel
theorem d_Mo_add_268 : decode c_Mo_add 268 = .ok (.iload_n 2, 1) := by decide +kernel
theorem d_Mo_add_269 : decode c_Mo_add 269 = .ok (.iload_n 1, 1) := by decide +kernel
theorem d_Mo_add_270 : decode c_Mo_add 270 = .ok (.isub, 1) := by decide +kernel
theorem d_Mo_add_271 : decode c_Mo_add 271 = .ok (.iastore, 1) := by decide +kernel
theorem d_Mo_add_272 : decode c_Mo_add 272 = .ok (.aload_n 0, 1) := by decide +kernel
theorem d_Mo_add_273 : decode c_Mo_add 273 = .ok (.getfield 16, 3) := by decide +kernel
theorem d_Mo_add_276 : decode c_Mo_add 276 = .ok (.iconst 2, 1) := by decide +kernel
theorem d_Mo_add_277 : decode c_Mo_add 277 = .ok (.iload_n 1, 1) := by decide +kernel
theorem d_Mo_add_278 : decode c_Mo_add 278 = .ok (.iastore, 1) := by decide +kernel
theorem d_Mo_add_279 : decode c_Mo_add 279 = .ok (.aload_n 0, 1) := by decide +kernel
theorem d_Mo_add_280 : decode c_Mo_add 280 = .ok (.getfield 19, 3) := by decide +kernel
theorem d_Mo_add_283 : decode c_Mo_add 283 = .ok (.iconst 2, 1) := by decide +kernel
theorem d_Mo_add_284 : decode c_Mo_add 284 = .ok (.aload_n 0, 1) := by decide +kernel
theorem d_Mo_add_285 : decode c_Mo_add 285 = .ok (.getfield 19, 3) := by decide +kernel
theorem d_Mo_add_288 : decode c_Mo_add 288 = .ok (.iload 5, 2) := by decide +kernel
theorem d_Mo_add_290 : decode c_Mo_add 290 = .ok (.iaload, 1) := by decide +kernel
theorem d_Mo_add_291 : decode c_Mo_add 291 = .ok (.iastore, 1) := by decide +kernel
theorem d_Mo_add_292 : decode c_Mo_add 292 = .ok (.aload_n 0, 1) := by decide +kernel
theorem d_Mo_add_293 : decode c_Mo_add 293 = .ok (.iconst 2, 1) := by decide +kernel
theorem d_Mo_add_294 : decode c_Mo_add 294 = .ok (.aload_n 0, 1) := by decide +kernel
theorem d_Mo_add_295 : decode c_Mo_add 295 = .ok (.getfield 60, 3) := by decide +kernel
theorem d_Mo_add_298 : decode c_Mo_add 298 = .ok (.invokevirtual 84, 3) := by decide +kernel
theorem d_Mo_add_301 : decode c_Mo_add 301 = .ok (.ireturn, 1) := by decide +kernel
end
section
theorem d_Mo_copy_0 : decode c_Mo_copy 0 = .ok (.iconst 0, 1) := by decide +kernel
theorem d_Mo_copy_1 : decode c_Mo_copy 1 = .ok (.istore_n 3, 1) := by decide +kernel
theorem d_Mo_copy_2 : decode c_Mo_copy 2 = .ok (.iload_n 3, 1) := by decide +kernel
theorem d_Mo_copy_3 : decode c_Mo_copy 3 = .ok (.aload_n 0, 1) := by decide +kernel
theorem d_Mo_copy_4 : decode c_Mo_copy 4 = .ok (.getfield 13, 3) := by decide +kernel
theorem d_Mo_copy_7 : decode c_Mo_copy 7 = .ok (.iload_n 1, 1) := by decide +kernel
theorem d_Mo_copy_8 : decode c_Mo_copy 8 = .ok (.iaload, 1) := by decide +kernel
theorem d_Mo_copy_9 : decode c_Mo_copy 9 = .ok (.if_icmp .ge 33, 3) := by decide +kernel
theorem d_Mo_copy_12 : decode c_Mo_copy 12 = .ok (.aload_n 0, 1) := by decide +kernel
theorem d_Mo_copy_13 : decode c_Mo_copy 13 = .ok (.getfield 7, 3) := by decide +kernel
theorem d_Mo_copy_16 : decode c_Mo_copy 16 = .ok (.sipush 320, 3) := by decide +kernel
theorem d_Mo_copy_19 : decode c_Mo_copy 19 = .ok (.iload_n 2, 1) := by decide +kernel
theorem d_Mo_copy_20 : decode c_Mo_copy 20 = .ok (.imul, 1) := by decide +kernel
theorem d_Mo_copy_21 : decode c_Mo_copy 21 = .ok (.iload_n 3, 1) := by decide +kernel
theorem d_Mo_copy_22 : decode c_Mo_copy 22 = .ok (.iadd, 1) := by decide +kernel
theorem d_Mo_copy_23 : decode c_Mo_copy 23 = .ok (.aload_n 0, 1) := by decide +kernel
theorem d_Mo_copy_24 : decode c_Mo_copy 24 = .ok (.getfield 7, 3) := by decide +kernel
theorem d_Mo_copy_27 : decode c_Mo_copy 27 = .ok (.sipush 320, 3) := by decide +kernel
theorem d_Mo_copy_30 : decode c_Mo_copy 30 = .ok (.iload_n 1, 1) := by decide +kernel
theorem d_Mo_copy_31 : decode c_Mo_copy 31 = .ok (.imul, 1) := by decide +kernel
theorem d_Mo_copy_32 : decode c_Mo_copy 32 = .ok (.iload_n 3, 1) := by decide +kernel
theorem d_Mo_copy_33 : decode c_Mo_copy 33 = .ok (.iadd, 1) := by decide +kernel
theorem d_Mo_copy_34 : decode c_Mo_copy 34 = .ok (.iaload, 1) := by decide +kernel
theorem d_Mo_copy_35 : decode c_Mo_copy 35 = .ok (.iastore, 1) := by decide +kernel
theorem d_Mo_copy_36 : decode c_Mo_copy 36 = .ok (.iinc 3 1, 3) := by decide +kernel
theorem d_Mo_copy_39 : decode c_Mo_copy 39 = .ok (.goto (-37), 3) := by decide +kernel
theorem d_Mo_copy_42 : decode c_Mo_copy 42 = .ok (.aload_n 0, 1) := by decide +kernel
theorem d_Mo_copy_43 : decode c_Mo_copy 43 = .ok (.getfield 13, 3) := by decide +kernel
theorem d_Mo_copy_46 : decode c_Mo_copy 46 = .ok (.iload_n 2, 1) := by decide +kernel
theorem d_Mo_copy_47 : decode c_Mo_copy 47 = .ok (.aload_n 0, 1) := by decide +kernel
theorem d_Mo_copy_48 : decode c_Mo_copy 48 = .ok (.getfield 13, 3) := by decide +kernel
theorem d_Mo_copy_51 : decode c_Mo_copy 51 = .ok (.iload_n 1, 1) := by decide +kernel
theorem d_Mo_copy_52 : decode c_Mo_copy 52 = .ok (.iaload, 1) := by decide +kernel
theorem d_Mo_copy_53 : decode c_Mo_copy 53 = .ok (.iastore, 1) := by decide +kernel
theorem d_Mo_copy_54 : decode c_Mo_copy 54 = .ok (.aload_n 0, 1) := by decide +kernel
theorem d_Mo_copy_55 : decode c_Mo_copy 55 = .ok (.getfield 16, 3) := by decide +kernel
theorem d_Mo_copy_58 : decode c_Mo_copy 58 = .ok (.iload_n 2, 1) := by decide +kernel
theorem d_Mo_copy_59 : decode c_Mo_copy 59 = .ok (.aload_n 0, 1) := by decide +kernel
theorem d_Mo_copy_60 : decode c_Mo_copy 60 = .ok (.getfield 16, 3) := by decide +kernel
theorem d_Mo_copy_63 : decode c_Mo_copy 63 = .ok (.iload_n 1, 1) := by decide +kernel
theorem d_Mo_copy_64 : decode c_Mo_copy 64 = .ok (.iaload, 1) := by decide +kernel
theorem d_Mo_copy_65 : decode c_Mo_copy 65 = .ok (.iastore, 1) := by decide +kernel
theorem d_Mo_copy_66 : decode c_Mo_copy 66 = .ok (.aload_n 0, 1) := by decide +kernel
theorem d_Mo_copy_67 : decode c_Mo_copy 67 = .ok (.getfield 19, 3) := by decide +kernel
theorem d_Mo_copy_70 : decode c_Mo_copy 70 = .ok (.iload_n 2, 1) := by decide +kernel
theorem d_Mo_copy_71 : decode c_Mo_copy 71 = .ok (.aload_n 0, 1) := by decide +kernel
theorem d_Mo_copy_72 : decode c_Mo_copy 72 = .ok (.getfield 19, 3) := by decide +kernel
theorem d_Mo_copy_75 : decode c_Mo_copy 75 = .ok (.iload_n 1, 1) := by decide +kernel
theorem d_Mo_copy_76 : decode c_Mo_copy 76 = .ok (.iaload, 1) := by decide +kernel
theorem d_Mo_copy_77 : decode c_Mo_copy 77 = .ok (.iastore, 1) := by decide +kernel
theorem d_Mo_copy_78 : decode c_Mo_copy 78 = .ok (.return_, 1) := by decide +kernel
theorem d_Mo_topOf_0 : decode c_Mo_topOf 0 = .ok (.aload_n 0, 1) := by decide +kernel
theorem d_Mo_topOf_1 : decode c_Mo_topOf 1 = .ok (.getfield 13, 3) := by decide +kernel
theorem d_Mo_topOf_4 : decode c_Mo_topOf 4 = .ok (.iload_n 1, 1) := by decide +kernel
theorem d_Mo_topOf_5 : decode c_Mo_topOf 5 = .ok (.iaload, 1) := by decide +kernel
theorem d_Mo_topOf_6 : decode c_Mo_topOf 6 = .ok (.aload_n 0, 1) := by decide +kernel
theorem d_Mo_topOf_7 : decode c_Mo_topOf 7 = .ok (.getfield 16, 3) := by decide +kernel
theorem d_Mo_topOf_10 : decode c_Mo_topOf 10 = .ok (.iload_n 1, 1) := by decide +kernel
theorem d_Mo_topOf_11 : decode c_Mo_topOf 11 = .ok (.iaload, 1) := by decide +kernel
theorem d_Mo_topOf_12 : decode c_Mo_topOf 12 = .ok (.iadd, 1) := by decide +kernel
theorem d_Mo_topOf_13 : decode c_Mo_topOf 13 = .ok (.ireturn, 1) := by decide +kernel
theorem d_Mo_order_0 : decode c_Mo_order 0 = .ok (.iload 4, 2) := by decide +kernel
theorem d_Mo_order_2 : decode c_Mo_order 2 = .ok (.iconst 1, 1) := by decide +kernel
theorem d_Mo_order_3 : decode c_Mo_order 3 = .ok (.isub, 1) := by decide +kernel
theorem d_Mo_order_4 : decode c_Mo_order 4 = .ok (.istore 5, 2) := by decide +kernel
theorem d_Mo_order_6 : decode c_Mo_order 6 = .ok (.iload 5, 2) := by decide +kernel
theorem d_Mo_order_8 : decode c_Mo_order 8 = .ok (.iload_n 3, 1) := by decide +kernel
theorem d_Mo_order_9 : decode c_Mo_order 9 = .ok (.if_icmp .lt 34, 3) := by decide +kernel
theorem d_Mo_order_12 : decode c_Mo_order 12 = .ok (.aload_n 0, 1) := by decide +kernel
theorem d_Mo_order_13 : decode c_Mo_order 13 = .ok (.iload_n 1, 1) := by decide +kernel
theorem d_Mo_order_14 : decode c_Mo_order 14 = .ok (.iload 5, 2) := by decide +kernel
theorem d_Mo_order_16 : decode c_Mo_order 16 = .ok (.invokevirtual 77, 3) := by decide +kernel
theorem d_Mo_order_19 : decode c_Mo_order 19 = .ok (.aload_n 0, 1) := by decide +kernel
theorem d_Mo_order_20 : decode c_Mo_order 20 = .ok (.iload_n 2, 1) := by decide +kernel
theorem d_Mo_order_21 : decode c_Mo_order 21 = .ok (.iload 5, 2) := by decide +kernel
theorem d_Mo_order_23 : decode c_Mo_order 23 = .ok (.invokevirtual 77, 3) := by decide +kernel
theorem d_Mo_order_26 : decode c_Mo_order 26 = .ok (.isub, 1) := by decide +kernel
theorem d_Mo_order_27 : decode c_Mo_order 27 = .ok (.istore 6, 2) := by decide +kernel
theorem d_Mo_order_29 : decode c_Mo_order 29 = .ok (.iload 6, 2) := by decide +kernel
theorem d_Mo_order_31 : decode c_Mo_order 31 = .ok (.ifCond .eq 6, 3) := by decide +kernel
theorem d_Mo_order_34 : decode c_Mo_order 34 = .ok (.iload 6, 2) := by decide +kernel
theorem d_Mo_order_36 : decode c_Mo_order 36 = .ok (.ireturn, 1) := by decide +kernel
theorem d_Mo_order_37 : decode c_Mo_order 37 = .ok (.iinc 5 (-1), 3) := by decide +kernel
theorem d_Mo_order_40 : decode c_Mo_order 40 = .ok (.goto (-34), 3) := by decide +kernel
theorem d_Mo_order_43 : decode c_Mo_order 43 = .ok (.iconst 0, 1) := by decide +kernel
theorem d_Mo_order_44 : decode c_Mo_order 44 = .ok (.ireturn, 1) := by decide +kernel
theorem d_Mo_digitAt_0 : decode c_Mo_digitAt 0 = .ok (.iload_n 2, 1) := by decide +kernel
theorem d_Mo_digitAt_1 : decode c_Mo_digitAt 1 = .ok (.aload_n 0, 1) := by decide +kernel
theorem d_Mo_digitAt_2 : decode c_Mo_digitAt 2 = .ok (.getfield 16, 3) := by decide +kernel
theorem d_Mo_digitAt_5 : decode c_Mo_digitAt 5 = .ok (.iload_n 1, 1) := by decide +kernel
theorem d_Mo_digitAt_6 : decode c_Mo_digitAt 6 = .ok (.iaload, 1) := by decide +kernel
theorem d_Mo_digitAt_7 : decode c_Mo_digitAt 7 = .ok (.isub, 1) := by decide +kernel
theorem d_Mo_digitAt_8 : decode c_Mo_digitAt 8 = .ok (.istore_n 3, 1) := by decide +kernel
theorem d_Mo_digitAt_9 : decode c_Mo_digitAt 9 = .ok (.iload_n 3, 1) := by decide +kernel
theorem d_Mo_digitAt_10 : decode c_Mo_digitAt 10 = .ok (.ifCond .lt 28, 3) := by decide +kernel
theorem d_Mo_digitAt_13 : decode c_Mo_digitAt 13 = .ok (.iload_n 3, 1) := by decide +kernel
theorem d_Mo_digitAt_14 : decode c_Mo_digitAt 14 = .ok (.aload_n 0, 1) := by decide +kernel
theorem d_Mo_digitAt_15 : decode c_Mo_digitAt 15 = .ok (.getfield 13, 3) := by decide +kernel
theorem d_Mo_digitAt_18 : decode c_Mo_digitAt 18 = .ok (.iload_n 1, 1) := by decide +kernel
theorem d_Mo_digitAt_19 : decode c_Mo_digitAt 19 = .ok (.iaload, 1) := by decide +kernel
theorem d_Mo_digitAt_20 : decode c_Mo_digitAt 20 = .ok (.if_icmp .ge 18, 3) := by decide +kernel
theorem d_Mo_digitAt_23 : decode c_Mo_digitAt 23 = .ok (.aload_n 0, 1) := by decide +kernel
theorem d_Mo_digitAt_24 : decode c_Mo_digitAt 24 = .ok (.getfield 7, 3) := by decide +kernel
theorem d_Mo_digitAt_27 : decode c_Mo_digitAt 27 = .ok (.sipush 320, 3) := by decide +kernel
theorem d_Mo_digitAt_30 : decode c_Mo_digitAt 30 = .ok (.iload_n 1, 1) := by decide +kernel
theorem d_Mo_digitAt_31 : decode c_Mo_digitAt 31 = .ok (.imul, 1) := by decide +kernel
theorem d_Mo_digitAt_32 : decode c_Mo_digitAt 32 = .ok (.iload_n 3, 1) := by decide +kernel
theorem d_Mo_digitAt_33 : decode c_Mo_digitAt 33 = .ok (.iadd, 1) := by decide +kernel
theorem d_Mo_digitAt_34 : decode c_Mo_digitAt 34 = .ok (.iaload, 1) := by decide +kernel
theorem d_Mo_digitAt_35 : decode c_Mo_digitAt 35 = .ok (.goto 4, 3) := by decide +kernel
theorem d_Mo_digitAt_38 : decode c_Mo_digitAt 38 = .ok (.iconst 0, 1) := by decide +kernel
theorem d_Mo_digitAt_39 : decode c_Mo_digitAt 39 = .ok (.ireturn, 1) := by decide +kernel
theorem d_Mo_multiply_0 : decode c_Mo_multiply 0 = .ok (.aload_n 0, 1) := by decide +kernel
theorem d_Mo_multiply_1 : decode c_Mo_multiply 1 = .ok (.getfield 13, 3) := by decide +kernel
theorem d_Mo_multiply_4 : decode c_Mo_multiply 4 = .ok (.iconst 0, 1) := by decide +kernel
theorem d_Mo_multiply_5 : decode c_Mo_multiply 5 = .ok (.iaload, 1) := by decide +kernel
theorem d_Mo_multiply_6 : decode c_Mo_multiply 6 = .ok (.aload_n 0, 1) := by decide +kernel
theorem d_Mo_multiply_7 : decode c_Mo_multiply 7 = .ok (.getfield 13, 3) := by decide +kernel
theorem d_Mo_multiply_10 : decode c_Mo_multiply 10 = .ok (.iconst 1, 1) := by decide +kernel
theorem d_Mo_multiply_11 : decode c_Mo_multiply 11 = .ok (.iaload, 1) := by decide +kernel
theorem d_Mo_multiply_12 : decode c_Mo_multiply 12 = .ok (.iadd, 1) := by decide +kernel
theorem d_Mo_multiply_13 : decode c_Mo_multiply 13 = .ok (.istore_n 1, 1) := by decide +kernel
theorem d_Mo_multiply_14 : decode c_Mo_multiply 14 = .ok (.iconst 0, 1) := by decide +kernel
theorem d_Mo_multiply_15 : decode c_Mo_multiply 15 = .ok (.istore_n 2, 1) := by decide +kernel
theorem d_Mo_multiply_16 : decode c_Mo_multiply 16 = .ok (.iload_n 2, 1) := by decide +kernel
theorem d_Mo_multiply_17 : decode c_Mo_multiply 17 = .ok (.iload_n 1, 1) := by decide +kernel
theorem d_Mo_multiply_18 : decode c_Mo_multiply 18 = .ok (.if_icmp .ge 20, 3) := by decide +kernel
theorem d_Mo_multiply_21 : decode c_Mo_multiply 21 = .ok (.aload_n 0, 1) := by decide +kernel
theorem d_Mo_multiply_22 : decode c_Mo_multiply 22 = .ok (.getfield 7, 3) := by decide +kernel
theorem d_Mo_multiply_25 : decode c_Mo_multiply 25 = .ok (.sipush 640, 3) := by decide +kernel
theorem d_Mo_multiply_28 : decode c_Mo_multiply 28 = .ok (.iload_n 2, 1) := by decide +kernel
theorem d_Mo_multiply_29 : decode c_Mo_multiply 29 = .ok (.iadd, 1) := by decide +kernel
theorem d_Mo_multiply_30 : decode c_Mo_multiply 30 = .ok (.iconst 0, 1) := by decide +kernel
theorem d_Mo_multiply_31 : decode c_Mo_multiply 31 = .ok (.iastore, 1) := by decide +kernel
theorem d_Mo_multiply_32 : decode c_Mo_multiply 32 = .ok (.iinc 2 1, 3) := by decide +kernel
theorem d_Mo_multiply_35 : decode c_Mo_multiply 35 = .ok (.goto (-19), 3) := by decide +kernel
theorem d_Mo_multiply_38 : decode c_Mo_multiply 38 = .ok (.iconst 0, 1) := by decide +kernel
theorem d_Mo_multiply_39 : decode c_Mo_multiply 39 = .ok (.istore_n 2, 1) := by decide +kernel
theorem d_Mo_multiply_40 : decode c_Mo_multiply 40 = .ok (.iload_n 2, 1) := by decide +kernel
theorem d_Mo_multiply_41 : decode c_Mo_multiply 41 = .ok (.aload_n 0, 1) := by decide +kernel
theorem d_Mo_multiply_42 : decode c_Mo_multiply 42 = .ok (.getfield 13, 3) := by decide +kernel
theorem d_Mo_multiply_45 : decode c_Mo_multiply 45 = .ok (.iconst 0, 1) := by decide +kernel
theorem d_Mo_multiply_46 : decode c_Mo_multiply 46 = .ok (.iaload, 1) := by decide +kernel
theorem d_Mo_multiply_47 : decode c_Mo_multiply 47 = .ok (.if_icmp .ge 114, 3) := by decide +kernel
theorem d_Mo_multiply_50 : decode c_Mo_multiply 50 = .ok (.iconst 0, 1) := by decide +kernel
theorem d_Mo_multiply_51 : decode c_Mo_multiply 51 = .ok (.istore_n 3, 1) := by decide +kernel
theorem d_Mo_multiply_52 : decode c_Mo_multiply 52 = .ok (.iconst 0, 1) := by decide +kernel
theorem d_Mo_multiply_53 : decode c_Mo_multiply 53 = .ok (.istore 4, 2) := by decide +kernel
theorem d_Mo_multiply_55 : decode c_Mo_multiply 55 = .ok (.iload 4, 2) := by decide +kernel
theorem d_Mo_multiply_57 : decode c_Mo_multiply 57 = .ok (.aload_n 0, 1) := by decide +kernel
theorem d_Mo_multiply_58 : decode c_Mo_multiply 58 = .ok (.getfield 13, 3) := by decide +kernel
theorem d_Mo_multiply_61 : decode c_Mo_multiply 61 = .ok (.iconst 1, 1) := by decide +kernel
theorem d_Mo_multiply_62 : decode c_Mo_multiply 62 = .ok (.iaload, 1) := by decide +kernel
theorem d_Mo_multiply_63 : decode c_Mo_multiply 63 = .ok (.if_icmp .ge 71, 3) := by decide +kernel
theorem d_Mo_multiply_66 : decode c_Mo_multiply 66 = .ok (.aload_n 0, 1) := by decide +kernel
theorem d_Mo_multiply_67 : decode c_Mo_multiply 67 = .ok (.getfield 7, 3) := by decide +kernel
theorem d_Mo_multiply_70 : decode c_Mo_multiply 70 = .ok (.sipush 640, 3) := by decide +kernel
theorem d_Mo_multiply_73 : decode c_Mo_multiply 73 = .ok (.iload_n 2, 1) := by decide +kernel
theorem d_Mo_multiply_74 : decode c_Mo_multiply 74 = .ok (.iadd, 1) := by decide +kernel
theorem d_Mo_multiply_75 : decode c_Mo_multiply 75 = .ok (.iload 4, 2) := by decide +kernel
theorem d_Mo_multiply_77 : decode c_Mo_multiply 77 = .ok (.iadd, 1) := by decide +kernel
theorem d_Mo_multiply_78 : decode c_Mo_multiply 78 = .ok (.iaload, 1) := by decide +kernel
theorem d_Mo_multiply_79 : decode c_Mo_multiply 79 = .ok (.aload_n 0, 1) := by decide +kernel
theorem d_Mo_multiply_80 : decode c_Mo_multiply 80 = .ok (.getfield 7, 3) := by decide +kernel
theorem d_Mo_multiply_83 : decode c_Mo_multiply 83 = .ok (.iconst 0, 1) := by decide +kernel
theorem d_Mo_multiply_84 : decode c_Mo_multiply 84 = .ok (.iload_n 2, 1) := by decide +kernel
theorem d_Mo_multiply_85 : decode c_Mo_multiply 85 = .ok (.iadd, 1) := by decide +kernel
theorem d_Mo_multiply_86 : decode c_Mo_multiply 86 = .ok (.iaload, 1) := by decide +kernel
theorem d_Mo_multiply_87 : decode c_Mo_multiply 87 = .ok (.aload_n 0, 1) := by decide +kernel
theorem d_Mo_multiply_88 : decode c_Mo_multiply 88 = .ok (.getfield 7, 3) := by decide +kernel
theorem d_Mo_multiply_91 : decode c_Mo_multiply 91 = .ok (.sipush 320, 3) := by decide +kernel
theorem d_Mo_multiply_94 : decode c_Mo_multiply 94 = .ok (.iload 4, 2) := by decide +kernel
theorem d_Mo_multiply_96 : decode c_Mo_multiply 96 = .ok (.iadd, 1) := by decide +kernel
theorem d_Mo_multiply_97 : decode c_Mo_multiply 97 = .ok (.iaload, 1) := by decide +kernel
theorem d_Mo_multiply_98 : decode c_Mo_multiply 98 = .ok (.imul, 1) := by decide +kernel
theorem d_Mo_multiply_99 : decode c_Mo_multiply 99 = .ok (.iadd, 1) := by decide +kernel
theorem d_Mo_multiply_100 : decode c_Mo_multiply 100 = .ok (.iload_n 3, 1) := by decide +kernel
theorem d_Mo_multiply_101 : decode c_Mo_multiply 101 = .ok (.iadd, 1) := by decide +kernel
theorem d_Mo_multiply_102 : decode c_Mo_multiply 102 = .ok (.istore 5, 2) := by decide +kernel
theorem d_Mo_multiply_104 : decode c_Mo_multiply 104 = .ok (.aload_n 0, 1) := by decide +kernel
theorem d_Mo_multiply_105 : decode c_Mo_multiply 105 = .ok (.getfield 7, 3) := by decide +kernel
theorem d_Mo_multiply_108 : decode c_Mo_multiply 108 = .ok (.sipush 640, 3) := by decide +kernel
theorem d_Mo_multiply_111 : decode c_Mo_multiply 111 = .ok (.iload_n 2, 1) := by decide +kernel
theorem d_Mo_multiply_112 : decode c_Mo_multiply 112 = .ok (.iadd, 1) := by decide +kernel
theorem d_Mo_multiply_113 : decode c_Mo_multiply 113 = .ok (.iload 4, 2) := by decide +kernel
theorem d_Mo_multiply_115 : decode c_Mo_multiply 115 = .ok (.iadd, 1) := by decide +kernel
theorem d_Mo_multiply_116 : decode c_Mo_multiply 116 = .ok (.iload 5, 2) := by decide +kernel
theorem d_Mo_multiply_118 : decode c_Mo_multiply 118 = .ok (.bipush 10, 2) := by decide +kernel
theorem d_Mo_multiply_120 : decode c_Mo_multiply 120 = .ok (.irem, 1) := by decide +kernel
theorem d_Mo_multiply_121 : decode c_Mo_multiply 121 = .ok (.iastore, 1) := by decide +kernel
theorem d_Mo_multiply_122 : decode c_Mo_multiply 122 = .ok (.iload 5, 2) := by decide +kernel
theorem d_Mo_multiply_124 : decode c_Mo_multiply 124 = .ok (.bipush 10, 2) := by decide +kernel
theorem d_Mo_multiply_126 : decode c_Mo_multiply 126 = .ok (.idiv, 1) := by decide +kernel
theorem d_Mo_multiply_127 : decode c_Mo_multiply 127 = .ok (.istore_n 3, 1) := by decide +kernel
theorem d_Mo_multiply_128 : decode c_Mo_multiply 128 = .ok (.iinc 4 1, 3) := by decide +kernel
theorem d_Mo_multiply_131 : decode c_Mo_multiply 131 = .ok (.goto (-76), 3) := by decide +kernel
theorem d_Mo_multiply_134 : decode c_Mo_multiply 134 = .ok (.aload_n 0, 1) := by decide +kernel
theorem d_Mo_multiply_135 : decode c_Mo_multiply 135 = .ok (.getfield 7, 3) := by decide +kernel
theorem d_Mo_multiply_138 : decode c_Mo_multiply 138 = .ok (.sipush 640, 3) := by decide +kernel
theorem d_Mo_multiply_141 : decode c_Mo_multiply 141 = .ok (.iload_n 2, 1) := by decide +kernel
theorem d_Mo_multiply_142 : decode c_Mo_multiply 142 = .ok (.iadd, 1) := by decide +kernel
theorem d_Mo_multiply_143 : decode c_Mo_multiply 143 = .ok (.aload_n 0, 1) := by decide +kernel
theorem d_Mo_multiply_144 : decode c_Mo_multiply 144 = .ok (.getfield 13, 3) := by decide +kernel
theorem d_Mo_multiply_147 : decode c_Mo_multiply 147 = .ok (.iconst 1, 1) := by decide +kernel
theorem d_Mo_multiply_148 : decode c_Mo_multiply 148 = .ok (.iaload, 1) := by decide +kernel
theorem d_Mo_multiply_149 : decode c_Mo_multiply 149 = .ok (.iadd, 1) := by decide +kernel
theorem d_Mo_multiply_150 : decode c_Mo_multiply 150 = .ok (.dup2, 1) := by decide +kernel
theorem d_Mo_multiply_151 : decode c_Mo_multiply 151 = .ok (.iaload, 1) := by decide +kernel
theorem d_Mo_multiply_152 : decode c_Mo_multiply 152 = .ok (.iload_n 3, 1) := by decide +kernel
theorem d_Mo_multiply_153 : decode c_Mo_multiply 153 = .ok (.iadd, 1) := by decide +kernel
theorem d_Mo_multiply_154 : decode c_Mo_multiply 154 = .ok (.iastore, 1) := by decide +kernel
theorem d_Mo_multiply_155 : decode c_Mo_multiply 155 = .ok (.iinc 2 1, 3) := by decide +kernel
theorem d_Mo_multiply_158 : decode c_Mo_multiply 158 = .ok (.goto (-118), 3) := by decide +kernel
theorem d_Mo_multiply_161 : decode c_Mo_multiply 161 = .ok (.aload_n 0, 1) := by decide +kernel
theorem d_Mo_multiply_162 : decode c_Mo_multiply 162 = .ok (.getfield 13, 3) := by decide +kernel
theorem d_Mo_multiply_165 : decode c_Mo_multiply 165 = .ok (.iconst 2, 1) := by decide +kernel
theorem d_Mo_multiply_166 : decode c_Mo_multiply 166 = .ok (.iload_n 1, 1) := by decide +kernel
theorem d_Mo_multiply_167 : decode c_Mo_multiply 167 = .ok (.iastore, 1) := by decide +kernel
theorem d_Mo_multiply_168 : decode c_Mo_multiply 168 = .ok (.aload_n 0, 1) := by decide +kernel
theorem d_Mo_multiply_169 : decode c_Mo_multiply 169 = .ok (.getfield 16, 3) := by decide +kernel
theorem d_Mo_multiply_172 : decode c_Mo_multiply 172 = .ok (.iconst 2, 1) := by decide +kernel
theorem d_Mo_multiply_173 : decode c_Mo_multiply 173 = .ok (.aload_n 0, 1) := by decide +kernel
theorem d_Mo_multiply_174 : decode c_Mo_multiply 174 = .ok (.getfield 16, 3) := by decide +kernel
theorem d_Mo_multiply_177 : decode c_Mo_multiply 177 = .ok (.iconst 0, 1) := by decide +kernel
theorem d_Mo_multiply_178 : decode c_Mo_multiply 178 = .ok (.iaload, 1) := by decide +kernel
theorem d_Mo_multiply_179 : decode c_Mo_multiply 179 = .ok (.aload_n 0, 1) := by decide +kernel
theorem d_Mo_multiply_180 : decode c_Mo_multiply 180 = .ok (.getfield 16, 3) := by decide +kernel
theorem d_Mo_multiply_183 : decode c_Mo_multiply 183 = .ok (.iconst 1, 1) := by decide +kernel
theorem d_Mo_multiply_184 : decode c_Mo_multiply 184 = .ok (.iaload, 1) := by decide +kernel
theorem d_Mo_multiply_185 : decode c_Mo_multiply 185 = .ok (.iadd, 1) := by decide +kernel
theorem d_Mo_multiply_186 : decode c_Mo_multiply 186 = .ok (.iastore, 1) := by decide +kernel
theorem d_Mo_multiply_187 : decode c_Mo_multiply 187 = .ok (.aload_n 0, 1) := by decide +kernel
theorem d_Mo_multiply_188 : decode c_Mo_multiply 188 = .ok (.getfield 19, 3) := by decide +kernel
theorem d_Mo_multiply_191 : decode c_Mo_multiply 191 = .ok (.iconst 2, 1) := by decide +kernel
theorem d_Mo_multiply_192 : decode c_Mo_multiply 192 = .ok (.aload_n 0, 1) := by decide +kernel
theorem d_Mo_multiply_193 : decode c_Mo_multiply 193 = .ok (.getfield 19, 3) := by decide +kernel
theorem d_Mo_multiply_196 : decode c_Mo_multiply 196 = .ok (.iconst 0, 1) := by decide +kernel
theorem d_Mo_multiply_197 : decode c_Mo_multiply 197 = .ok (.iaload, 1) := by decide +kernel
theorem d_Mo_multiply_198 : decode c_Mo_multiply 198 = .ok (.aload_n 0, 1) := by decide +kernel
theorem d_Mo_multiply_199 : decode c_Mo_multiply 199 = .ok (.getfield 19, 3) := by decide +kernel
theorem d_Mo_multiply_202 : decode c_Mo_multiply 202 = .ok (.iconst 1, 1) := by decide +kernel
theorem d_Mo_multiply_203 : decode c_Mo_multiply 203 = .ok (.iaload, 1) := by decide +kernel
theorem d_Mo_multiply_204 : decode c_Mo_multiply 204 = .ok (.imul, 1) := by decide +kernel
theorem d_Mo_multiply_205 : decode c_Mo_multiply 205 = .ok (.iastore, 1) := by decide +kernel
theorem d_Mo_multiply_206 : decode c_Mo_multiply 206 = .ok (.aload_n 0, 1) := by decide +kernel
theorem d_Mo_multiply_207 : decode c_Mo_multiply 207 = .ok (.iconst 2, 1) := by decide +kernel
theorem d_Mo_multiply_208 : decode c_Mo_multiply 208 = .ok (.aload_n 0, 1) := by decide +kernel
theorem d_Mo_multiply_209 : decode c_Mo_multiply 209 = .ok (.getfield 60, 3) := by decide +kernel
theorem d_Mo_multiply_212 : decode c_Mo_multiply 212 = .ok (.invokevirtual 84, 3) := by decide +kernel
theorem d_Mo_multiply_215 : decode c_Mo_multiply 215 = .ok (.ireturn, 1) := by decide +kernel
theorem d_Mo_divide_0 : decode c_Mo_divide 0 = .ok (.aload_n 0, 1) := by decide +kernel
theorem d_Mo_divide_1 : decode c_Mo_divide 1 = .ok (.getfield 13, 3) := by decide +kernel
theorem d_Mo_divide_4 : decode c_Mo_divide 4 = .ok (.iconst 1, 1) := by decide +kernel
theorem d_Mo_divide_5 : decode c_Mo_divide 5 = .ok (.iaload, 1) := by decide +kernel
theorem d_Mo_divide_6 : decode c_Mo_divide 6 = .ok (.ifCond .ne 5, 3) := by decide +kernel
theorem d_Mo_divide_9 : decode c_Mo_divide 9 = .ok (.iconst 2, 1) := by decide +kernel
theorem d_Mo_divide_10 : decode c_Mo_divide 10 = .ok (.ireturn, 1) := by decide +kernel
theorem d_Mo_divide_11 : decode c_Mo_divide 11 = .ok (.aload_n 0, 1) := by decide +kernel
theorem d_Mo_divide_12 : decode c_Mo_divide 12 = .ok (.getfield 60, 3) := by decide +kernel
theorem d_Mo_divide_15 : decode c_Mo_divide 15 = .ok (.aload_n 0, 1) := by decide +kernel
theorem d_Mo_divide_16 : decode c_Mo_divide 16 = .ok (.getfield 13, 3) := by decide +kernel
theorem d_Mo_divide_19 : decode c_Mo_divide 19 = .ok (.iconst 1, 1) := by decide +kernel
theorem d_Mo_divide_20 : decode c_Mo_divide 20 = .ok (.iaload, 1) := by decide +kernel
theorem d_Mo_divide_21 : decode c_Mo_divide 21 = .ok (.iadd, 1) := by decide +kernel
theorem d_Mo_divide_22 : decode c_Mo_divide 22 = .ok (.istore_n 1, 1) := by decide +kernel
theorem d_Mo_divide_23 : decode c_Mo_divide 23 = .ok (.aload_n 0, 1) := by decide +kernel
theorem d_Mo_divide_24 : decode c_Mo_divide 24 = .ok (.getfield 13, 3) := by decide +kernel
theorem d_Mo_divide_27 : decode c_Mo_divide 27 = .ok (.iconst 0, 1) := by decide +kernel
theorem d_Mo_divide_28 : decode c_Mo_divide 28 = .ok (.iaload, 1) := by decide +kernel
theorem d_Mo_divide_29 : decode c_Mo_divide 29 = .ok (.iload_n 1, 1) := by decide +kernel
theorem d_Mo_divide_30 : decode c_Mo_divide 30 = .ok (.iadd, 1) := by decide +kernel
theorem d_Mo_divide_31 : decode c_Mo_divide 31 = .ok (.istore_n 2, 1) := by decide +kernel
theorem d_Mo_divide_32 : decode c_Mo_divide 32 = .ok (.iconst 0, 1) := by decide +kernel
theorem d_Mo_divide_33 : decode c_Mo_divide 33 = .ok (.istore_n 3, 1) := by decide +kernel
theorem d_Mo_divide_34 : decode c_Mo_divide 34 = .ok (.iload_n 3, 1) := by decide +kernel
theorem d_Mo_divide_35 : decode c_Mo_divide 35 = .ok (.bipush 40, 2) := by decide +kernel
theorem d_Mo_divide_37 : decode c_Mo_divide 37 = .ok (.if_icmp .ge 16, 3) := by decide +kernel
theorem d_Mo_divide_40 : decode c_Mo_divide 40 = .ok (.aload_n 0, 1) := by decide +kernel
theorem d_Mo_divide_41 : decode c_Mo_divide 41 = .ok (.getfield 22, 3) := by decide +kernel
theorem d_Mo_divide_44 : decode c_Mo_divide 44 = .ok (.iload_n 3, 1) := by decide +kernel
theorem d_Mo_divide_45 : decode c_Mo_divide 45 = .ok (.iconst 0, 1) := by decide +kernel
theorem d_Mo_divide_46 : decode c_Mo_divide 46 = .ok (.iastore, 1) := by decide +kernel
theorem d_Mo_divide_47 : decode c_Mo_divide 47 = .ok (.iinc 3 1, 3) := by decide +kernel
theorem d_Mo_divide_50 : decode c_Mo_divide 50 = .ok (.goto (-16), 3) := by decide +kernel
theorem d_Mo_divide_53 : decode c_Mo_divide 53 = .ok (.iload_n 2, 1) := by decide +kernel
theorem d_Mo_divide_54 : decode c_Mo_divide 54 = .ok (.iconst 1, 1) := by decide +kernel
theorem d_Mo_divide_55 : decode c_Mo_divide 55 = .ok (.isub, 1) := by decide +kernel
theorem d_Mo_divide_56 : decode c_Mo_divide 56 = .ok (.istore_n 3, 1) := by decide +kernel
theorem d_Mo_divide_57 : decode c_Mo_divide 57 = .ok (.iload_n 3, 1) := by decide +kernel
theorem d_Mo_divide_58 : decode c_Mo_divide 58 = .ok (.ifCond .lt 101, 3) := by decide +kernel
theorem d_Mo_divide_61 : decode c_Mo_divide 61 = .ok (.aload_n 0, 1) := by decide +kernel
theorem d_Mo_divide_62 : decode c_Mo_divide 62 = .ok (.getfield 13, 3) := by decide +kernel
theorem d_Mo_divide_65 : decode c_Mo_divide 65 = .ok (.iconst 1, 1) := by decide +kernel
theorem d_Mo_divide_66 : decode c_Mo_divide 66 = .ok (.iaload, 1) := by decide +kernel
theorem d_Mo_divide_67 : decode c_Mo_divide 67 = .ok (.istore 4, 2) := by decide +kernel
theorem d_Mo_divide_69 : decode c_Mo_divide 69 = .ok (.iload 4, 2) := by decide +kernel
theorem d_Mo_divide_71 : decode c_Mo_divide 71 = .ok (.ifCond .le 25, 3) := by decide +kernel
theorem d_Mo_divide_74 : decode c_Mo_divide 74 = .ok (.aload_n 0, 1) := by decide +kernel
theorem d_Mo_divide_75 : decode c_Mo_divide 75 = .ok (.getfield 22, 3) := by decide +kernel
theorem d_Mo_divide_78 : decode c_Mo_divide 78 = .ok (.iload 4, 2) := by decide +kernel
theorem d_Mo_divide_80 : decode c_Mo_divide 80 = .ok (.aload_n 0, 1) := by decide +kernel
theorem d_Mo_divide_81 : decode c_Mo_divide 81 = .ok (.getfield 22, 3) := by decide +kernel
theorem d_Mo_divide_84 : decode c_Mo_divide 84 = .ok (.iload 4, 2) := by decide +kernel
theorem d_Mo_divide_86 : decode c_Mo_divide 86 = .ok (.iconst 1, 1) := by decide +kernel
theorem d_Mo_divide_87 : decode c_Mo_divide 87 = .ok (.isub, 1) := by decide +kernel
theorem d_Mo_divide_88 : decode c_Mo_divide 88 = .ok (.iaload, 1) := by decide +kernel
theorem d_Mo_divide_89 : decode c_Mo_divide 89 = .ok (.iastore, 1) := by decide +kernel
theorem d_Mo_divide_90 : decode c_Mo_divide 90 = .ok (.iinc 4 (-1), 3) := by decide +kernel
theorem d_Mo_divide_93 : decode c_Mo_divide 93 = .ok (.goto (-24), 3) := by decide +kernel
theorem d_Mo_divide_96 : decode c_Mo_divide 96 = .ok (.aload_n 0, 1) := by decide +kernel
theorem d_Mo_divide_97 : decode c_Mo_divide 97 = .ok (.getfield 22, 3) := by decide +kernel
theorem d_Mo_divide_100 : decode c_Mo_divide 100 = .ok (.iconst 0, 1) := by decide +kernel
theorem d_Mo_divide_101 : decode c_Mo_divide 101 = .ok (.iload_n 3, 1) := by decide +kernel
theorem d_Mo_divide_102 : decode c_Mo_divide 102 = .ok (.iload_n 1, 1) := by decide +kernel
theorem d_Mo_divide_103 : decode c_Mo_divide 103 = .ok (.if_icmp .lt 16, 3) := by decide +kernel
theorem d_Mo_divide_106 : decode c_Mo_divide 106 = .ok (.aload_n 0, 1) := by decide +kernel
theorem d_Mo_divide_107 : decode c_Mo_divide 107 = .ok (.getfield 7, 3) := by decide +kernel
theorem d_Mo_divide_110 : decode c_Mo_divide 110 = .ok (.iconst 0, 1) := by decide +kernel
theorem d_Mo_divide_111 : decode c_Mo_divide 111 = .ok (.iload_n 3, 1) := by decide +kernel
theorem d_Mo_divide_112 : decode c_Mo_divide 112 = .ok (.iadd, 1) := by decide +kernel
theorem d_Mo_divide_113 : decode c_Mo_divide 113 = .ok (.iload_n 1, 1) := by decide +kernel
theorem d_Mo_divide_114 : decode c_Mo_divide 114 = .ok (.isub, 1) := by decide +kernel
theorem d_Mo_divide_115 : decode c_Mo_divide 115 = .ok (.iaload, 1) := by decide +kernel
theorem d_Mo_divide_116 : decode c_Mo_divide 116 = .ok (.goto 4, 3) := by decide +kernel
theorem d_Mo_divide_119 : decode c_Mo_divide 119 = .ok (.iconst 0, 1) := by decide +kernel
theorem d_Mo_divide_120 : decode c_Mo_divide 120 = .ok (.iastore, 1) := by decide +kernel
theorem d_Mo_divide_121 : decode c_Mo_divide 121 = .ok (.iconst 0, 1) := by decide +kernel
theorem d_Mo_divide_122 : decode c_Mo_divide 122 = .ok (.istore 4, 2) := by decide +kernel
theorem d_Mo_divide_124 : decode c_Mo_divide 124 = .ok (.aload_n 0, 1) := by decide +kernel
theorem d_Mo_divide_125 : decode c_Mo_divide 125 = .ok (.invokevirtual 95, 3) := by decide +kernel
theorem d_Mo_divide_128 : decode c_Mo_divide 128 = .ok (.ifCond .eq 13, 3) := by decide +kernel
theorem d_Mo_divide_131 : decode c_Mo_divide 131 = .ok (.aload_n 0, 1) := by decide +kernel
theorem d_Mo_divide_132 : decode c_Mo_divide 132 = .ok (.invokevirtual 99, 3) := by decide +kernel
theorem d_Mo_divide_135 : decode c_Mo_divide 135 = .ok (.iinc 4 1, 3) := by decide +kernel
theorem d_Mo_divide_138 : decode c_Mo_divide 138 = .ok (.goto (-14), 3) := by decide +kernel
theorem d_Mo_divide_141 : decode c_Mo_divide 141 = .ok (.aload_n 0, 1) := by decide +kernel
theorem d_Mo_divide_142 : decode c_Mo_divide 142 = .ok (.getfield 7, 3) := by decide +kernel
theorem d_Mo_divide_145 : decode c_Mo_divide 145 = .ok (.sipush 640, 3) := by decide +kernel
theorem d_Mo_divide_148 : decode c_Mo_divide 148 = .ok (.iload_n 3, 1) := by decide +kernel
theorem d_Mo_divide_149 : decode c_Mo_divide 149 = .ok (.iadd, 1) := by decide +kernel
theorem d_Mo_divide_150 : decode c_Mo_divide 150 = .ok (.iload 4, 2) := by decide +kernel
theorem d_Mo_divide_152 : decode c_Mo_divide 152 = .ok (.iastore, 1) := by decide +kernel
theorem d_Mo_divide_153 : decode c_Mo_divide 153 = .ok (.iinc 3 (-1), 3) := by decide +kernel
theorem d_Mo_divide_156 : decode c_Mo_divide 156 = .ok (.goto (-99), 3) := by decide +kernel
theorem d_Mo_divide_159 : decode c_Mo_divide 159 = .ok (.aload_n 0, 1) := by decide +kernel
theorem d_Mo_divide_160 : decode c_Mo_divide 160 = .ok (.getfield 13, 3) := by decide +kernel
theorem d_Mo_divide_163 : decode c_Mo_divide 163 = .ok (.iconst 2, 1) := by decide +kernel
theorem d_Mo_divide_164 : decode c_Mo_divide 164 = .ok (.aload_n 0, 1) := by decide +kernel
theorem d_Mo_divide_165 : decode c_Mo_divide 165 = .ok (.getfield 13, 3) := by decide +kernel
theorem d_Mo_divide_168 : decode c_Mo_divide 168 = .ok (.iconst 0, 1) := by decide +kernel
theorem d_Mo_divide_169 : decode c_Mo_divide 169 = .ok (.iaload, 1) := by decide +kernel
theorem d_Mo_divide_170 : decode c_Mo_divide 170 = .ok (.ifCond .ne 7, 3) := by decide +kernel
theorem d_Mo_divide_173 : decode c_Mo_divide 173 = .ok (.iconst 0, 1) := by decide +kernel
theorem d_Mo_divide_174 : decode c_Mo_divide 174 = .ok (.goto 4, 3) := by decide +kernel
theorem d_Mo_divide_177 : decode c_Mo_divide 177 = .ok (.iload_n 2, 1) := by decide +kernel
theorem d_Mo_divide_178 : decode c_Mo_divide 178 = .ok (.iastore, 1) := by decide +kernel
theorem d_Mo_divide_179 : decode c_Mo_divide 179 = .ok (.aload_n 0, 1) := by decide +kernel
theorem d_Mo_divide_180 : decode c_Mo_divide 180 = .ok (.getfield 16, 3) := by decide +kernel
theorem d_Mo_divide_183 : decode c_Mo_divide 183 = .ok (.iconst 2, 1) := by decide +kernel
theorem d_Mo_divide_184 : decode c_Mo_divide 184 = .ok (.aload_n 0, 1) := by decide +kernel
theorem d_Mo_divide_185 : decode c_Mo_divide 185 = .ok (.getfield 16, 3) := by decide +kernel
theorem d_Mo_divide_188 : decode c_Mo_divide 188 = .ok (.iconst 0, 1) := by decide +kernel
theorem d_Mo_divide_189 : decode c_Mo_divide 189 = .ok (.iaload, 1) := by decide +kernel
theorem d_Mo_divide_190 : decode c_Mo_divide 190 = .ok (.iload_n 1, 1) := by decide +kernel
theorem d_Mo_divide_191 : decode c_Mo_divide 191 = .ok (.isub, 1) := by decide +kernel
theorem d_Mo_divide_192 : decode c_Mo_divide 192 = .ok (.aload_n 0, 1) := by decide +kernel
theorem d_Mo_divide_193 : decode c_Mo_divide 193 = .ok (.getfield 16, 3) := by decide +kernel
theorem d_Mo_divide_196 : decode c_Mo_divide 196 = .ok (.iconst 1, 1) := by decide +kernel
theorem d_Mo_divide_197 : decode c_Mo_divide 197 = .ok (.iaload, 1) := by decide +kernel
theorem d_Mo_divide_198 : decode c_Mo_divide 198 = .ok (.isub, 1) := by decide +kernel
theorem d_Mo_divide_199 : decode c_Mo_divide 199 = .ok (.iastore, 1) := by decide +kernel
theorem d_Mo_divide_200 : decode c_Mo_divide 200 = .ok (.aload_n 0, 1) := by decide +kernel
theorem d_Mo_divide_201 : decode c_Mo_divide 201 = .ok (.getfield 19, 3) := by decide +kernel
theorem d_Mo_divide_204 : decode c_Mo_divide 204 = .ok (.iconst 2, 1) := by decide +kernel
theorem d_Mo_divide_205 : decode c_Mo_divide 205 = .ok (.aload_n 0, 1) := by decide +kernel
theorem d_Mo_divide_206 : decode c_Mo_divide 206 = .ok (.getfield 19, 3) := by decide +kernel
theorem d_Mo_divide_209 : decode c_Mo_divide 209 = .ok (.iconst 0, 1) := by decide +kernel
theorem d_Mo_divide_210 : decode c_Mo_divide 210 = .ok (.iaload, 1) := by decide +kernel
theorem d_Mo_divide_211 : decode c_Mo_divide 211 = .ok (.aload_n 0, 1) := by decide +kernel
theorem d_Mo_divide_212 : decode c_Mo_divide 212 = .ok (.getfield 19, 3) := by decide +kernel
theorem d_Mo_divide_215 : decode c_Mo_divide 215 = .ok (.iconst 1, 1) := by decide +kernel
theorem d_Mo_divide_216 : decode c_Mo_divide 216 = .ok (.iaload, 1) := by decide +kernel
theorem d_Mo_divide_217 : decode c_Mo_divide 217 = .ok (.imul, 1) := by decide +kernel
theorem d_Mo_divide_218 : decode c_Mo_divide 218 = .ok (.iastore, 1) := by decide +kernel
theorem d_Mo_divide_219 : decode c_Mo_divide 219 = .ok (.aload_n 0, 1) := by decide +kernel
theorem d_Mo_divide_220 : decode c_Mo_divide 220 = .ok (.iconst 2, 1) := by decide +kernel
theorem d_Mo_divide_221 : decode c_Mo_divide 221 = .ok (.aload_n 0, 1) := by decide +kernel
theorem d_Mo_divide_222 : decode c_Mo_divide 222 = .ok (.getfield 60, 3) := by decide +kernel
theorem d_Mo_divide_225 : decode c_Mo_divide 225 = .ok (.invokevirtual 84, 3) := by decide +kernel
theorem d_Mo_divide_228 : decode c_Mo_divide 228 = .ok (.ireturn, 1) := by decide +kernel
theorem d_Mo_isEnough_0 : decode c_Mo_isEnough 0 = .ok (.aload_n 0, 1) := by decide +kernel
theorem d_Mo_isEnough_1 : decode c_Mo_isEnough 1 = .ok (.getfield 13, 3) := by decide +kernel
theorem d_Mo_isEnough_4 : decode c_Mo_isEnough 4 = .ok (.iconst 1, 1) := by decide +kernel
theorem d_Mo_isEnough_5 : decode c_Mo_isEnough 5 = .ok (.iaload, 1) := by decide +kernel
theorem d_Mo_isEnough_6 : decode c_Mo_isEnough 6 = .ok (.istore_n 1, 1) := by decide +kernel
theorem d_Mo_isEnough_7 : decode c_Mo_isEnough 7 = .ok (.iload_n 1, 1) := by decide +kernel
theorem d_Mo_isEnough_8 : decode c_Mo_isEnough 8 = .ok (.istore_n 2, 1) := by decide +kernel
theorem d_Mo_isEnough_9 : decode c_Mo_isEnough 9 = .ok (.iload_n 2, 1) := by decide +kernel
theorem d_Mo_isEnough_10 : decode c_Mo_isEnough 10 = .ok (.ifCond .lt 50, 3) := by decide +kernel
theorem d_Mo_isEnough_13 : decode c_Mo_isEnough 13 = .ok (.aload_n 0, 1) := by decide +kernel
theorem d_Mo_isEnough_14 : decode c_Mo_isEnough 14 = .ok (.getfield 22, 3) := by decide +kernel
theorem d_Mo_isEnough_17 : decode c_Mo_isEnough 17 = .ok (.iload_n 2, 1) := by decide +kernel
theorem d_Mo_isEnough_18 : decode c_Mo_isEnough 18 = .ok (.iaload, 1) := by decide +kernel
theorem d_Mo_isEnough_19 : decode c_Mo_isEnough 19 = .ok (.iload_n 2, 1) := by decide +kernel
theorem d_Mo_isEnough_20 : decode c_Mo_isEnough 20 = .ok (.iload_n 1, 1) := by decide +kernel
theorem d_Mo_isEnough_21 : decode c_Mo_isEnough 21 = .ok (.if_icmp .ge 16, 3) := by decide +kernel
theorem d_Mo_isEnough_24 : decode c_Mo_isEnough 24 = .ok (.aload_n 0, 1) := by decide +kernel
theorem d_Mo_isEnough_25 : decode c_Mo_isEnough 25 = .ok (.getfield 7, 3) := by decide +kernel
theorem d_Mo_isEnough_28 : decode c_Mo_isEnough 28 = .ok (.sipush 320, 3) := by decide +kernel
theorem d_Mo_isEnough_31 : decode c_Mo_isEnough 31 = .ok (.iload_n 2, 1) := by decide +kernel
theorem d_Mo_isEnough_32 : decode c_Mo_isEnough 32 = .ok (.iadd, 1) := by decide +kernel
theorem d_Mo_isEnough_33 : decode c_Mo_isEnough 33 = .ok (.iaload, 1) := by decide +kernel
theorem d_Mo_isEnough_34 : decode c_Mo_isEnough 34 = .ok (.goto 4, 3) := by decide +kernel
theorem d_Mo_isEnough_37 : decode c_Mo_isEnough 37 = .ok (.iconst 0, 1) := by decide +kernel
theorem d_Mo_isEnough_38 : decode c_Mo_isEnough 38 = .ok (.isub, 1) := by decide +kernel
theorem d_Mo_isEnough_39 : decode c_Mo_isEnough 39 = .ok (.istore_n 3, 1) := by decide +kernel
theorem d_Mo_isEnough_40 : decode c_Mo_isEnough 40 = .ok (.iload_n 3, 1) := by decide +kernel
theorem d_Mo_isEnough_41 : decode c_Mo_isEnough 41 = .ok (.ifCond .eq 13, 3) := by decide +kernel
theorem d_Mo_isEnough_44 : decode c_Mo_isEnough 44 = .ok (.iload_n 3, 1) := by decide +kernel
theorem d_Mo_isEnough_45 : decode c_Mo_isEnough 45 = .ok (.ifCond .le 7, 3) := by decide +kernel
theorem d_Mo_isEnough_48 : decode c_Mo_isEnough 48 = .ok (.iconst 1, 1) := by decide +kernel
theorem d_Mo_isEnough_49 : decode c_Mo_isEnough 49 = .ok (.goto 4, 3) := by decide +kernel
theorem d_Mo_isEnough_52 : decode c_Mo_isEnough 52 = .ok (.iconst 0, 1) := by decide +kernel
theorem d_Mo_isEnough_53 : decode c_Mo_isEnough 53 = .ok (.ireturn, 1) := by decide +kernel
theorem d_Mo_isEnough_54 : decode c_Mo_isEnough 54 = .ok (.iinc 2 (-1), 3) := by decide +kernel
theorem d_Mo_isEnough_57 : decode c_Mo_isEnough 57 = .ok (.goto (-48), 3) := by decide +kernel
theorem d_Mo_isEnough_60 : decode c_Mo_isEnough 60 = .ok (.iconst 1, 1) := by decide +kernel
theorem d_Mo_isEnough_61 : decode c_Mo_isEnough 61 = .ok (.ireturn, 1) := by decide +kernel
theorem d_Mo_lessen_0 : decode c_Mo_lessen 0 = .ok (.iconst 0, 1) := by decide +kernel
theorem d_Mo_lessen_1 : decode c_Mo_lessen 1 = .ok (.istore_n 1, 1) := by decide +kernel
theorem d_Mo_lessen_2 : decode c_Mo_lessen 2 = .ok (.iconst 0, 1) := by decide +kernel
theorem d_Mo_lessen_3 : decode c_Mo_lessen 3 = .ok (.istore_n 2, 1) := by decide +kernel
theorem d_Mo_lessen_4 : decode c_Mo_lessen 4 = .ok (.iload_n 2, 1) := by decide +kernel
theorem d_Mo_lessen_5 : decode c_Mo_lessen 5 = .ok (.aload_n 0, 1) := by decide +kernel
theorem d_Mo_lessen_6 : decode c_Mo_lessen 6 = .ok (.getfield 13, 3) := by decide +kernel
theorem d_Mo_lessen_9 : decode c_Mo_lessen 9 = .ok (.iconst 1, 1) := by decide +kernel
theorem d_Mo_lessen_10 : decode c_Mo_lessen 10 = .ok (.iaload, 1) := by decide +kernel
theorem d_Mo_lessen_11 : decode c_Mo_lessen 11 = .ok (.if_icmp .gt 65, 3) := by decide +kernel
theorem d_Mo_lessen_14 : decode c_Mo_lessen 14 = .ok (.aload_n 0, 1) := by decide +kernel
theorem d_Mo_lessen_15 : decode c_Mo_lessen 15 = .ok (.getfield 22, 3) := by decide +kernel
theorem d_Mo_lessen_18 : decode c_Mo_lessen 18 = .ok (.iload_n 2, 1) := by decide +kernel
theorem d_Mo_lessen_19 : decode c_Mo_lessen 19 = .ok (.iaload, 1) := by decide +kernel
theorem d_Mo_lessen_20 : decode c_Mo_lessen 20 = .ok (.iload_n 2, 1) := by decide +kernel
theorem d_Mo_lessen_21 : decode c_Mo_lessen 21 = .ok (.aload_n 0, 1) := by decide +kernel
theorem d_Mo_lessen_22 : decode c_Mo_lessen 22 = .ok (.getfield 13, 3) := by decide +kernel
theorem d_Mo_lessen_25 : decode c_Mo_lessen 25 = .ok (.iconst 1, 1) := by decide +kernel
theorem d_Mo_lessen_26 : decode c_Mo_lessen 26 = .ok (.iaload, 1) := by decide +kernel
theorem d_Mo_lessen_27 : decode c_Mo_lessen 27 = .ok (.if_icmp .ge 16, 3) := by decide +kernel
theorem d_Mo_lessen_30 : decode c_Mo_lessen 30 = .ok (.aload_n 0, 1) := by decide +kernel
theorem d_Mo_lessen_31 : decode c_Mo_lessen 31 = .ok (.getfield 7, 3) := by decide +kernel
theorem d_Mo_lessen_34 : decode c_Mo_lessen 34 = .ok (.sipush 320, 3) := by decide +kernel
theorem d_Mo_lessen_37 : decode c_Mo_lessen 37 = .ok (.iload_n 2, 1) := by decide +kernel
theorem d_Mo_lessen_38 : decode c_Mo_lessen 38 = .ok (.iadd, 1) := by decide +kernel
theorem d_Mo_lessen_39 : decode c_Mo_lessen 39 = .ok (.iaload, 1) := by decide +kernel
theorem d_Mo_lessen_40 : decode c_Mo_lessen 40 = .ok (.goto 4, 3) := by decide +kernel
theorem d_Mo_lessen_43 : decode c_Mo_lessen 43 = .ok (.iconst 0, 1) := by decide +kernel
theorem d_Mo_lessen_44 : decode c_Mo_lessen 44 = .ok (.isub, 1) := by decide +kernel
theorem d_Mo_lessen_45 : decode c_Mo_lessen 45 = .ok (.iload_n 1, 1) := by decide +kernel
theorem d_Mo_lessen_46 : decode c_Mo_lessen 46 = .ok (.iadd, 1) := by decide +kernel
theorem d_Mo_lessen_47 : decode c_Mo_lessen 47 = .ok (.istore_n 3, 1) := by decide +kernel
theorem d_Mo_lessen_48 : decode c_Mo_lessen 48 = .ok (.iload_n 3, 1) := by decide +kernel
theorem d_Mo_lessen_49 : decode c_Mo_lessen 49 = .ok (.ifCond .ge 7, 3) := by decide +kernel
theorem d_Mo_lessen_52 : decode c_Mo_lessen 52 = .ok (.iconst (-1), 1) := by decide +kernel
theorem d_Mo_lessen_53 : decode c_Mo_lessen 53 = .ok (.goto 4, 3) := by decide +kernel
theorem d_Mo_lessen_56 : decode c_Mo_lessen 56 = .ok (.iconst 0, 1) := by decide +kernel
theorem d_Mo_lessen_57 : decode c_Mo_lessen 57 = .ok (.istore_n 1, 1) := by decide +kernel
theorem d_Mo_lessen_58 : decode c_Mo_lessen 58 = .ok (.aload_n 0, 1) := by decide +kernel
theorem d_Mo_lessen_59 : decode c_Mo_lessen 59 = .ok (.getfield 22, 3) := by decide +kernel
theorem d_Mo_lessen_62 : decode c_Mo_lessen 62 = .ok (.iload_n 2, 1) := by decide +kernel
theorem d_Mo_lessen_63 : decode c_Mo_lessen 63 = .ok (.iload_n 3, 1) := by decide +kernel
theorem d_Mo_lessen_64 : decode c_Mo_lessen 64 = .ok (.bipush 10, 2) := by decide +kernel
theorem d_Mo_lessen_66 : decode c_Mo_lessen 66 = .ok (.iload_n 1, 1) := by decide +kernel
theorem d_Mo_lessen_67 : decode c_Mo_lessen 67 = .ok (.imul, 1) := by decide +kernel
theorem d_Mo_lessen_68 : decode c_Mo_lessen 68 = .ok (.isub, 1) := by decide +kernel
theorem d_Mo_lessen_69 : decode c_Mo_lessen 69 = .ok (.iastore, 1) := by decide +kernel
theorem d_Mo_lessen_70 : decode c_Mo_lessen 70 = .ok (.iinc 2 1, 3) := by decide +kernel
theorem d_Mo_lessen_73 : decode c_Mo_lessen 73 = .ok (.goto (-69), 3) := by decide +kernel
theorem d_Mo_lessen_76 : decode c_Mo_lessen 76 = .ok (.return_, 1) := by decide +kernel
theorem d_Mo_raise_0 : decode c_Mo_raise 0 = .ok (.aload_n 0, 1) := by decide +kernel
theorem d_Mo_raise_1 : decode c_Mo_raise 1 = .ok (.invokevirtual 102, 3) := by decide +kernel
theorem d_Mo_raise_4 : decode c_Mo_raise 4 = .ok (.istore_n 1, 1) := by decide +kernel
theorem d_Mo_raise_5 : decode c_Mo_raise 5 = .ok (.iload_n 1, 1) := by decide +kernel
theorem d_Mo_raise_6 : decode c_Mo_raise 6 = .ok (.bipush 100, 2) := by decide +kernel
theorem d_Mo_raise_8 : decode c_Mo_raise 8 = .ok (.if_icmp .eq 16, 3) := by decide +kernel
theorem d_Mo_raise_11 : decode c_Mo_raise 11 = .ok (.iload_n 1, 1) := by decide +kernel
theorem d_Mo_raise_12 : decode c_Mo_raise 12 = .ok (.ifCond .ne 14, 3) := by decide +kernel
theorem d_Mo_raise_15 : decode c_Mo_raise 15 = .ok (.aload_n 0, 1) := by decide +kernel
theorem d_Mo_raise_16 : decode c_Mo_raise 16 = .ok (.getfield 13, 3) := by decide +kernel
theorem d_Mo_raise_19 : decode c_Mo_raise 19 = .ok (.iconst 0, 1) := by decide +kernel
theorem d_Mo_raise_20 : decode c_Mo_raise 20 = .ok (.iaload, 1) := by decide +kernel
theorem d_Mo_raise_21 : decode c_Mo_raise 21 = .ok (.ifCond .ne 5, 3) := by decide +kernel
theorem d_Mo_raise_24 : decode c_Mo_raise 24 = .ok (.iconst 1, 1) := by decide +kernel
theorem d_Mo_raise_25 : decode c_Mo_raise 25 = .ok (.ireturn, 1) := by decide +kernel
theorem d_Mo_raise_26 : decode c_Mo_raise 26 = .ok (.iload_n 1, 1) := by decide +kernel
theorem d_Mo_raise_27 : decode c_Mo_raise 27 = .ok (.ifCond .ge 14, 3) := by decide +kernel
theorem d_Mo_raise_30 : decode c_Mo_raise 30 = .ok (.aload_n 0, 1) := by decide +kernel
theorem d_Mo_raise_31 : decode c_Mo_raise 31 = .ok (.getfield 13, 3) := by decide +kernel
theorem d_Mo_raise_34 : decode c_Mo_raise 34 = .ok (.iconst 0, 1) := by decide +kernel
theorem d_Mo_raise_35 : decode c_Mo_raise 35 = .ok (.iaload, 1) := by decide +kernel
theorem d_Mo_raise_36 : decode c_Mo_raise 36 = .ok (.ifCond .ne 5, 3) := by decide +kernel
theorem d_Mo_raise_39 : decode c_Mo_raise 39 = .ok (.iconst 2, 1) := by decide +kernel
theorem d_Mo_raise_40 : decode c_Mo_raise 40 = .ok (.ireturn, 1) := by decide +kernel
theorem d_Mo_raise_41 : decode c_Mo_raise 41 = .ok (.aload_n 0, 1) := by decide +kernel
theorem d_Mo_raise_42 : decode c_Mo_raise 42 = .ok (.iconst 0, 1) := by decide +kernel
theorem d_Mo_raise_43 : decode c_Mo_raise 43 = .ok (.bipush 6, 2) := by decide +kernel
theorem d_Mo_raise_45 : decode c_Mo_raise 45 = .ok (.invokevirtual 81, 3) := by decide +kernel
theorem d_Mo_raise_48 : decode c_Mo_raise 48 = .ok (.aload_n 0, 1) := by decide +kernel
theorem d_Mo_raise_49 : decode c_Mo_raise 49 = .ok (.lconst 1, 1) := by decide +kernel
theorem d_Mo_raise_50 : decode c_Mo_raise 50 = .ok (.iconst 0, 1) := by decide +kernel
theorem d_Mo_raise_51 : decode c_Mo_raise 51 = .ok (.iconst 2, 1) := by decide +kernel
theorem d_Mo_raise_52 : decode c_Mo_raise 52 = .ok (.invokevirtual 106, 3) := by decide +kernel
theorem d_Mo_raise_55 : decode c_Mo_raise 55 = .ok (.iconst 0, 1) := by decide +kernel
theorem d_Mo_raise_56 : decode c_Mo_raise 56 = .ok (.istore_n 2, 1) := by decide +kernel
theorem d_Mo_raise_57 : decode c_Mo_raise 57 = .ok (.iconst 0, 1) := by decide +kernel
theorem d_Mo_raise_58 : decode c_Mo_raise 58 = .ok (.istore_n 3, 1) := by decide +kernel
theorem d_Mo_raise_59 : decode c_Mo_raise 59 = .ok (.iload_n 3, 1) := by decide +kernel
theorem d_Mo_raise_60 : decode c_Mo_raise 60 = .ok (.iload_n 1, 1) := by decide +kernel
theorem d_Mo_raise_61 : decode c_Mo_raise 61 = .ok (.ifCond .ge 9, 3) := by decide +kernel
theorem d_Mo_raise_64 : decode c_Mo_raise 64 = .ok (.iconst 0, 1) := by decide +kernel
theorem d_Mo_raise_65 : decode c_Mo_raise 65 = .ok (.iload_n 1, 1) := by decide +kernel
theorem d_Mo_raise_66 : decode c_Mo_raise 66 = .ok (.isub, 1) := by decide +kernel
theorem d_Mo_raise_67 : decode c_Mo_raise 67 = .ok (.goto 4, 3) := by decide +kernel
theorem d_Mo_raise_70 : decode c_Mo_raise 70 = .ok (.iload_n 1, 1) := by decide +kernel
theorem d_Mo_raise_71 : decode c_Mo_raise 71 = .ok (.if_icmp .ge 31, 3) := by decide +kernel
theorem d_Mo_raise_74 : decode c_Mo_raise 74 = .ok (.iload_n 2, 1) := by decide +kernel
theorem d_Mo_raise_75 : decode c_Mo_raise 75 = .ok (.ifCond .ne 27, 3) := by decide +kernel
theorem d_Mo_raise_78 : decode c_Mo_raise 78 = .ok (.aload_n 0, 1) := by decide +kernel
theorem d_Mo_raise_79 : decode c_Mo_raise 79 = .ok (.iconst 2, 1) := by decide +kernel
theorem d_Mo_raise_80 : decode c_Mo_raise 80 = .ok (.iconst 0, 1) := by decide +kernel
theorem d_Mo_raise_81 : decode c_Mo_raise 81 = .ok (.invokevirtual 81, 3) := by decide +kernel
theorem d_Mo_raise_84 : decode c_Mo_raise 84 = .ok (.aload_n 0, 1) := by decide +kernel
theorem d_Mo_raise_85 : decode c_Mo_raise 85 = .ok (.bipush 6, 2) := by decide +kernel
theorem d_Mo_raise_87 : decode c_Mo_raise 87 = .ok (.iconst 1, 1) := by decide +kernel
theorem d_Mo_raise_88 : decode c_Mo_raise 88 = .ok (.invokevirtual 81, 3) := by decide +kernel
theorem d_Mo_raise_91 : decode c_Mo_raise 91 = .ok (.aload_n 0, 1) := by decide +kernel
theorem d_Mo_raise_92 : decode c_Mo_raise 92 = .ok (.invokevirtual 110, 3) := by decide +kernel
theorem d_Mo_raise_95 : decode c_Mo_raise 95 = .ok (.istore_n 2, 1) := by decide +kernel
theorem d_Mo_raise_96 : decode c_Mo_raise 96 = .ok (.iinc 3 1, 3) := by decide +kernel
theorem d_Mo_raise_99 : decode c_Mo_raise 99 = .ok (.goto (-40), 3) := by decide +kernel
theorem d_Mo_raise_102 : decode c_Mo_raise 102 = .ok (.iload_n 1, 1) := by decide +kernel
theorem d_Mo_raise_103 : decode c_Mo_raise 103 = .ok (.ifCond .ge 7, 3) := by decide +kernel
theorem d_Mo_raise_106 : decode c_Mo_raise 106 = .ok (.iload_n 2, 1) := by decide +kernel
theorem d_Mo_raise_107 : decode c_Mo_raise 107 = .ok (.ifCond .eq 5, 3) := by decide +kernel
theorem d_Mo_raise_110 : decode c_Mo_raise 110 = .ok (.iload_n 2, 1) := by decide +kernel
theorem d_Mo_raise_111 : decode c_Mo_raise 111 = .ok (.ireturn, 1) := by decide +kernel
theorem d_Mo_raise_112 : decode c_Mo_raise 112 = .ok (.aload_n 0, 1) := by decide +kernel
theorem d_Mo_raise_113 : decode c_Mo_raise 113 = .ok (.iconst 2, 1) := by decide +kernel
theorem d_Mo_raise_114 : decode c_Mo_raise 114 = .ok (.iconst 1, 1) := by decide +kernel
theorem d_Mo_raise_115 : decode c_Mo_raise 115 = .ok (.invokevirtual 81, 3) := by decide +kernel
theorem d_Mo_raise_118 : decode c_Mo_raise 118 = .ok (.aload_n 0, 1) := by decide +kernel
theorem d_Mo_raise_119 : decode c_Mo_raise 119 = .ok (.lconst 1, 1) := by decide +kernel
theorem d_Mo_raise_120 : decode c_Mo_raise 120 = .ok (.iconst 0, 1) := by decide +kernel
theorem d_Mo_raise_121 : decode c_Mo_raise 121 = .ok (.iconst 0, 1) := by decide +kernel
theorem d_Mo_raise_122 : decode c_Mo_raise 122 = .ok (.invokevirtual 106, 3) := by decide +kernel
theorem d_Mo_raise_125 : decode c_Mo_raise 125 = .ok (.aload_n 0, 1) := by decide +kernel
theorem d_Mo_raise_126 : decode c_Mo_raise 126 = .ok (.invokevirtual 113, 3) := by decide +kernel
theorem d_Mo_raise_129 : decode c_Mo_raise 129 = .ok (.ireturn, 1) := by decide +kernel
theorem d_Mo_power_0 : decode c_Mo_power 0 = .ok (.aload_n 0, 1) := by decide +kernel
theorem d_Mo_power_1 : decode c_Mo_power 1 = .ok (.getfield 13, 3) := by decide +kernel
theorem d_Mo_power_4 : decode c_Mo_power 4 = .ok (.iconst 1, 1) := by decide +kernel
theorem d_Mo_power_5 : decode c_Mo_power 5 = .ok (.iaload, 1) := by decide +kernel
theorem d_Mo_power_6 : decode c_Mo_power 6 = .ok (.ifCond .ne 5, 3) := by decide +kernel
theorem d_Mo_power_9 : decode c_Mo_power 9 = .ok (.iconst 0, 1) := by decide +kernel
theorem d_Mo_power_10 : decode c_Mo_power 10 = .ok (.ireturn, 1) := by decide +kernel
theorem d_Mo_power_11 : decode c_Mo_power 11 = .ok (.aload_n 0, 1) := by decide +kernel
theorem d_Mo_power_12 : decode c_Mo_power 12 = .ok (.getfield 16, 3) := by decide +kernel
theorem d_Mo_power_15 : decode c_Mo_power 15 = .ok (.iconst 1, 1) := by decide +kernel
theorem d_Mo_power_16 : decode c_Mo_power 16 = .ok (.iaload, 1) := by decide +kernel
theorem d_Mo_power_17 : decode c_Mo_power 17 = .ok (.ifCond .lt 12, 3) := by decide +kernel
theorem d_Mo_power_20 : decode c_Mo_power 20 = .ok (.aload_n 0, 1) := by decide +kernel
theorem d_Mo_power_21 : decode c_Mo_power 21 = .ok (.iconst 1, 1) := by decide +kernel
theorem d_Mo_power_22 : decode c_Mo_power 22 = .ok (.invokevirtual 87, 3) := by decide +kernel
theorem d_Mo_power_25 : decode c_Mo_power 25 = .ok (.iconst 2, 1) := by decide +kernel
theorem d_Mo_power_26 : decode c_Mo_power 26 = .ok (.if_icmp .le 6, 3) := by decide +kernel
theorem d_Mo_power_29 : decode c_Mo_power 29 = .ok (.bipush 100, 2) := by decide +kernel
theorem d_Mo_power_31 : decode c_Mo_power 31 = .ok (.ireturn, 1) := by decide +kernel
theorem d_Mo_power_32 : decode c_Mo_power 32 = .ok (.aload_n 0, 1) := by decide +kernel
theorem d_Mo_power_33 : decode c_Mo_power 33 = .ok (.getfield 19, 3) := by decide +kernel
theorem d_Mo_power_36 : decode c_Mo_power 36 = .ok (.iconst 1, 1) := by decide +kernel
theorem d_Mo_power_37 : decode c_Mo_power 37 = .ok (.iaload, 1) := by decide +kernel
theorem d_Mo_power_38 : decode c_Mo_power 38 = .ok (.aload_n 0, 1) := by decide +kernel
theorem d_Mo_power_39 : decode c_Mo_power 39 = .ok (.iconst 1, 1) := by decide +kernel
theorem d_Mo_power_40 : decode c_Mo_power 40 = .ok (.iconst 0, 1) := by decide +kernel
theorem d_Mo_power_41 : decode c_Mo_power 41 = .ok (.invokevirtual 77, 3) := by decide +kernel
theorem d_Mo_power_44 : decode c_Mo_power 44 = .ok (.bipush 10, 2) := by decide +kernel
theorem d_Mo_power_46 : decode c_Mo_power 46 = .ok (.aload_n 0, 1) := by decide +kernel
theorem d_Mo_power_47 : decode c_Mo_power 47 = .ok (.iconst 1, 1) := by decide +kernel
theorem d_Mo_power_48 : decode c_Mo_power 48 = .ok (.iconst 1, 1) := by decide +kernel
theorem d_Mo_power_49 : decode c_Mo_power 49 = .ok (.invokevirtual 77, 3) := by decide +kernel
theorem d_Mo_power_52 : decode c_Mo_power 52 = .ok (.imul, 1) := by decide +kernel
theorem d_Mo_power_53 : decode c_Mo_power 53 = .ok (.iadd, 1) := by decide +kernel
theorem d_Mo_power_54 : decode c_Mo_power 54 = .ok (.imul, 1) := by decide +kernel
theorem d_Mo_power_55 : decode c_Mo_power 55 = .ok (.ireturn, 1) := by decide +kernel
theorem d_Mo_raises_0 : decode c_Mo_raises 0 = .ok (.aload_n 0, 1) := by decide +kernel
theorem d_Mo_raises_1 : decode c_Mo_raises 1 = .ok (.iconst 0, 1) := by decide +kernel
theorem d_Mo_raises_2 : decode c_Mo_raises 2 = .ok (.putfield 64, 3) := by decide +kernel
theorem d_Mo_raises_5 : decode c_Mo_raises 5 = .ok (.aload_n 0, 1) := by decide +kernel
theorem d_Mo_raises_6 : decode c_Mo_raises 6 = .ok (.iload_n 1, 1) := by decide +kernel
theorem d_Mo_raises_7 : decode c_Mo_raises 7 = .ok (.invokevirtual 128, 3) := by decide +kernel
theorem d_Mo_raises_10 : decode c_Mo_raises 10 = .ok (.ifCond .eq 12, 3) := by decide +kernel
theorem d_Mo_raises_13 : decode c_Mo_raises 13 = .ok (.aload_n 0, 1) := by decide +kernel
theorem d_Mo_raises_14 : decode c_Mo_raises 14 = .ok (.getfield 37, 3) := by decide +kernel
theorem d_Mo_raises_17 : decode c_Mo_raises 17 = .ok (.iload_n 1, 1) := by decide +kernel
theorem d_Mo_raises_18 : decode c_Mo_raises 18 = .ok (.iaload, 1) := by decide +kernel
theorem d_Mo_raises_19 : decode c_Mo_raises 19 = .ok (.goto 5, 3) := by decide +kernel
theorem d_Mo_raises_22 : decode c_Mo_raises 22 = .ok (.bipush (-2), 2) := by decide +kernel
theorem d_Mo_raises_24 : decode c_Mo_raises 24 = .ok (.ireturn, 1) := by decide +kernel
theorem d_Mo_exact_0 : decode c_Mo_exact 0 = .ok (.aload_n 0, 1) := by decide +kernel
theorem d_Mo_exact_1 : decode c_Mo_exact 1 = .ok (.iconst 0, 1) := by decide +kernel
theorem d_Mo_exact_2 : decode c_Mo_exact 2 = .ok (.putfield 64, 3) := by decide +kernel
theorem d_Mo_exact_5 : decode c_Mo_exact 5 = .ok (.aload_n 0, 1) := by decide +kernel
theorem d_Mo_exact_6 : decode c_Mo_exact 6 = .ok (.iload_n 1, 1) := by decide +kernel
theorem d_Mo_exact_7 : decode c_Mo_exact 7 = .ok (.invokevirtual 128, 3) := by decide +kernel
theorem d_Mo_exact_10 : decode c_Mo_exact 10 = .ok (.ifCond .eq 7, 3) := by decide +kernel
theorem d_Mo_exact_13 : decode c_Mo_exact 13 = .ok (.iload_n 2, 1) := by decide +kernel
theorem d_Mo_exact_14 : decode c_Mo_exact 14 = .ok (.ifCond .ge 7, 3) := by decide +kernel
theorem d_Mo_exact_17 : decode c_Mo_exact 17 = .ok (.ldc2_w 138, 3) := by decide +kernel
theorem d_Mo_exact_20 : decode c_Mo_exact 20 = .ok (.lreturn, 1) := by decide +kernel
theorem d_Mo_exact_21 : decode c_Mo_exact 21 = .ok (.aload_n 0, 1) := by decide +kernel
theorem d_Mo_exact_22 : decode c_Mo_exact 22 = .ok (.getfield 37, 3) := by decide +kernel
theorem d_Mo_exact_25 : decode c_Mo_exact 25 = .ok (.iload_n 1, 1) := by decide +kernel
theorem d_Mo_exact_26 : decode c_Mo_exact 26 = .ok (.iaload, 1) := by decide +kernel
theorem d_Mo_exact_27 : decode c_Mo_exact 27 = .ok (.ifCond .eq 10, 3) := by decide +kernel
theorem d_Mo_exact_30 : decode c_Mo_exact 30 = .ok (.aload_n 0, 1) := by decide +kernel
theorem d_Mo_exact_31 : decode c_Mo_exact 31 = .ok (.iconst 1, 1) := by decide +kernel
theorem d_Mo_exact_32 : decode c_Mo_exact 32 = .ok (.putfield 64, 3) := by decide +kernel
theorem d_Mo_exact_35 : decode c_Mo_exact 35 = .ok (.lconst 0, 1) := by decide +kernel
theorem d_Mo_exact_36 : decode c_Mo_exact 36 = .ok (.lreturn, 1) := by decide +kernel
theorem d_Mo_exact_37 : decode c_Mo_exact 37 = .ok (.iload_n 2, 1) := by decide +kernel
theorem d_Mo_exact_38 : decode c_Mo_exact 38 = .ok (.ifCond .ne 11, 3) := by decide +kernel
theorem d_Mo_exact_41 : decode c_Mo_exact 41 = .ok (.aload_n 0, 1) := by decide +kernel
theorem d_Mo_exact_42 : decode c_Mo_exact 42 = .ok (.getfield 34, 3) := by decide +kernel
theorem d_Mo_exact_45 : decode c_Mo_exact 45 = .ok (.iload_n 1, 1) := by decide +kernel
theorem d_Mo_exact_46 : decode c_Mo_exact 46 = .ok (.iaload, 1) := by decide +kernel
theorem d_Mo_exact_47 : decode c_Mo_exact 47 = .ok (.i2l, 1) := by decide +kernel
theorem d_Mo_exact_48 : decode c_Mo_exact 48 = .ok (.lreturn, 1) := by decide +kernel
theorem d_Mo_exact_49 : decode c_Mo_exact 49 = .ok (.iload_n 2, 1) := by decide +kernel
theorem d_Mo_exact_50 : decode c_Mo_exact 50 = .ok (.iconst 1, 1) := by decide +kernel
theorem d_Mo_exact_51 : decode c_Mo_exact 51 = .ok (.if_icmp .ne 11, 3) := by decide +kernel
theorem d_Mo_exact_54 : decode c_Mo_exact 54 = .ok (.aload_n 0, 1) := by decide +kernel
theorem d_Mo_exact_55 : decode c_Mo_exact 55 = .ok (.getfield 28, 3) := by decide +kernel
theorem d_Mo_exact_58 : decode c_Mo_exact 58 = .ok (.iload_n 1, 1) := by decide +kernel
theorem d_Mo_exact_59 : decode c_Mo_exact 59 = .ok (.iaload, 1) := by decide +kernel
theorem d_Mo_exact_60 : decode c_Mo_exact 60 = .ok (.i2l, 1) := by decide +kernel
theorem d_Mo_exact_61 : decode c_Mo_exact 61 = .ok (.lreturn, 1) := by decide +kernel
theorem d_Mo_exact_62 : decode c_Mo_exact 62 = .ok (.iload_n 2, 1) := by decide +kernel
theorem d_Mo_exact_63 : decode c_Mo_exact 63 = .ok (.iconst 2, 1) := by decide +kernel
theorem d_Mo_exact_64 : decode c_Mo_exact 64 = .ok (.if_icmp .ne 11, 3) := by decide +kernel
theorem d_Mo_exact_67 : decode c_Mo_exact 67 = .ok (.aload_n 0, 1) := by decide +kernel
theorem d_Mo_exact_68 : decode c_Mo_exact 68 = .ok (.getfield 31, 3) := by decide +kernel
theorem d_Mo_exact_71 : decode c_Mo_exact 71 = .ok (.iload_n 1, 1) := by decide +kernel
theorem d_Mo_exact_72 : decode c_Mo_exact 72 = .ok (.iaload, 1) := by decide +kernel
theorem d_Mo_exact_73 : decode c_Mo_exact 73 = .ok (.i2l, 1) := by decide +kernel
theorem d_Mo_exact_74 : decode c_Mo_exact 74 = .ok (.lreturn, 1) := by decide +kernel
theorem d_Mo_exact_75 : decode c_Mo_exact 75 = .ok (.iload_n 2, 1) := by decide +kernel
theorem d_Mo_exact_76 : decode c_Mo_exact 76 = .ok (.iconst 3, 1) := by decide +kernel
theorem d_Mo_exact_77 : decode c_Mo_exact 77 = .ok (.isub, 1) := by decide +kernel
theorem d_Mo_exact_78 : decode c_Mo_exact 78 = .ok (.istore_n 3, 1) := by decide +kernel
theorem d_Mo_exact_79 : decode c_Mo_exact 79 = .ok (.iload_n 3, 1) := by decide +kernel
theorem d_Mo_exact_80 : decode c_Mo_exact 80 = .ok (.aload_n 0, 1) := by decide +kernel
theorem d_Mo_exact_81 : decode c_Mo_exact 81 = .ok (.getfield 28, 3) := by decide +kernel
theorem d_Mo_exact_84 : decode c_Mo_exact 84 = .ok (.iload_n 1, 1) := by decide +kernel
theorem d_Mo_exact_85 : decode c_Mo_exact 85 = .ok (.iaload, 1) := by decide +kernel
theorem d_Mo_exact_86 : decode c_Mo_exact 86 = .ok (.if_icmp .ge 27, 3) := by decide +kernel
theorem d_Mo_exact_89 : decode c_Mo_exact 89 = .ok (.aload_n 0, 1) := by decide +kernel
theorem d_Mo_exact_90 : decode c_Mo_exact 90 = .ok (.getfield 25, 3) := by decide +kernel
theorem d_Mo_exact_93 : decode c_Mo_exact 93 = .ok (.bipush 31, 2) := by decide +kernel
theorem d_Mo_exact_95 : decode c_Mo_exact 95 = .ok (.iload_n 1, 1) := by decide +kernel
theorem d_Mo_exact_96 : decode c_Mo_exact 96 = .ok (.imul, 1) := by decide +kernel
theorem d_Mo_exact_97 : decode c_Mo_exact 97 = .ok (.aload_n 0, 1) := by decide +kernel
theorem d_Mo_exact_98 : decode c_Mo_exact 98 = .ok (.getfield 28, 3) := by decide +kernel
theorem d_Mo_exact_101 : decode c_Mo_exact 101 = .ok (.iload_n 1, 1) := by decide +kernel
theorem d_Mo_exact_102 : decode c_Mo_exact 102 = .ok (.iaload, 1) := by decide +kernel
theorem d_Mo_exact_103 : decode c_Mo_exact 103 = .ok (.iadd, 1) := by decide +kernel
theorem d_Mo_exact_104 : decode c_Mo_exact 104 = .ok (.iconst 1, 1) := by decide +kernel
theorem d_Mo_exact_105 : decode c_Mo_exact 105 = .ok (.isub, 1) := by decide +kernel
theorem d_Mo_exact_106 : decode c_Mo_exact 106 = .ok (.iload_n 3, 1) := by decide +kernel
theorem d_Mo_exact_107 : decode c_Mo_exact 107 = .ok (.isub, 1) := by decide +kernel
theorem d_Mo_exact_108 : decode c_Mo_exact 108 = .ok (.iaload, 1) := by decide +kernel
theorem d_Mo_exact_109 : decode c_Mo_exact 109 = .ok (.i2l, 1) := by decide +kernel
theorem d_Mo_exact_110 : decode c_Mo_exact 110 = .ok (.goto 6, 3) := by decide +kernel
theorem d_Mo_exact_113 : decode c_Mo_exact 113 = .ok (.ldc2_w 138, 3) := by decide +kernel
theorem d_Mo_exact_116 : decode c_Mo_exact 116 = .ok (.lreturn, 1) := by decide +kernel
theorem d_Mo_receiver_0 : decode c_Mo_receiver 0 = .ok (.aload_n 0, 1) := by decide +kernel
theorem d_Mo_receiver_1 : decode c_Mo_receiver 1 = .ok (.iconst 0, 1) := by decide +kernel
theorem d_Mo_receiver_2 : decode c_Mo_receiver 2 = .ok (.putfield 64, 3) := by decide +kernel
theorem d_Mo_receiver_5 : decode c_Mo_receiver 5 = .ok (.iload_n 1, 1) := by decide +kernel
theorem d_Mo_receiver_6 : decode c_Mo_receiver 6 = .ok (.iconst 1, 1) := by decide +kernel
theorem d_Mo_receiver_7 : decode c_Mo_receiver 7 = .ok (.if_icmp .lt 28, 3) := by decide +kernel
theorem d_Mo_receiver_10 : decode c_Mo_receiver 10 = .ok (.iload_n 1, 1) := by decide +kernel
theorem d_Mo_receiver_11 : decode c_Mo_receiver 11 = .ok (.bipush 18, 2) := by decide +kernel
theorem d_Mo_receiver_13 : decode c_Mo_receiver 13 = .ok (.if_icmp .gt 22, 3) := by decide +kernel
theorem d_Mo_receiver_16 : decode c_Mo_receiver 16 = .ok (.iload_n 2, 1) := by decide +kernel
theorem d_Mo_receiver_17 : decode c_Mo_receiver 17 = .ok (.ifCond .lt 18, 3) := by decide +kernel
theorem d_Mo_receiver_20 : decode c_Mo_receiver 20 = .ok (.iload_n 2, 1) := by decide +kernel
theorem d_Mo_receiver_21 : decode c_Mo_receiver 21 = .ok (.iload_n 1, 1) := by decide +kernel
theorem d_Mo_receiver_22 : decode c_Mo_receiver 22 = .ok (.if_icmp .gt 13, 3) := by decide +kernel
theorem d_Mo_receiver_25 : decode c_Mo_receiver 25 = .ok (.iload_n 3, 1) := by decide +kernel
theorem d_Mo_receiver_26 : decode c_Mo_receiver 26 = .ok (.ifCond .lt 9, 3) := by decide +kernel
theorem d_Mo_receiver_29 : decode c_Mo_receiver 29 = .ok (.iload_n 3, 1) := by decide +kernel
theorem d_Mo_receiver_30 : decode c_Mo_receiver 30 = .ok (.bipush 7, 2) := by decide +kernel
theorem d_Mo_receiver_32 : decode c_Mo_receiver 32 = .ok (.if_icmp .le 6, 3) := by decide +kernel
theorem d_Mo_receiver_35 : decode c_Mo_receiver 35 = .ok (.bipush (-4), 2) := by decide +kernel
theorem d_Mo_receiver_37 : decode c_Mo_receiver 37 = .ok (.ireturn, 1) := by decide +kernel
theorem d_Mo_receiver_38 : decode c_Mo_receiver 38 = .ok (.aload_n 0, 1) := by decide +kernel
theorem d_Mo_receiver_39 : decode c_Mo_receiver 39 = .ok (.getfield 140, 3) := by decide +kernel
theorem d_Mo_receiver_42 : decode c_Mo_receiver 42 = .ok (.bipush 20, 2) := by decide +kernel
theorem d_Mo_receiver_44 : decode c_Mo_receiver 44 = .ok (.if_icmp .ne 5, 3) := by decide +kernel
theorem d_Mo_receiver_47 : decode c_Mo_receiver 47 = .ok (.iconst (-1), 1) := by decide +kernel
theorem d_Mo_receiver_48 : decode c_Mo_receiver 48 = .ok (.ireturn, 1) := by decide +kernel
theorem d_Mo_receiver_49 : decode c_Mo_receiver 49 = .ok (.aload_n 0, 1) := by decide +kernel
theorem d_Mo_receiver_50 : decode c_Mo_receiver 50 = .ok (.dup, 1) := by decide +kernel
theorem d_Mo_receiver_51 : decode c_Mo_receiver 51 = .ok (.getfield 140, 3) := by decide +kernel
theorem d_Mo_receiver_54 : decode c_Mo_receiver 54 = .ok (.iconst 1, 1) := by decide +kernel
theorem d_Mo_receiver_55 : decode c_Mo_receiver 55 = .ok (.iadd, 1) := by decide +kernel
theorem d_Mo_receiver_56 : decode c_Mo_receiver 56 = .ok (.putfield 140, 3) := by decide +kernel
theorem d_Mo_receiver_59 : decode c_Mo_receiver 59 = .ok (.aload_n 0, 1) := by decide +kernel
theorem d_Mo_receiver_60 : decode c_Mo_receiver 60 = .ok (.getfield 40, 3) := by decide +kernel
theorem d_Mo_receiver_63 : decode c_Mo_receiver 63 = .ok (.aload_n 0, 1) := by decide +kernel
theorem d_Mo_receiver_64 : decode c_Mo_receiver 64 = .ok (.getfield 140, 3) := by decide +kernel
theorem d_Mo_receiver_67 : decode c_Mo_receiver 67 = .ok (.iload_n 1, 1) := by decide +kernel
theorem d_Mo_receiver_68 : decode c_Mo_receiver 68 = .ok (.iastore, 1) := by decide +kernel
theorem d_Mo_receiver_69 : decode c_Mo_receiver 69 = .ok (.aload_n 0, 1) := by decide +kernel
theorem d_Mo_receiver_70 : decode c_Mo_receiver 70 = .ok (.getfield 43, 3) := by decide +kernel
theorem d_Mo_receiver_73 : decode c_Mo_receiver 73 = .ok (.aload_n 0, 1) := by decide +kernel
theorem d_Mo_receiver_74 : decode c_Mo_receiver 74 = .ok (.getfield 140, 3) := by decide +kernel
theorem d_Mo_receiver_77 : decode c_Mo_receiver 77 = .ok (.iload_n 2, 1) := by decide +kernel
theorem d_Mo_receiver_78 : decode c_Mo_receiver 78 = .ok (.iastore, 1) := by decide +kernel
theorem d_Mo_receiver_79 : decode c_Mo_receiver 79 = .ok (.aload_n 0, 1) := by decide +kernel
theorem d_Mo_receiver_80 : decode c_Mo_receiver 80 = .ok (.getfield 46, 3) := by decide +kernel
theorem d_Mo_receiver_83 : decode c_Mo_receiver 83 = .ok (.aload_n 0, 1) := by decide +kernel
theorem d_Mo_receiver_84 : decode c_Mo_receiver 84 = .ok (.getfield 140, 3) := by decide +kernel
theorem d_Mo_receiver_87 : decode c_Mo_receiver 87 = .ok (.iload_n 3, 1) := by decide +kernel
theorem d_Mo_receiver_88 : decode c_Mo_receiver 88 = .ok (.iastore, 1) := by decide +kernel
theorem d_Mo_receiver_89 : decode c_Mo_receiver 89 = .ok (.aload_n 0, 1) := by decide +kernel
theorem d_Mo_receiver_90 : decode c_Mo_receiver 90 = .ok (.getfield 140, 3) := by decide +kernel
theorem d_Mo_receiver_93 : decode c_Mo_receiver 93 = .ok (.ireturn, 1) := by decide +kernel
theorem d_Mo_set_0 : decode c_Mo_set 0 = .ok (.aload_n 0, 1) := by decide +kernel
theorem d_Mo_set_1 : decode c_Mo_set 1 = .ok (.iconst 0, 1) := by decide +kernel
theorem d_Mo_set_2 : decode c_Mo_set 2 = .ok (.putfield 64, 3) := by decide +kernel
theorem d_Mo_set_5 : decode c_Mo_set 5 = .ok (.aload_n 0, 1) := by decide +kernel
theorem d_Mo_set_6 : decode c_Mo_set 6 = .ok (.iload_n 1, 1) := by decide +kernel
theorem d_Mo_set_7 : decode c_Mo_set 7 = .ok (.invokevirtual 143, 3) := by decide +kernel
theorem d_Mo_set_10 : decode c_Mo_set 10 = .ok (.ifCond .ne 6, 3) := by decide +kernel
theorem d_Mo_set_13 : decode c_Mo_set 13 = .ok (.bipush (-2), 2) := by decide +kernel
theorem d_Mo_set_15 : decode c_Mo_set 15 = .ok (.ireturn, 1) := by decide +kernel
theorem d_Mo_set_16 : decode c_Mo_set 16 = .ok (.aload_n 0, 1) := by decide +kernel
theorem d_Mo_set_17 : decode c_Mo_set 17 = .ok (.getfield 49, 3) := by decide +kernel
theorem d_Mo_set_20 : decode c_Mo_set 20 = .ok (.iload_n 1, 1) := by decide +kernel
theorem d_Mo_set_21 : decode c_Mo_set 21 = .ok (.lload_n 2, 1) := by decide +kernel
theorem d_Mo_set_22 : decode c_Mo_set 22 = .ok (.aload_n 0, 1) := by decide +kernel
theorem d_Mo_set_23 : decode c_Mo_set 23 = .ok (.getfield 40, 3) := by decide +kernel
theorem d_Mo_set_26 : decode c_Mo_set 26 = .ok (.iload_n 1, 1) := by decide +kernel
theorem d_Mo_set_27 : decode c_Mo_set 27 = .ok (.iaload, 1) := by decide +kernel
theorem d_Mo_set_28 : decode c_Mo_set 28 = .ok (.invokestatic 146, 3) := by decide +kernel
theorem d_Mo_set_31 : decode c_Mo_set 31 = .ok (.lrem, 1) := by decide +kernel
theorem d_Mo_set_32 : decode c_Mo_set 32 = .ok (.lastore, 1) := by decide +kernel
theorem d_Mo_set_33 : decode c_Mo_set 33 = .ok (.iconst 1, 1) := by decide +kernel
theorem d_Mo_set_34 : decode c_Mo_set 34 = .ok (.ireturn, 1) := by decide +kernel
theorem d_Mo_isReceiver_0 : decode c_Mo_isReceiver 0 = .ok (.iload_n 1, 1) := by decide +kernel
theorem d_Mo_isReceiver_1 : decode c_Mo_isReceiver 1 = .ok (.ifCond .le 15, 3) := by decide +kernel
theorem d_Mo_isReceiver_4 : decode c_Mo_isReceiver 4 = .ok (.iload_n 1, 1) := by decide +kernel
theorem d_Mo_isReceiver_5 : decode c_Mo_isReceiver 5 = .ok (.aload_n 0, 1) := by decide +kernel
theorem d_Mo_isReceiver_6 : decode c_Mo_isReceiver 6 = .ok (.getfield 140, 3) := by decide +kernel
theorem d_Mo_isReceiver_9 : decode c_Mo_isReceiver 9 = .ok (.if_icmp .gt 7, 3) := by decide +kernel
theorem d_Mo_isReceiver_12 : decode c_Mo_isReceiver 12 = .ok (.iconst 1, 1) := by decide +kernel
theorem d_Mo_isReceiver_13 : decode c_Mo_isReceiver 13 = .ok (.goto 4, 3) := by decide +kernel
theorem d_Mo_isReceiver_16 : decode c_Mo_isReceiver 16 = .ok (.iconst 0, 1) := by decide +kernel
theorem d_Mo_isReceiver_17 : decode c_Mo_isReceiver 17 = .ok (.ireturn, 1) := by decide +kernel
theorem d_Mo_ten_0 : decode c_Mo_ten 0 = .ok (.lconst 1, 1) := by decide +kernel
theorem d_Mo_ten_1 : decode c_Mo_ten 1 = .ok (.lstore_n 1, 1) := by decide +kernel
theorem d_Mo_ten_2 : decode c_Mo_ten 2 = .ok (.iconst 0, 1) := by decide +kernel
theorem d_Mo_ten_3 : decode c_Mo_ten 3 = .ok (.istore_n 3, 1) := by decide +kernel
theorem d_Mo_ten_4 : decode c_Mo_ten 4 = .ok (.iload_n 3, 1) := by decide +kernel
theorem d_Mo_ten_5 : decode c_Mo_ten 5 = .ok (.iload_n 0, 1) := by decide +kernel
theorem d_Mo_ten_6 : decode c_Mo_ten 6 = .ok (.if_icmp .ge 15, 3) := by decide +kernel
theorem d_Mo_ten_9 : decode c_Mo_ten 9 = .ok (.lload_n 1, 1) := by decide +kernel
theorem d_Mo_ten_10 : decode c_Mo_ten 10 = .ok (.ldc2_w 71, 3) := by decide +kernel
theorem d_Mo_ten_13 : decode c_Mo_ten 13 = .ok (.lmul, 1) := by decide +kernel
theorem d_Mo_ten_14 : decode c_Mo_ten 14 = .ok (.lstore_n 1, 1) := by decide +kernel
theorem d_Mo_ten_15 : decode c_Mo_ten 15 = .ok (.iinc 3 1, 3) := by decide +kernel
theorem d_Mo_ten_18 : decode c_Mo_ten 18 = .ok (.goto (-14), 3) := by decide +kernel
theorem d_Mo_ten_21 : decode c_Mo_ten 21 = .ok (.lload_n 1, 1) := by decide +kernel
theorem d_Mo_ten_22 : decode c_Mo_ten 22 = .ok (.lreturn, 1) := by decide +kernel
end
section
theorem d_Mo_run_0 : decode c_Mo_run 0 = .ok (.aload_n 0, 1) := by decide +kernel
theorem d_Mo_run_1 : decode c_Mo_run 1 = .ok (.iconst 0, 1) := by decide +kernel
theorem d_Mo_run_2 : decode c_Mo_run 2 = .ok (.putfield 64, 3) := by decide +kernel
theorem d_Mo_run_5 : decode c_Mo_run 5 = .ok (.iload_n 1, 1) := by decide +kernel
theorem d_Mo_run_6 : decode c_Mo_run 6 = .ok (.ifCond .lt 8, 3) := by decide +kernel
theorem d_Mo_run_9 : decode c_Mo_run 9 = .ok (.iload_n 1, 1) := by decide +kernel
theorem d_Mo_run_10 : decode c_Mo_run 10 = .ok (.iconst 4, 1) := by decide +kernel
theorem d_Mo_run_11 : decode c_Mo_run 11 = .ok (.if_icmp .le 6, 3) := by decide +kernel
theorem d_Mo_run_14 : decode c_Mo_run 14 = .ok (.bipush (-4), 2) := by decide +kernel
theorem d_Mo_run_16 : decode c_Mo_run 16 = .ok (.ireturn, 1) := by decide +kernel
theorem d_Mo_run_17 : decode c_Mo_run 17 = .ok (.aload_n 0, 1) := by decide +kernel
theorem d_Mo_run_18 : decode c_Mo_run 18 = .ok (.iload_n 2, 1) := by decide +kernel
theorem d_Mo_run_19 : decode c_Mo_run 19 = .ok (.invokevirtual 128, 3) := by decide +kernel
theorem d_Mo_run_22 : decode c_Mo_run 22 = .ok (.ifCond .ne 6, 3) := by decide +kernel
theorem d_Mo_run_25 : decode c_Mo_run 25 = .ok (.bipush (-2), 2) := by decide +kernel
theorem d_Mo_run_27 : decode c_Mo_run 27 = .ok (.ireturn, 1) := by decide +kernel
theorem d_Mo_run_28 : decode c_Mo_run 28 = .ok (.aload_n 0, 1) := by decide +kernel
theorem d_Mo_run_29 : decode c_Mo_run 29 = .ok (.iconst 0, 1) := by decide +kernel
theorem d_Mo_run_30 : decode c_Mo_run 30 = .ok (.putfield 169, 3) := by decide +kernel
theorem d_Mo_run_33 : decode c_Mo_run 33 = .ok (.iconst 0, 1) := by decide +kernel
theorem d_Mo_run_34 : decode c_Mo_run 34 = .ok (.istore 4, 2) := by decide +kernel
theorem d_Mo_run_36 : decode c_Mo_run 36 = .ok (.iconst 1, 1) := by decide +kernel
theorem d_Mo_run_37 : decode c_Mo_run 37 = .ok (.istore 5, 2) := by decide +kernel
theorem d_Mo_run_39 : decode c_Mo_run 39 = .ok (.iload 5, 2) := by decide +kernel
theorem d_Mo_run_41 : decode c_Mo_run 41 = .ok (.aload_n 0, 1) := by decide +kernel
theorem d_Mo_run_42 : decode c_Mo_run 42 = .ok (.getfield 140, 3) := by decide +kernel
theorem d_Mo_run_45 : decode c_Mo_run 45 = .ok (.if_icmp .gt 42, 3) := by decide +kernel
theorem d_Mo_run_48 : decode c_Mo_run 48 = .ok (.aload_n 0, 1) := by decide +kernel
theorem d_Mo_run_49 : decode c_Mo_run 49 = .ok (.iload_n 2, 1) := by decide +kernel
theorem d_Mo_run_50 : decode c_Mo_run 50 = .ok (.iconst 3, 1) := by decide +kernel
theorem d_Mo_run_51 : decode c_Mo_run 51 = .ok (.invokevirtual 132, 3) := by decide +kernel
theorem d_Mo_run_54 : decode c_Mo_run 54 = .ok (.iload 4, 2) := by decide +kernel
theorem d_Mo_run_56 : decode c_Mo_run 56 = .ok (.aload_n 0, 1) := by decide +kernel
theorem d_Mo_run_57 : decode c_Mo_run 57 = .ok (.iload_n 1, 1) := by decide +kernel
theorem d_Mo_run_58 : decode c_Mo_run 58 = .ok (.iload 5, 2) := by decide +kernel
theorem d_Mo_run_60 : decode c_Mo_run 60 = .ok (.aload_n 0, 1) := by decide +kernel
theorem d_Mo_run_61 : decode c_Mo_run 61 = .ok (.getfield 37, 3) := by decide +kernel
theorem d_Mo_run_64 : decode c_Mo_run 64 = .ok (.iload_n 2, 1) := by decide +kernel
theorem d_Mo_run_65 : decode c_Mo_run 65 = .ok (.iaload, 1) := by decide +kernel
theorem d_Mo_run_66 : decode c_Mo_run 66 = .ok (.iload_n 3, 1) := by decide +kernel
theorem d_Mo_run_67 : decode c_Mo_run 67 = .ok (.invokevirtual 176, 3) := by decide +kernel
theorem d_Mo_run_70 : decode c_Mo_run 70 = .ok (.ifCond .eq 7, 3) := by decide +kernel
theorem d_Mo_run_73 : decode c_Mo_run 73 = .ok (.iconst 1, 1) := by decide +kernel
theorem d_Mo_run_74 : decode c_Mo_run 74 = .ok (.goto 4, 3) := by decide +kernel
theorem d_Mo_run_77 : decode c_Mo_run 77 = .ok (.iconst 0, 1) := by decide +kernel
theorem d_Mo_run_78 : decode c_Mo_run 78 = .ok (.iadd, 1) := by decide +kernel
theorem d_Mo_run_79 : decode c_Mo_run 79 = .ok (.istore 4, 2) := by decide +kernel
theorem d_Mo_run_81 : decode c_Mo_run 81 = .ok (.iinc 5 1, 3) := by decide +kernel
theorem d_Mo_run_84 : decode c_Mo_run 84 = .ok (.goto (-45), 3) := by decide +kernel
theorem d_Mo_run_87 : decode c_Mo_run 87 = .ok (.iload 4, 2) := by decide +kernel
theorem d_Mo_run_89 : decode c_Mo_run 89 = .ok (.ireturn, 1) := by decide +kernel
theorem d_Mo_isStored_0 : decode c_Mo_isStored 0 = .ok (.aload_n 0, 1) := by decide +kernel
theorem d_Mo_isStored_1 : decode c_Mo_isStored 1 = .ok (.getfield 49, 3) := by decide +kernel
theorem d_Mo_isStored_4 : decode c_Mo_isStored 4 = .ok (.iload_n 2, 1) := by decide +kernel
theorem d_Mo_isStored_5 : decode c_Mo_isStored 5 = .ok (.laload, 1) := by decide +kernel
theorem d_Mo_isStored_6 : decode c_Mo_isStored 6 = .ok (.lstore 5, 2) := by decide +kernel
theorem d_Mo_isStored_8 : decode c_Mo_isStored 8 = .ok (.iload_n 3, 1) := by decide +kernel
theorem d_Mo_isStored_9 : decode c_Mo_isStored 9 = .ok (.ifCond .eq 7, 3) := by decide +kernel
theorem d_Mo_isStored_12 : decode c_Mo_isStored 12 = .ok (.iload_n 3, 1) := by decide +kernel
theorem d_Mo_isStored_13 : decode c_Mo_isStored 13 = .ok (.goto 9, 3) := by decide +kernel
theorem d_Mo_isStored_16 : decode c_Mo_isStored 16 = .ok (.aload_n 0, 1) := by decide +kernel
theorem d_Mo_isStored_17 : decode c_Mo_isStored 17 = .ok (.iload_n 1, 1) := by decide +kernel
theorem d_Mo_isStored_18 : decode c_Mo_isStored 18 = .ok (.iload_n 2, 1) := by decide +kernel
theorem d_Mo_isStored_19 : decode c_Mo_isStored 19 = .ok (.invokevirtual 166, 3) := by decide +kernel
theorem d_Mo_isStored_22 : decode c_Mo_isStored 22 = .ok (.istore 7, 2) := by decide +kernel
theorem d_Mo_isStored_24 : decode c_Mo_isStored 24 = .ok (.iload 7, 2) := by decide +kernel
theorem d_Mo_isStored_26 : decode c_Mo_isStored 26 = .ok (.ifCond .ne 27, 3) := by decide +kernel
theorem d_Mo_isStored_29 : decode c_Mo_isStored 29 = .ok (.aload_n 0, 1) := by decide +kernel
theorem d_Mo_isStored_30 : decode c_Mo_isStored 30 = .ok (.aload_n 0, 1) := by decide +kernel
theorem d_Mo_isStored_31 : decode c_Mo_isStored 31 = .ok (.getfield 43, 3) := by decide +kernel
theorem d_Mo_isStored_34 : decode c_Mo_isStored 34 = .ok (.iload_n 2, 1) := by decide +kernel
theorem d_Mo_isStored_35 : decode c_Mo_isStored 35 = .ok (.iaload, 1) := by decide +kernel
theorem d_Mo_isStored_36 : decode c_Mo_isStored 36 = .ok (.aload_n 0, 1) := by decide +kernel
theorem d_Mo_isStored_37 : decode c_Mo_isStored 37 = .ok (.getfield 46, 3) := by decide +kernel
theorem d_Mo_isStored_40 : decode c_Mo_isStored 40 = .ok (.iload_n 2, 1) := by decide +kernel
theorem d_Mo_isStored_41 : decode c_Mo_isStored 41 = .ok (.iaload, 1) := by decide +kernel
theorem d_Mo_isStored_42 : decode c_Mo_isStored 42 = .ok (.aload_n 0, 1) := by decide +kernel
theorem d_Mo_isStored_43 : decode c_Mo_isStored 43 = .ok (.getfield 40, 3) := by decide +kernel
theorem d_Mo_isStored_46 : decode c_Mo_isStored 46 = .ok (.iload_n 2, 1) := by decide +kernel
theorem d_Mo_isStored_47 : decode c_Mo_isStored 47 = .ok (.iaload, 1) := by decide +kernel
theorem d_Mo_isStored_48 : decode c_Mo_isStored 48 = .ok (.invokevirtual 162, 3) := by decide +kernel
theorem d_Mo_isStored_51 : decode c_Mo_isStored 51 = .ok (.istore 7, 2) := by decide +kernel
theorem d_Mo_isStored_53 : decode c_Mo_isStored 53 = .ok (.iload 7, 2) := by decide +kernel
theorem d_Mo_isStored_55 : decode c_Mo_isStored 55 = .ok (.ifCond .eq 7, 3) := by decide +kernel
theorem d_Mo_isStored_58 : decode c_Mo_isStored 58 = .ok (.iconst 1, 1) := by decide +kernel
theorem d_Mo_isStored_59 : decode c_Mo_isStored 59 = .ok (.goto 4, 3) := by decide +kernel
theorem d_Mo_isStored_62 : decode c_Mo_isStored 62 = .ok (.iconst 0, 1) := by decide +kernel
theorem d_Mo_isStored_63 : decode c_Mo_isStored 63 = .ok (.istore 8, 2) := by decide +kernel
theorem d_Mo_isStored_65 : decode c_Mo_isStored 65 = .ok (.aload_n 0, 1) := by decide +kernel
theorem d_Mo_isStored_66 : decode c_Mo_isStored 66 = .ok (.getfield 56, 3) := by decide +kernel
theorem d_Mo_isStored_69 : decode c_Mo_isStored 69 = .ok (.iload_n 2, 1) := by decide +kernel
theorem d_Mo_isStored_70 : decode c_Mo_isStored 70 = .ok (.iload 8, 2) := by decide +kernel
theorem d_Mo_isStored_72 : decode c_Mo_isStored 72 = .ok (.ifCond .ne 10, 3) := by decide +kernel
theorem d_Mo_isStored_75 : decode c_Mo_isStored 75 = .ok (.aload_n 0, 1) := by decide +kernel
theorem d_Mo_isStored_76 : decode c_Mo_isStored 76 = .ok (.getfield 154, 3) := by decide +kernel
theorem d_Mo_isStored_79 : decode c_Mo_isStored 79 = .ok (.ifCond .eq 7, 3) := by decide +kernel
theorem d_Mo_isStored_82 : decode c_Mo_isStored 82 = .ok (.iconst 1, 1) := by decide +kernel
theorem d_Mo_isStored_83 : decode c_Mo_isStored 83 = .ok (.goto 4, 3) := by decide +kernel
theorem d_Mo_isStored_86 : decode c_Mo_isStored 86 = .ok (.iconst 0, 1) := by decide +kernel
theorem d_Mo_isStored_87 : decode c_Mo_isStored 87 = .ok (.bastore, 1) := by decide +kernel
theorem d_Mo_isStored_88 : decode c_Mo_isStored 88 = .ok (.aload_n 0, 1) := by decide +kernel
theorem d_Mo_isStored_89 : decode c_Mo_isStored 89 = .ok (.getfield 56, 3) := by decide +kernel
theorem d_Mo_isStored_92 : decode c_Mo_isStored 92 = .ok (.iload_n 2, 1) := by decide +kernel
theorem d_Mo_isStored_93 : decode c_Mo_isStored 93 = .ok (.baload, 1) := by decide +kernel
theorem d_Mo_isStored_94 : decode c_Mo_isStored 94 = .ok (.ifCond .eq 18, 3) := by decide +kernel
theorem d_Mo_isStored_97 : decode c_Mo_isStored 97 = .ok (.aload_n 0, 1) := by decide +kernel
theorem d_Mo_isStored_98 : decode c_Mo_isStored 98 = .ok (.iload 8, 2) := by decide +kernel
theorem d_Mo_isStored_100 : decode c_Mo_isStored 100 = .ok (.ifCond .eq 8, 3) := by decide +kernel
theorem d_Mo_isStored_103 : decode c_Mo_isStored 103 = .ok (.iload 7, 2) := by decide +kernel
theorem d_Mo_isStored_105 : decode c_Mo_isStored 105 = .ok (.goto 4, 3) := by decide +kernel
theorem d_Mo_isStored_108 : decode c_Mo_isStored 108 = .ok (.iconst 1, 1) := by decide +kernel
theorem d_Mo_isStored_109 : decode c_Mo_isStored 109 = .ok (.putfield 169, 3) := by decide +kernel
theorem d_Mo_isStored_112 : decode c_Mo_isStored 112 = .ok (.iload 8, 2) := by decide +kernel
theorem d_Mo_isStored_114 : decode c_Mo_isStored 114 = .ok (.ifCond .ne 37, 3) := by decide +kernel
theorem d_Mo_isStored_117 : decode c_Mo_isStored 117 = .ok (.aload_n 0, 1) := by decide +kernel
theorem d_Mo_isStored_118 : decode c_Mo_isStored 118 = .ok (.getfield 56, 3) := by decide +kernel
theorem d_Mo_isStored_121 : decode c_Mo_isStored 121 = .ok (.iload_n 2, 1) := by decide +kernel
theorem d_Mo_isStored_122 : decode c_Mo_isStored 122 = .ok (.baload, 1) := by decide +kernel
theorem d_Mo_isStored_123 : decode c_Mo_isStored 123 = .ok (.ifCond .eq 8, 3) := by decide +kernel
theorem d_Mo_isStored_126 : decode c_Mo_isStored 126 = .ok (.iload 4, 2) := by decide +kernel
theorem d_Mo_isStored_128 : decode c_Mo_isStored 128 = .ok (.ifCond .ne 23, 3) := by decide +kernel
theorem d_Mo_isStored_131 : decode c_Mo_isStored 131 = .ok (.aload_n 0, 1) := by decide +kernel
theorem d_Mo_isStored_132 : decode c_Mo_isStored 132 = .ok (.getfield 49, 3) := by decide +kernel
theorem d_Mo_isStored_135 : decode c_Mo_isStored 135 = .ok (.iload_n 2, 1) := by decide +kernel
theorem d_Mo_isStored_136 : decode c_Mo_isStored 136 = .ok (.aload_n 0, 1) := by decide +kernel
theorem d_Mo_isStored_137 : decode c_Mo_isStored 137 = .ok (.getfield 158, 3) := by decide +kernel
theorem d_Mo_isStored_140 : decode c_Mo_isStored 140 = .ok (.aload_n 0, 1) := by decide +kernel
theorem d_Mo_isStored_141 : decode c_Mo_isStored 141 = .ok (.getfield 40, 3) := by decide +kernel
theorem d_Mo_isStored_144 : decode c_Mo_isStored 144 = .ok (.iload_n 2, 1) := by decide +kernel
theorem d_Mo_isStored_145 : decode c_Mo_isStored 145 = .ok (.iaload, 1) := by decide +kernel
theorem d_Mo_isStored_146 : decode c_Mo_isStored 146 = .ok (.invokestatic 146, 3) := by decide +kernel
theorem d_Mo_isStored_149 : decode c_Mo_isStored 149 = .ok (.lrem, 1) := by decide +kernel
theorem d_Mo_isStored_150 : decode c_Mo_isStored 150 = .ok (.lastore, 1) := by decide +kernel
theorem d_Mo_isStored_151 : decode c_Mo_isStored 151 = .ok (.iload_n 1, 1) := by decide +kernel
theorem d_Mo_isStored_152 : decode c_Mo_isStored 152 = .ok (.iconst 4, 1) := by decide +kernel
theorem d_Mo_isStored_153 : decode c_Mo_isStored 153 = .ok (.if_icmp .ne 29, 3) := by decide +kernel
theorem d_Mo_isStored_156 : decode c_Mo_isStored 156 = .ok (.aload_n 0, 1) := by decide +kernel
theorem d_Mo_isStored_157 : decode c_Mo_isStored 157 = .ok (.getfield 53, 3) := by decide +kernel
theorem d_Mo_isStored_160 : decode c_Mo_isStored 160 = .ok (.iload_n 2, 1) := by decide +kernel
theorem d_Mo_isStored_161 : decode c_Mo_isStored 161 = .ok (.aload_n 0, 1) := by decide +kernel
theorem d_Mo_isStored_162 : decode c_Mo_isStored 162 = .ok (.getfield 56, 3) := by decide +kernel
theorem d_Mo_isStored_165 : decode c_Mo_isStored 165 = .ok (.iload_n 2, 1) := by decide +kernel
theorem d_Mo_isStored_166 : decode c_Mo_isStored 166 = .ok (.baload, 1) := by decide +kernel
theorem d_Mo_isStored_167 : decode c_Mo_isStored 167 = .ok (.ifCond .eq 7, 3) := by decide +kernel
theorem d_Mo_isStored_170 : decode c_Mo_isStored 170 = .ok (.lconst 0, 1) := by decide +kernel
theorem d_Mo_isStored_171 : decode c_Mo_isStored 171 = .ok (.goto 10, 3) := by decide +kernel
theorem d_Mo_isStored_174 : decode c_Mo_isStored 174 = .ok (.aload_n 0, 1) := by decide +kernel
theorem d_Mo_isStored_175 : decode c_Mo_isStored 175 = .ok (.iload_n 2, 1) := by decide +kernel
theorem d_Mo_isStored_176 : decode c_Mo_isStored 176 = .ok (.lload 5, 2) := by decide +kernel
theorem d_Mo_isStored_178 : decode c_Mo_isStored 178 = .ok (.invokevirtual 172, 3) := by decide +kernel
theorem d_Mo_isStored_181 : decode c_Mo_isStored 181 = .ok (.lastore, 1) := by decide +kernel
theorem d_Mo_isStored_182 : decode c_Mo_isStored 182 = .ok (.aload_n 0, 1) := by decide +kernel
theorem d_Mo_isStored_183 : decode c_Mo_isStored 183 = .ok (.getfield 56, 3) := by decide +kernel
theorem d_Mo_isStored_186 : decode c_Mo_isStored 186 = .ok (.iload_n 2, 1) := by decide +kernel
theorem d_Mo_isStored_187 : decode c_Mo_isStored 187 = .ok (.baload, 1) := by decide +kernel
theorem d_Mo_isStored_188 : decode c_Mo_isStored 188 = .ok (.ifCond .ne 7, 3) := by decide +kernel
theorem d_Mo_isStored_191 : decode c_Mo_isStored 191 = .ok (.iconst 1, 1) := by decide +kernel
theorem d_Mo_isStored_192 : decode c_Mo_isStored 192 = .ok (.goto 4, 3) := by decide +kernel
theorem d_Mo_isStored_195 : decode c_Mo_isStored 195 = .ok (.iconst 0, 1) := by decide +kernel
theorem d_Mo_isStored_196 : decode c_Mo_isStored 196 = .ok (.ireturn, 1) := by decide +kernel
theorem d_Mo_given_0 : decode c_Mo_given 0 = .ok (.aload_n 0, 1) := by decide +kernel
theorem d_Mo_given_1 : decode c_Mo_given 1 = .ok (.iconst 3, 1) := by decide +kernel
theorem d_Mo_given_2 : decode c_Mo_given 2 = .ok (.iconst 1, 1) := by decide +kernel
theorem d_Mo_given_3 : decode c_Mo_given 3 = .ok (.invokevirtual 81, 3) := by decide +kernel
theorem d_Mo_given_6 : decode c_Mo_given 6 = .ok (.aload_n 0, 1) := by decide +kernel
theorem d_Mo_given_7 : decode c_Mo_given 7 = .ok (.aload_n 0, 1) := by decide +kernel
theorem d_Mo_given_8 : decode c_Mo_given 8 = .ok (.getfield 49, 3) := by decide +kernel
theorem d_Mo_given_11 : decode c_Mo_given 11 = .ok (.iload_n 2, 1) := by decide +kernel
theorem d_Mo_given_12 : decode c_Mo_given 12 = .ok (.laload, 1) := by decide +kernel
theorem d_Mo_given_13 : decode c_Mo_given 13 = .ok (.iconst 0, 1) := by decide +kernel
theorem d_Mo_given_14 : decode c_Mo_given 14 = .ok (.aload_n 0, 1) := by decide +kernel
theorem d_Mo_given_15 : decode c_Mo_given 15 = .ok (.getfield 43, 3) := by decide +kernel
theorem d_Mo_given_18 : decode c_Mo_given 18 = .ok (.iload_n 2, 1) := by decide +kernel
theorem d_Mo_given_19 : decode c_Mo_given 19 = .ok (.iaload, 1) := by decide +kernel
theorem d_Mo_given_20 : decode c_Mo_given 20 = .ok (.isub, 1) := by decide +kernel
theorem d_Mo_given_21 : decode c_Mo_given 21 = .ok (.iconst 0, 1) := by decide +kernel
theorem d_Mo_given_22 : decode c_Mo_given 22 = .ok (.invokevirtual 106, 3) := by decide +kernel
theorem d_Mo_given_25 : decode c_Mo_given 25 = .ok (.iconst 0, 1) := by decide +kernel
theorem d_Mo_given_26 : decode c_Mo_given 26 = .ok (.istore_n 3, 1) := by decide +kernel
theorem d_Mo_given_27 : decode c_Mo_given 27 = .ok (.iload_n 1, 1) := by decide +kernel
theorem d_Mo_given_28 : decode c_Mo_given 28 = .ok (.ifCond .ne 9, 3) := by decide +kernel
theorem d_Mo_given_31 : decode c_Mo_given 31 = .ok (.aload_n 0, 1) := by decide +kernel
theorem d_Mo_given_32 : decode c_Mo_given 32 = .ok (.iconst 3, 1) := by decide +kernel
theorem d_Mo_given_33 : decode c_Mo_given 33 = .ok (.iconst 2, 1) := by decide +kernel
theorem d_Mo_given_34 : decode c_Mo_given 34 = .ok (.invokevirtual 81, 3) := by decide +kernel
theorem d_Mo_given_37 : decode c_Mo_given 37 = .ok (.iload_n 1, 1) := by decide +kernel
theorem d_Mo_given_38 : decode c_Mo_given 38 = .ok (.iconst 1, 1) := by decide +kernel
theorem d_Mo_given_39 : decode c_Mo_given 39 = .ok (.if_icmp .ne 9, 3) := by decide +kernel
theorem d_Mo_given_42 : decode c_Mo_given 42 = .ok (.aload_n 0, 1) := by decide +kernel
theorem d_Mo_given_43 : decode c_Mo_given 43 = .ok (.iconst 0, 1) := by decide +kernel
theorem d_Mo_given_44 : decode c_Mo_given 44 = .ok (.invokevirtual 135, 3) := by decide +kernel
theorem d_Mo_given_47 : decode c_Mo_given 47 = .ok (.istore_n 3, 1) := by decide +kernel
theorem d_Mo_given_48 : decode c_Mo_given 48 = .ok (.iload_n 1, 1) := by decide +kernel
theorem d_Mo_given_49 : decode c_Mo_given 49 = .ok (.iconst 2, 1) := by decide +kernel
theorem d_Mo_given_50 : decode c_Mo_given 50 = .ok (.if_icmp .ne 9, 3) := by decide +kernel
theorem d_Mo_given_53 : decode c_Mo_given 53 = .ok (.aload_n 0, 1) := by decide +kernel
theorem d_Mo_given_54 : decode c_Mo_given 54 = .ok (.iconst 1, 1) := by decide +kernel
theorem d_Mo_given_55 : decode c_Mo_given 55 = .ok (.invokevirtual 135, 3) := by decide +kernel
theorem d_Mo_given_58 : decode c_Mo_given 58 = .ok (.istore_n 3, 1) := by decide +kernel
theorem d_Mo_given_59 : decode c_Mo_given 59 = .ok (.iload_n 1, 1) := by decide +kernel
theorem d_Mo_given_60 : decode c_Mo_given 60 = .ok (.iconst 3, 1) := by decide +kernel
theorem d_Mo_given_61 : decode c_Mo_given 61 = .ok (.if_icmp .ne 9, 3) := by decide +kernel
theorem d_Mo_given_64 : decode c_Mo_given 64 = .ok (.aload_n 0, 1) := by decide +kernel
theorem d_Mo_given_65 : decode c_Mo_given 65 = .ok (.iconst 2, 1) := by decide +kernel
theorem d_Mo_given_66 : decode c_Mo_given 66 = .ok (.invokevirtual 135, 3) := by decide +kernel
theorem d_Mo_given_69 : decode c_Mo_given 69 = .ok (.istore_n 3, 1) := by decide +kernel
theorem d_Mo_given_70 : decode c_Mo_given 70 = .ok (.iload_n 1, 1) := by decide +kernel
theorem d_Mo_given_71 : decode c_Mo_given 71 = .ok (.iconst 4, 1) := by decide +kernel
theorem d_Mo_given_72 : decode c_Mo_given 72 = .ok (.if_icmp .ne 9, 3) := by decide +kernel
theorem d_Mo_given_75 : decode c_Mo_given 75 = .ok (.aload_n 0, 1) := by decide +kernel
theorem d_Mo_given_76 : decode c_Mo_given 76 = .ok (.iconst 3, 1) := by decide +kernel
theorem d_Mo_given_77 : decode c_Mo_given 77 = .ok (.invokevirtual 135, 3) := by decide +kernel
theorem d_Mo_given_80 : decode c_Mo_given 80 = .ok (.istore_n 3, 1) := by decide +kernel
theorem d_Mo_given_81 : decode c_Mo_given 81 = .ok (.aload_n 0, 1) := by decide +kernel
theorem d_Mo_given_82 : decode c_Mo_given 82 = .ok (.iconst 2, 1) := by decide +kernel
theorem d_Mo_given_83 : decode c_Mo_given 83 = .ok (.iconst 4, 1) := by decide +kernel
theorem d_Mo_given_84 : decode c_Mo_given 84 = .ok (.invokevirtual 81, 3) := by decide +kernel
theorem d_Mo_given_87 : decode c_Mo_given 87 = .ok (.iload_n 3, 1) := by decide +kernel
theorem d_Mo_given_88 : decode c_Mo_given 88 = .ok (.ireturn, 1) := by decide +kernel
theorem d_Mo_round_0 : decode c_Mo_round 0 = .ok (.iconst 0, 1) := by decide +kernel
theorem d_Mo_round_1 : decode c_Mo_round 1 = .ok (.iload_n 1, 1) := by decide +kernel
theorem d_Mo_round_2 : decode c_Mo_round 2 = .ok (.isub, 1) := by decide +kernel
theorem d_Mo_round_3 : decode c_Mo_round 3 = .ok (.istore 4, 2) := by decide +kernel
theorem d_Mo_round_5 : decode c_Mo_round 5 = .ok (.iload_n 2, 1) := by decide +kernel
theorem d_Mo_round_6 : decode c_Mo_round 6 = .ok (.bipush 7, 2) := by decide +kernel
theorem d_Mo_round_8 : decode c_Mo_round 8 = .ok (.if_icmp .ne 25, 3) := by decide +kernel
theorem d_Mo_round_11 : decode c_Mo_round 11 = .ok (.aload_n 0, 1) := by decide +kernel
theorem d_Mo_round_12 : decode c_Mo_round 12 = .ok (.getfield 13, 3) := by decide +kernel
theorem d_Mo_round_15 : decode c_Mo_round 15 = .ok (.iconst 4, 1) := by decide +kernel
theorem d_Mo_round_16 : decode c_Mo_round 16 = .ok (.iaload, 1) := by decide +kernel
theorem d_Mo_round_17 : decode c_Mo_round 17 = .ok (.ifCond .le 16, 3) := by decide +kernel
theorem d_Mo_round_20 : decode c_Mo_round 20 = .ok (.aload_n 0, 1) := by decide +kernel
theorem d_Mo_round_21 : decode c_Mo_round 21 = .ok (.getfield 16, 3) := by decide +kernel
theorem d_Mo_round_24 : decode c_Mo_round 24 = .ok (.iconst 4, 1) := by decide +kernel
theorem d_Mo_round_25 : decode c_Mo_round 25 = .ok (.iaload, 1) := by decide +kernel
theorem d_Mo_round_26 : decode c_Mo_round 26 = .ok (.iload 4, 2) := by decide +kernel
theorem d_Mo_round_28 : decode c_Mo_round 28 = .ok (.if_icmp .ge 5, 3) := by decide +kernel
theorem d_Mo_round_31 : decode c_Mo_round 31 = .ok (.iconst 3, 1) := by decide +kernel
theorem d_Mo_round_32 : decode c_Mo_round 32 = .ok (.ireturn, 1) := by decide +kernel
theorem d_Mo_round_33 : decode c_Mo_round 33 = .ok (.aload_n 0, 1) := by decide +kernel
theorem d_Mo_round_34 : decode c_Mo_round 34 = .ok (.iload 4, 2) := by decide +kernel
theorem d_Mo_round_36 : decode c_Mo_round 36 = .ok (.iload_n 2, 1) := by decide +kernel
theorem d_Mo_round_37 : decode c_Mo_round 37 = .ok (.invokevirtual 150, 3) := by decide +kernel
theorem d_Mo_round_40 : decode c_Mo_round 40 = .ok (.ifCond .eq 7, 3) := by decide +kernel
theorem d_Mo_round_43 : decode c_Mo_round 43 = .ok (.iconst 1, 1) := by decide +kernel
theorem d_Mo_round_44 : decode c_Mo_round 44 = .ok (.goto 4, 3) := by decide +kernel
theorem d_Mo_round_47 : decode c_Mo_round 47 = .ok (.iconst 0, 1) := by decide +kernel
theorem d_Mo_round_48 : decode c_Mo_round 48 = .ok (.istore 5, 2) := by decide +kernel
theorem d_Mo_round_50 : decode c_Mo_round 50 = .ok (.aload_n 0, 1) := by decide +kernel
theorem d_Mo_round_51 : decode c_Mo_round 51 = .ok (.iconst 4, 1) := by decide +kernel
theorem d_Mo_round_52 : decode c_Mo_round 52 = .ok (.invokevirtual 87, 3) := by decide +kernel
theorem d_Mo_round_55 : decode c_Mo_round 55 = .ok (.iload 4, 2) := by decide +kernel
theorem d_Mo_round_57 : decode c_Mo_round 57 = .ok (.if_icmp .ge 8, 3) := by decide +kernel
theorem d_Mo_round_60 : decode c_Mo_round 60 = .ok (.iload 4, 2) := by decide +kernel
theorem d_Mo_round_62 : decode c_Mo_round 62 = .ok (.goto 8, 3) := by decide +kernel
theorem d_Mo_round_65 : decode c_Mo_round 65 = .ok (.aload_n 0, 1) := by decide +kernel
theorem d_Mo_round_66 : decode c_Mo_round 66 = .ok (.iconst 4, 1) := by decide +kernel
theorem d_Mo_round_67 : decode c_Mo_round 67 = .ok (.invokevirtual 87, 3) := by decide +kernel
theorem d_Mo_round_70 : decode c_Mo_round 70 = .ok (.istore 6, 2) := by decide +kernel
theorem d_Mo_round_72 : decode c_Mo_round 72 = .ok (.lconst 0, 1) := by decide +kernel
theorem d_Mo_round_73 : decode c_Mo_round 73 = .ok (.lstore 7, 2) := by decide +kernel
theorem d_Mo_round_75 : decode c_Mo_round 75 = .ok (.lconst 1, 1) := by decide +kernel
theorem d_Mo_round_76 : decode c_Mo_round 76 = .ok (.lstore 9, 2) := by decide +kernel
theorem d_Mo_round_78 : decode c_Mo_round 78 = .ok (.aload_n 0, 1) := by decide +kernel
theorem d_Mo_round_79 : decode c_Mo_round 79 = .ok (.iconst 0, 1) := by decide +kernel
theorem d_Mo_round_80 : decode c_Mo_round 80 = .ok (.putfield 154, 3) := by decide +kernel
theorem d_Mo_round_83 : decode c_Mo_round 83 = .ok (.iload 4, 2) := by decide +kernel
theorem d_Mo_round_85 : decode c_Mo_round 85 = .ok (.istore 11, 2) := by decide +kernel
theorem d_Mo_round_87 : decode c_Mo_round 87 = .ok (.iload 11, 2) := by decide +kernel
theorem d_Mo_round_89 : decode c_Mo_round 89 = .ok (.iload 6, 2) := by decide +kernel
theorem d_Mo_round_91 : decode c_Mo_round 91 = .ok (.if_icmp .gt 109, 3) := by decide +kernel
theorem d_Mo_round_94 : decode c_Mo_round 94 = .ok (.aload_n 0, 1) := by decide +kernel
theorem d_Mo_round_95 : decode c_Mo_round 95 = .ok (.iconst 4, 1) := by decide +kernel
theorem d_Mo_round_96 : decode c_Mo_round 96 = .ok (.iload 11, 2) := by decide +kernel
theorem d_Mo_round_98 : decode c_Mo_round 98 = .ok (.invokevirtual 77, 3) := by decide +kernel
theorem d_Mo_round_101 : decode c_Mo_round 101 = .ok (.iload 5, 2) := by decide +kernel
theorem d_Mo_round_103 : decode c_Mo_round 103 = .ok (.iadd, 1) := by decide +kernel
theorem d_Mo_round_104 : decode c_Mo_round 104 = .ok (.istore 12, 2) := by decide +kernel
theorem d_Mo_round_106 : decode c_Mo_round 106 = .ok (.iload 12, 2) := by decide +kernel
theorem d_Mo_round_108 : decode c_Mo_round 108 = .ok (.bipush 10, 2) := by decide +kernel
theorem d_Mo_round_110 : decode c_Mo_round 110 = .ok (.idiv, 1) := by decide +kernel
theorem d_Mo_round_111 : decode c_Mo_round 111 = .ok (.istore 5, 2) := by decide +kernel
theorem d_Mo_round_113 : decode c_Mo_round 113 = .ok (.iload 12, 2) := by decide +kernel
theorem d_Mo_round_115 : decode c_Mo_round 115 = .ok (.bipush 10, 2) := by decide +kernel
theorem d_Mo_round_117 : decode c_Mo_round 117 = .ok (.irem, 1) := by decide +kernel
theorem d_Mo_round_118 : decode c_Mo_round 118 = .ok (.istore 12, 2) := by decide +kernel
theorem d_Mo_round_120 : decode c_Mo_round 120 = .ok (.iload 11, 2) := by decide +kernel
theorem d_Mo_round_122 : decode c_Mo_round 122 = .ok (.iload 4, 2) := by decide +kernel
theorem d_Mo_round_124 : decode c_Mo_round 124 = .ok (.bipush 18, 2) := by decide +kernel
theorem d_Mo_round_126 : decode c_Mo_round 126 = .ok (.iadd, 1) := by decide +kernel
theorem d_Mo_round_127 : decode c_Mo_round 127 = .ok (.if_icmp .ge 14, 3) := by decide +kernel
theorem d_Mo_round_130 : decode c_Mo_round 130 = .ok (.lload 7, 2) := by decide +kernel
theorem d_Mo_round_132 : decode c_Mo_round 132 = .ok (.lload 9, 2) := by decide +kernel
theorem d_Mo_round_134 : decode c_Mo_round 134 = .ok (.iload 12, 2) := by decide +kernel
theorem d_Mo_round_136 : decode c_Mo_round 136 = .ok (.i2l, 1) := by decide +kernel
theorem d_Mo_round_137 : decode c_Mo_round 137 = .ok (.lmul, 1) := by decide +kernel
theorem d_Mo_round_138 : decode c_Mo_round 138 = .ok (.ladd, 1) := by decide +kernel
theorem d_Mo_round_139 : decode c_Mo_round 139 = .ok (.lstore 7, 2) := by decide +kernel
theorem d_Mo_round_141 : decode c_Mo_round 141 = .ok (.iload 11, 2) := by decide +kernel
theorem d_Mo_round_143 : decode c_Mo_round 143 = .ok (.iload 4, 2) := by decide +kernel
theorem d_Mo_round_145 : decode c_Mo_round 145 = .ok (.bipush 18, 2) := by decide +kernel
theorem d_Mo_round_147 : decode c_Mo_round 147 = .ok (.iadd, 1) := by decide +kernel
theorem d_Mo_round_148 : decode c_Mo_round 148 = .ok (.if_icmp .ge 12, 3) := by decide +kernel
theorem d_Mo_round_151 : decode c_Mo_round 151 = .ok (.lload 9, 2) := by decide +kernel
theorem d_Mo_round_153 : decode c_Mo_round 153 = .ok (.ldc2_w 71, 3) := by decide +kernel
theorem d_Mo_round_156 : decode c_Mo_round 156 = .ok (.lmul, 1) := by decide +kernel
theorem d_Mo_round_157 : decode c_Mo_round 157 = .ok (.goto 5, 3) := by decide +kernel
theorem d_Mo_round_160 : decode c_Mo_round 160 = .ok (.lload 9, 2) := by decide +kernel
theorem d_Mo_round_162 : decode c_Mo_round 162 = .ok (.lstore 9, 2) := by decide +kernel
theorem d_Mo_round_164 : decode c_Mo_round 164 = .ok (.aload_n 0, 1) := by decide +kernel
theorem d_Mo_round_165 : decode c_Mo_round 165 = .ok (.aload_n 0, 1) := by decide +kernel
theorem d_Mo_round_166 : decode c_Mo_round 166 = .ok (.getfield 154, 3) := by decide +kernel
theorem d_Mo_round_169 : decode c_Mo_round 169 = .ok (.ifCond .ne 17, 3) := by decide +kernel
theorem d_Mo_round_172 : decode c_Mo_round 172 = .ok (.iload 12, 2) := by decide +kernel
theorem d_Mo_round_174 : decode c_Mo_round 174 = .ok (.ifCond .le 16, 3) := by decide +kernel
theorem d_Mo_round_177 : decode c_Mo_round 177 = .ok (.iload 11, 2) := by decide +kernel
theorem d_Mo_round_179 : decode c_Mo_round 179 = .ok (.iload 4, 2) := by decide +kernel
theorem d_Mo_round_181 : decode c_Mo_round 181 = .ok (.iload_n 3, 1) := by decide +kernel
theorem d_Mo_round_182 : decode c_Mo_round 182 = .ok (.iadd, 1) := by decide +kernel
theorem d_Mo_round_183 : decode c_Mo_round 183 = .ok (.if_icmp .lt 7, 3) := by decide +kernel
theorem d_Mo_round_186 : decode c_Mo_round 186 = .ok (.iconst 1, 1) := by decide +kernel
theorem d_Mo_round_187 : decode c_Mo_round 187 = .ok (.goto 4, 3) := by decide +kernel
theorem d_Mo_round_190 : decode c_Mo_round 190 = .ok (.iconst 0, 1) := by decide +kernel
theorem d_Mo_round_191 : decode c_Mo_round 191 = .ok (.putfield 154, 3) := by decide +kernel
theorem d_Mo_round_194 : decode c_Mo_round 194 = .ok (.iinc 11 1, 3) := by decide +kernel
theorem d_Mo_round_197 : decode c_Mo_round 197 = .ok (.goto (-110), 3) := by decide +kernel
theorem d_Mo_round_200 : decode c_Mo_round 200 = .ok (.aload_n 0, 1) := by decide +kernel
theorem d_Mo_round_201 : decode c_Mo_round 201 = .ok (.aload_n 0, 1) := by decide +kernel
theorem d_Mo_round_202 : decode c_Mo_round 202 = .ok (.getfield 19, 3) := by decide +kernel
theorem d_Mo_round_205 : decode c_Mo_round 205 = .ok (.iconst 4, 1) := by decide +kernel
theorem d_Mo_round_206 : decode c_Mo_round 206 = .ok (.iaload, 1) := by decide +kernel
theorem d_Mo_round_207 : decode c_Mo_round 207 = .ok (.ifCond .ge 10, 3) := by decide +kernel
theorem d_Mo_round_210 : decode c_Mo_round 210 = .ok (.lconst 0, 1) := by decide +kernel
theorem d_Mo_round_211 : decode c_Mo_round 211 = .ok (.lload 7, 2) := by decide +kernel
theorem d_Mo_round_213 : decode c_Mo_round 213 = .ok (.lsub, 1) := by decide +kernel
theorem d_Mo_round_214 : decode c_Mo_round 214 = .ok (.goto 5, 3) := by decide +kernel
theorem d_Mo_round_217 : decode c_Mo_round 217 = .ok (.lload 7, 2) := by decide +kernel
theorem d_Mo_round_219 : decode c_Mo_round 219 = .ok (.putfield 158, 3) := by decide +kernel
theorem d_Mo_round_222 : decode c_Mo_round 222 = .ok (.iconst 0, 1) := by decide +kernel
theorem d_Mo_round_223 : decode c_Mo_round 223 = .ok (.ireturn, 1) := by decide +kernel
theorem d_Mo_goesUp_0 : decode c_Mo_goesUp 0 = .ok (.aload_n 0, 1) := by decide +kernel
theorem d_Mo_goesUp_1 : decode c_Mo_goesUp 1 = .ok (.getfield 13, 3) := by decide +kernel
theorem d_Mo_goesUp_4 : decode c_Mo_goesUp 4 = .ok (.iconst 4, 1) := by decide +kernel
theorem d_Mo_goesUp_5 : decode c_Mo_goesUp 5 = .ok (.iaload, 1) := by decide +kernel
theorem d_Mo_goesUp_6 : decode c_Mo_goesUp 6 = .ok (.ifCond .eq 13, 3) := by decide +kernel
theorem d_Mo_goesUp_9 : decode c_Mo_goesUp 9 = .ok (.aload_n 0, 1) := by decide +kernel
theorem d_Mo_goesUp_10 : decode c_Mo_goesUp 10 = .ok (.getfield 16, 3) := by decide +kernel
theorem d_Mo_goesUp_13 : decode c_Mo_goesUp 13 = .ok (.iconst 4, 1) := by decide +kernel
theorem d_Mo_goesUp_14 : decode c_Mo_goesUp 14 = .ok (.iaload, 1) := by decide +kernel
theorem d_Mo_goesUp_15 : decode c_Mo_goesUp 15 = .ok (.iload_n 1, 1) := by decide +kernel
theorem d_Mo_goesUp_16 : decode c_Mo_goesUp 16 = .ok (.if_icmp .lt 7, 3) := by decide +kernel
theorem d_Mo_goesUp_19 : decode c_Mo_goesUp 19 = .ok (.iconst 1, 1) := by decide +kernel
theorem d_Mo_goesUp_20 : decode c_Mo_goesUp 20 = .ok (.goto 4, 3) := by decide +kernel
theorem d_Mo_goesUp_23 : decode c_Mo_goesUp 23 = .ok (.iconst 0, 1) := by decide +kernel
theorem d_Mo_goesUp_24 : decode c_Mo_goesUp 24 = .ok (.istore_n 3, 1) := by decide +kernel
theorem d_Mo_goesUp_25 : decode c_Mo_goesUp 25 = .ok (.iload_n 3, 1) := by decide +kernel
theorem d_Mo_goesUp_26 : decode c_Mo_goesUp 26 = .ok (.ifCond .eq 5, 3) := by decide +kernel
theorem d_Mo_goesUp_29 : decode c_Mo_goesUp 29 = .ok (.iconst 0, 1) := by decide +kernel
theorem d_Mo_goesUp_30 : decode c_Mo_goesUp 30 = .ok (.ireturn, 1) := by decide +kernel
theorem d_Mo_goesUp_31 : decode c_Mo_goesUp 31 = .ok (.aload_n 0, 1) := by decide +kernel
theorem d_Mo_goesUp_32 : decode c_Mo_goesUp 32 = .ok (.iconst 4, 1) := by decide +kernel
theorem d_Mo_goesUp_33 : decode c_Mo_goesUp 33 = .ok (.iload_n 1, 1) := by decide +kernel
theorem d_Mo_goesUp_34 : decode c_Mo_goesUp 34 = .ok (.iconst 1, 1) := by decide +kernel
theorem d_Mo_goesUp_35 : decode c_Mo_goesUp 35 = .ok (.isub, 1) := by decide +kernel
theorem d_Mo_goesUp_36 : decode c_Mo_goesUp 36 = .ok (.invokevirtual 77, 3) := by decide +kernel
theorem d_Mo_goesUp_39 : decode c_Mo_goesUp 39 = .ok (.istore 4, 2) := by decide +kernel
theorem d_Mo_goesUp_41 : decode c_Mo_goesUp 41 = .ok (.aload_n 0, 1) := by decide +kernel
theorem d_Mo_goesUp_42 : decode c_Mo_goesUp 42 = .ok (.getfield 16, 3) := by decide +kernel
theorem d_Mo_goesUp_45 : decode c_Mo_goesUp 45 = .ok (.iconst 4, 1) := by decide +kernel
theorem d_Mo_goesUp_46 : decode c_Mo_goesUp 46 = .ok (.iaload, 1) := by decide +kernel
theorem d_Mo_goesUp_47 : decode c_Mo_goesUp 47 = .ok (.iload_n 1, 1) := by decide +kernel
theorem d_Mo_goesUp_48 : decode c_Mo_goesUp 48 = .ok (.iconst 1, 1) := by decide +kernel
theorem d_Mo_goesUp_49 : decode c_Mo_goesUp 49 = .ok (.isub, 1) := by decide +kernel
theorem d_Mo_goesUp_50 : decode c_Mo_goesUp 50 = .ok (.if_icmp .ge 7, 3) := by decide +kernel
theorem d_Mo_goesUp_53 : decode c_Mo_goesUp 53 = .ok (.iconst 1, 1) := by decide +kernel
theorem d_Mo_goesUp_54 : decode c_Mo_goesUp 54 = .ok (.goto 4, 3) := by decide +kernel
theorem d_Mo_goesUp_57 : decode c_Mo_goesUp 57 = .ok (.iconst 0, 1) := by decide +kernel
theorem d_Mo_goesUp_58 : decode c_Mo_goesUp 58 = .ok (.istore 5, 2) := by decide +kernel
theorem d_Mo_goesUp_60 : decode c_Mo_goesUp 60 = .ok (.iload 4, 2) := by decide +kernel
theorem d_Mo_goesUp_62 : decode c_Mo_goesUp 62 = .ok (.iconst 5, 1) := by decide +kernel
theorem d_Mo_goesUp_63 : decode c_Mo_goesUp 63 = .ok (.if_icmp .gt 14, 3) := by decide +kernel
theorem d_Mo_goesUp_66 : decode c_Mo_goesUp 66 = .ok (.iload 4, 2) := by decide +kernel
theorem d_Mo_goesUp_68 : decode c_Mo_goesUp 68 = .ok (.iconst 5, 1) := by decide +kernel
theorem d_Mo_goesUp_69 : decode c_Mo_goesUp 69 = .ok (.if_icmp .ne 12, 3) := by decide +kernel
theorem d_Mo_goesUp_72 : decode c_Mo_goesUp 72 = .ok (.iload 5, 2) := by decide +kernel
theorem d_Mo_goesUp_74 : decode c_Mo_goesUp 74 = .ok (.ifCond .eq 7, 3) := by decide +kernel
theorem d_Mo_goesUp_77 : decode c_Mo_goesUp 77 = .ok (.iconst 1, 1) := by decide +kernel
theorem d_Mo_goesUp_78 : decode c_Mo_goesUp 78 = .ok (.goto 4, 3) := by decide +kernel
theorem d_Mo_goesUp_81 : decode c_Mo_goesUp 81 = .ok (.iconst 0, 1) := by decide +kernel
theorem d_Mo_goesUp_82 : decode c_Mo_goesUp 82 = .ok (.istore 6, 2) := by decide +kernel
theorem d_Mo_goesUp_84 : decode c_Mo_goesUp 84 = .ok (.iload 4, 2) := by decide +kernel
theorem d_Mo_goesUp_86 : decode c_Mo_goesUp 86 = .ok (.iconst 5, 1) := by decide +kernel
theorem d_Mo_goesUp_87 : decode c_Mo_goesUp 87 = .ok (.if_icmp .ne 12, 3) := by decide +kernel
theorem d_Mo_goesUp_90 : decode c_Mo_goesUp 90 = .ok (.iload 5, 2) := by decide +kernel
theorem d_Mo_goesUp_92 : decode c_Mo_goesUp 92 = .ok (.ifCond .ne 7, 3) := by decide +kernel
theorem d_Mo_goesUp_95 : decode c_Mo_goesUp 95 = .ok (.iconst 1, 1) := by decide +kernel
theorem d_Mo_goesUp_96 : decode c_Mo_goesUp 96 = .ok (.goto 4, 3) := by decide +kernel
theorem d_Mo_goesUp_99 : decode c_Mo_goesUp 99 = .ok (.iconst 0, 1) := by decide +kernel
theorem d_Mo_goesUp_100 : decode c_Mo_goesUp 100 = .ok (.istore 7, 2) := by decide +kernel
theorem d_Mo_goesUp_102 : decode c_Mo_goesUp 102 = .ok (.iload_n 2, 1) := by decide +kernel
theorem d_Mo_goesUp_103 : decode c_Mo_goesUp 103 = .ok (.tableswitch 116 1 6 #[37, 39, 55, 83, 86, 101], 37) := by decide +kernel
theorem d_Mo_goesUp_140 : decode c_Mo_goesUp 140 = .ok (.iconst 1, 1) := by decide +kernel
theorem d_Mo_goesUp_141 : decode c_Mo_goesUp 141 = .ok (.ireturn, 1) := by decide +kernel
theorem d_Mo_goesUp_142 : decode c_Mo_goesUp 142 = .ok (.iload 6, 2) := by decide +kernel
theorem d_Mo_goesUp_144 : decode c_Mo_goesUp 144 = .ok (.ifCond .ne 8, 3) := by decide +kernel
theorem d_Mo_goesUp_147 : decode c_Mo_goesUp 147 = .ok (.iload 7, 2) := by decide +kernel
theorem d_Mo_goesUp_149 : decode c_Mo_goesUp 149 = .ok (.ifCond .eq 7, 3) := by decide +kernel
theorem d_Mo_goesUp_152 : decode c_Mo_goesUp 152 = .ok (.iconst 1, 1) := by decide +kernel
theorem d_Mo_goesUp_153 : decode c_Mo_goesUp 153 = .ok (.goto 4, 3) := by decide +kernel
theorem d_Mo_goesUp_156 : decode c_Mo_goesUp 156 = .ok (.iconst 0, 1) := by decide +kernel
theorem d_Mo_goesUp_157 : decode c_Mo_goesUp 157 = .ok (.ireturn, 1) := by decide +kernel
theorem d_Mo_goesUp_158 : decode c_Mo_goesUp 158 = .ok (.iload 6, 2) := by decide +kernel
theorem d_Mo_goesUp_160 : decode c_Mo_goesUp 160 = .ok (.ifCond .ne 20, 3) := by decide +kernel
theorem d_Mo_goesUp_163 : decode c_Mo_goesUp 163 = .ok (.iload 7, 2) := by decide +kernel
theorem d_Mo_goesUp_165 : decode c_Mo_goesUp 165 = .ok (.ifCond .eq 19, 3) := by decide +kernel
theorem d_Mo_goesUp_168 : decode c_Mo_goesUp 168 = .ok (.aload_n 0, 1) := by decide +kernel
theorem d_Mo_goesUp_169 : decode c_Mo_goesUp 169 = .ok (.iconst 4, 1) := by decide +kernel
theorem d_Mo_goesUp_170 : decode c_Mo_goesUp 170 = .ok (.iload_n 1, 1) := by decide +kernel
theorem d_Mo_goesUp_171 : decode c_Mo_goesUp 171 = .ok (.invokevirtual 77, 3) := by decide +kernel
theorem d_Mo_goesUp_174 : decode c_Mo_goesUp 174 = .ok (.iconst 2, 1) := by decide +kernel
theorem d_Mo_goesUp_175 : decode c_Mo_goesUp 175 = .ok (.irem, 1) := by decide +kernel
theorem d_Mo_goesUp_176 : decode c_Mo_goesUp 176 = .ok (.iconst 1, 1) := by decide +kernel
theorem d_Mo_goesUp_177 : decode c_Mo_goesUp 177 = .ok (.if_icmp .ne 7, 3) := by decide +kernel
theorem d_Mo_goesUp_180 : decode c_Mo_goesUp 180 = .ok (.iconst 1, 1) := by decide +kernel
theorem d_Mo_goesUp_181 : decode c_Mo_goesUp 181 = .ok (.goto 4, 3) := by decide +kernel
theorem d_Mo_goesUp_184 : decode c_Mo_goesUp 184 = .ok (.iconst 0, 1) := by decide +kernel
theorem d_Mo_goesUp_185 : decode c_Mo_goesUp 185 = .ok (.ireturn, 1) := by decide +kernel
theorem d_Mo_goesUp_186 : decode c_Mo_goesUp 186 = .ok (.iload 6, 2) := by decide +kernel
theorem d_Mo_goesUp_188 : decode c_Mo_goesUp 188 = .ok (.ireturn, 1) := by decide +kernel
theorem d_Mo_goesUp_189 : decode c_Mo_goesUp 189 = .ok (.aload_n 0, 1) := by decide +kernel
theorem d_Mo_goesUp_190 : decode c_Mo_goesUp 190 = .ok (.getfield 19, 3) := by decide +kernel
theorem d_Mo_goesUp_193 : decode c_Mo_goesUp 193 = .ok (.iconst 4, 1) := by decide +kernel
theorem d_Mo_goesUp_194 : decode c_Mo_goesUp 194 = .ok (.iaload, 1) := by decide +kernel
theorem d_Mo_goesUp_195 : decode c_Mo_goesUp 195 = .ok (.ifCond .le 7, 3) := by decide +kernel
theorem d_Mo_goesUp_198 : decode c_Mo_goesUp 198 = .ok (.iconst 1, 1) := by decide +kernel
theorem d_Mo_goesUp_199 : decode c_Mo_goesUp 199 = .ok (.goto 4, 3) := by decide +kernel
theorem d_Mo_goesUp_202 : decode c_Mo_goesUp 202 = .ok (.iconst 0, 1) := by decide +kernel
theorem d_Mo_goesUp_203 : decode c_Mo_goesUp 203 = .ok (.ireturn, 1) := by decide +kernel
theorem d_Mo_goesUp_204 : decode c_Mo_goesUp 204 = .ok (.aload_n 0, 1) := by decide +kernel
theorem d_Mo_goesUp_205 : decode c_Mo_goesUp 205 = .ok (.getfield 19, 3) := by decide +kernel
theorem d_Mo_goesUp_208 : decode c_Mo_goesUp 208 = .ok (.iconst 4, 1) := by decide +kernel
theorem d_Mo_goesUp_209 : decode c_Mo_goesUp 209 = .ok (.iaload, 1) := by decide +kernel
theorem d_Mo_goesUp_210 : decode c_Mo_goesUp 210 = .ok (.ifCond .ge 7, 3) := by decide +kernel
theorem d_Mo_goesUp_213 : decode c_Mo_goesUp 213 = .ok (.iconst 1, 1) := by decide +kernel
theorem d_Mo_goesUp_214 : decode c_Mo_goesUp 214 = .ok (.goto 4, 3) := by decide +kernel
theorem d_Mo_goesUp_217 : decode c_Mo_goesUp 217 = .ok (.iconst 0, 1) := by decide +kernel
theorem d_Mo_goesUp_218 : decode c_Mo_goesUp 218 = .ok (.ireturn, 1) := by decide +kernel
theorem d_Mo_goesUp_219 : decode c_Mo_goesUp 219 = .ok (.iconst 0, 1) := by decide +kernel
theorem d_Mo_goesUp_220 : decode c_Mo_goesUp 220 = .ok (.ireturn, 1) := by decide +kernel
theorem d_Mo_left_0 : decode c_Mo_left 0 = .ok (.aload_n 0, 1) := by decide +kernel
theorem d_Mo_left_1 : decode c_Mo_left 1 = .ok (.aload_n 0, 1) := by decide +kernel
theorem d_Mo_left_2 : decode c_Mo_left 2 = .ok (.getfield 43, 3) := by decide +kernel
theorem d_Mo_left_5 : decode c_Mo_left 5 = .ok (.iload_n 1, 1) := by decide +kernel
theorem d_Mo_left_6 : decode c_Mo_left 6 = .ok (.iaload, 1) := by decide +kernel
theorem d_Mo_left_7 : decode c_Mo_left 7 = .ok (.iconst 0, 1) := by decide +kernel
theorem d_Mo_left_8 : decode c_Mo_left 8 = .ok (.bipush 18, 2) := by decide +kernel
theorem d_Mo_left_10 : decode c_Mo_left 10 = .ok (.invokevirtual 162, 3) := by decide +kernel
theorem d_Mo_left_13 : decode c_Mo_left 13 = .ok (.ifCond .eq 5, 3) := by decide +kernel
theorem d_Mo_left_16 : decode c_Mo_left 16 = .ok (.lconst 0, 1) := by decide +kernel
theorem d_Mo_left_17 : decode c_Mo_left 17 = .ok (.lreturn, 1) := by decide +kernel
theorem d_Mo_left_18 : decode c_Mo_left 18 = .ok (.aload_n 0, 1) := by decide +kernel
theorem d_Mo_left_19 : decode c_Mo_left 19 = .ok (.iconst 4, 1) := by decide +kernel
theorem d_Mo_left_20 : decode c_Mo_left 20 = .ok (.iconst 1, 1) := by decide +kernel
theorem d_Mo_left_21 : decode c_Mo_left 21 = .ok (.invokevirtual 81, 3) := by decide +kernel
theorem d_Mo_left_24 : decode c_Mo_left 24 = .ok (.iconst 0, 1) := by decide +kernel
theorem d_Mo_left_25 : decode c_Mo_left 25 = .ok (.aload_n 0, 1) := by decide +kernel
theorem d_Mo_left_26 : decode c_Mo_left 26 = .ok (.getfield 43, 3) := by decide +kernel
theorem d_Mo_left_29 : decode c_Mo_left 29 = .ok (.iload_n 1, 1) := by decide +kernel
theorem d_Mo_left_30 : decode c_Mo_left 30 = .ok (.iaload, 1) := by decide +kernel
theorem d_Mo_left_31 : decode c_Mo_left 31 = .ok (.isub, 1) := by decide +kernel
theorem d_Mo_left_32 : decode c_Mo_left 32 = .ok (.istore 4, 2) := by decide +kernel
theorem d_Mo_left_34 : decode c_Mo_left 34 = .ok (.aload_n 0, 1) := by decide +kernel
theorem d_Mo_left_35 : decode c_Mo_left 35 = .ok (.getfield 13, 3) := by decide +kernel
theorem d_Mo_left_38 : decode c_Mo_left 38 = .ok (.iconst 1, 1) := by decide +kernel
theorem d_Mo_left_39 : decode c_Mo_left 39 = .ok (.iaload, 1) := by decide +kernel
theorem d_Mo_left_40 : decode c_Mo_left 40 = .ok (.ifCond .le 55, 3) := by decide +kernel
theorem d_Mo_left_43 : decode c_Mo_left 43 = .ok (.aload_n 0, 1) := by decide +kernel
theorem d_Mo_left_44 : decode c_Mo_left 44 = .ok (.getfield 16, 3) := by decide +kernel
theorem d_Mo_left_47 : decode c_Mo_left 47 = .ok (.iconst 1, 1) := by decide +kernel
theorem d_Mo_left_48 : decode c_Mo_left 48 = .ok (.iaload, 1) := by decide +kernel
theorem d_Mo_left_49 : decode c_Mo_left 49 = .ok (.iload 4, 2) := by decide +kernel
theorem d_Mo_left_51 : decode c_Mo_left 51 = .ok (.if_icmp .ge 44, 3) := by decide +kernel
theorem d_Mo_left_54 : decode c_Mo_left 54 = .ok (.aload_n 0, 1) := by decide +kernel
theorem d_Mo_left_55 : decode c_Mo_left 55 = .ok (.iconst 1, 1) := by decide +kernel
theorem d_Mo_left_56 : decode c_Mo_left 56 = .ok (.iload 4, 2) := by decide +kernel
theorem d_Mo_left_58 : decode c_Mo_left 58 = .ok (.aload_n 0, 1) := by decide +kernel
theorem d_Mo_left_59 : decode c_Mo_left 59 = .ok (.getfield 16, 3) := by decide +kernel
theorem d_Mo_left_62 : decode c_Mo_left 62 = .ok (.iconst 1, 1) := by decide +kernel
theorem d_Mo_left_63 : decode c_Mo_left 63 = .ok (.iaload, 1) := by decide +kernel
theorem d_Mo_left_64 : decode c_Mo_left 64 = .ok (.isub, 1) := by decide +kernel
theorem d_Mo_left_65 : decode c_Mo_left 65 = .ok (.aload_n 0, 1) := by decide +kernel
theorem d_Mo_left_66 : decode c_Mo_left 66 = .ok (.getfield 13, 3) := by decide +kernel
theorem d_Mo_left_69 : decode c_Mo_left 69 = .ok (.iconst 1, 1) := by decide +kernel
theorem d_Mo_left_70 : decode c_Mo_left 70 = .ok (.iaload, 1) := by decide +kernel
theorem d_Mo_left_71 : decode c_Mo_left 71 = .ok (.if_icmp .le 12, 3) := by decide +kernel
theorem d_Mo_left_74 : decode c_Mo_left 74 = .ok (.aload_n 0, 1) := by decide +kernel
theorem d_Mo_left_75 : decode c_Mo_left 75 = .ok (.getfield 13, 3) := by decide +kernel
theorem d_Mo_left_78 : decode c_Mo_left 78 = .ok (.iconst 1, 1) := by decide +kernel
theorem d_Mo_left_79 : decode c_Mo_left 79 = .ok (.iaload, 1) := by decide +kernel
theorem d_Mo_left_80 : decode c_Mo_left 80 = .ok (.goto 12, 3) := by decide +kernel
theorem d_Mo_left_83 : decode c_Mo_left 83 = .ok (.iload 4, 2) := by decide +kernel
theorem d_Mo_left_85 : decode c_Mo_left 85 = .ok (.aload_n 0, 1) := by decide +kernel
theorem d_Mo_left_86 : decode c_Mo_left 86 = .ok (.getfield 16, 3) := by decide +kernel
theorem d_Mo_left_89 : decode c_Mo_left 89 = .ok (.iconst 1, 1) := by decide +kernel
theorem d_Mo_left_90 : decode c_Mo_left 90 = .ok (.iaload, 1) := by decide +kernel
theorem d_Mo_left_91 : decode c_Mo_left 91 = .ok (.isub, 1) := by decide +kernel
theorem d_Mo_left_92 : decode c_Mo_left 92 = .ok (.invokevirtual 73, 3) := by decide +kernel
theorem d_Mo_left_95 : decode c_Mo_left 95 = .ok (.aload_n 0, 1) := by decide +kernel
theorem d_Mo_left_96 : decode c_Mo_left 96 = .ok (.getfield 13, 3) := by decide +kernel
theorem d_Mo_left_99 : decode c_Mo_left 99 = .ok (.iconst 1, 1) := by decide +kernel
theorem d_Mo_left_100 : decode c_Mo_left 100 = .ok (.iaload, 1) := by decide +kernel
theorem d_Mo_left_101 : decode c_Mo_left 101 = .ok (.ifCond .ne 8, 3) := by decide +kernel
theorem d_Mo_left_104 : decode c_Mo_left 104 = .ok (.aload_n 0, 1) := by decide +kernel
theorem d_Mo_left_105 : decode c_Mo_left 105 = .ok (.iconst 1, 1) := by decide +kernel
theorem d_Mo_left_106 : decode c_Mo_left 106 = .ok (.invokevirtual 67, 3) := by decide +kernel
theorem d_Mo_left_109 : decode c_Mo_left 109 = .ok (.aload_n 0, 1) := by decide +kernel
theorem d_Mo_left_110 : decode c_Mo_left 110 = .ok (.iconst 3, 1) := by decide +kernel
theorem d_Mo_left_111 : decode c_Mo_left 111 = .ok (.iconst 0, 1) := by decide +kernel
theorem d_Mo_left_112 : decode c_Mo_left 112 = .ok (.invokevirtual 81, 3) := by decide +kernel
theorem d_Mo_left_115 : decode c_Mo_left 115 = .ok (.aload_n 0, 1) := by decide +kernel
theorem d_Mo_left_116 : decode c_Mo_left 116 = .ok (.invokevirtual 110, 3) := by decide +kernel
theorem d_Mo_left_119 : decode c_Mo_left 119 = .ok (.ifCond .eq 5, 3) := by decide +kernel
theorem d_Mo_left_122 : decode c_Mo_left 122 = .ok (.lconst 0, 1) := by decide +kernel
theorem d_Mo_left_123 : decode c_Mo_left 123 = .ok (.lreturn, 1) := by decide +kernel
theorem d_Mo_left_124 : decode c_Mo_left 124 = .ok (.aload_n 0, 1) := by decide +kernel
theorem d_Mo_left_125 : decode c_Mo_left 125 = .ok (.iconst 2, 1) := by decide +kernel
theorem d_Mo_left_126 : decode c_Mo_left 126 = .ok (.iconst 1, 1) := by decide +kernel
theorem d_Mo_left_127 : decode c_Mo_left 127 = .ok (.invokevirtual 81, 3) := by decide +kernel
theorem d_Mo_left_130 : decode c_Mo_left 130 = .ok (.aload_n 0, 1) := by decide +kernel
theorem d_Mo_left_131 : decode c_Mo_left 131 = .ok (.getfield 19, 3) := by decide +kernel
theorem d_Mo_left_134 : decode c_Mo_left 134 = .ok (.iconst 1, 1) := by decide +kernel
theorem d_Mo_left_135 : decode c_Mo_left 135 = .ok (.iconst 0, 1) := by decide +kernel
theorem d_Mo_left_136 : decode c_Mo_left 136 = .ok (.aload_n 0, 1) := by decide +kernel
theorem d_Mo_left_137 : decode c_Mo_left 137 = .ok (.getfield 19, 3) := by decide +kernel
theorem d_Mo_left_140 : decode c_Mo_left 140 = .ok (.iconst 1, 1) := by decide +kernel
theorem d_Mo_left_141 : decode c_Mo_left 141 = .ok (.iaload, 1) := by decide +kernel
theorem d_Mo_left_142 : decode c_Mo_left 142 = .ok (.isub, 1) := by decide +kernel
theorem d_Mo_left_143 : decode c_Mo_left 143 = .ok (.iastore, 1) := by decide +kernel
theorem d_Mo_left_144 : decode c_Mo_left 144 = .ok (.aload_n 0, 1) := by decide +kernel
theorem d_Mo_left_145 : decode c_Mo_left 145 = .ok (.lload_n 2, 1) := by decide +kernel
theorem d_Mo_left_146 : decode c_Mo_left 146 = .ok (.iload 4, 2) := by decide +kernel
theorem d_Mo_left_148 : decode c_Mo_left 148 = .ok (.iconst 0, 1) := by decide +kernel
theorem d_Mo_left_149 : decode c_Mo_left 149 = .ok (.invokevirtual 106, 3) := by decide +kernel
theorem d_Mo_left_152 : decode c_Mo_left 152 = .ok (.aload_n 0, 1) := by decide +kernel
theorem d_Mo_left_153 : decode c_Mo_left 153 = .ok (.invokevirtual 122, 3) := by decide +kernel
theorem d_Mo_left_156 : decode c_Mo_left 156 = .ok (.ifCond .eq 5, 3) := by decide +kernel
theorem d_Mo_left_159 : decode c_Mo_left 159 = .ok (.lconst 0, 1) := by decide +kernel
theorem d_Mo_left_160 : decode c_Mo_left 160 = .ok (.lreturn, 1) := by decide +kernel
theorem d_Mo_left_161 : decode c_Mo_left 161 = .ok (.aload_n 0, 1) := by decide +kernel
theorem d_Mo_left_162 : decode c_Mo_left 162 = .ok (.iconst 2, 1) := by decide +kernel
theorem d_Mo_left_163 : decode c_Mo_left 163 = .ok (.iconst 4, 1) := by decide +kernel
theorem d_Mo_left_164 : decode c_Mo_left 164 = .ok (.invokevirtual 81, 3) := by decide +kernel
theorem d_Mo_left_167 : decode c_Mo_left 167 = .ok (.aload_n 0, 1) := by decide +kernel
theorem d_Mo_left_168 : decode c_Mo_left 168 = .ok (.aload_n 0, 1) := by decide +kernel
theorem d_Mo_left_169 : decode c_Mo_left 169 = .ok (.getfield 43, 3) := by decide +kernel
theorem d_Mo_left_172 : decode c_Mo_left 172 = .ok (.iload_n 1, 1) := by decide +kernel
theorem d_Mo_left_173 : decode c_Mo_left 173 = .ok (.iaload, 1) := by decide +kernel
theorem d_Mo_left_174 : decode c_Mo_left 174 = .ok (.iconst 0, 1) := by decide +kernel
theorem d_Mo_left_175 : decode c_Mo_left 175 = .ok (.bipush 18, 2) := by decide +kernel
theorem d_Mo_left_177 : decode c_Mo_left 177 = .ok (.invokevirtual 162, 3) := by decide +kernel
theorem d_Mo_left_180 : decode c_Mo_left 180 = .ok (.ifCond .eq 7, 3) := by decide +kernel
theorem d_Mo_left_183 : decode c_Mo_left 183 = .ok (.lconst 0, 1) := by decide +kernel
theorem d_Mo_left_184 : decode c_Mo_left 184 = .ok (.goto 7, 3) := by decide +kernel
theorem d_Mo_left_187 : decode c_Mo_left 187 = .ok (.aload_n 0, 1) := by decide +kernel
theorem d_Mo_left_188 : decode c_Mo_left 188 = .ok (.getfield 158, 3) := by decide +kernel
theorem d_Mo_left_191 : decode c_Mo_left 191 = .ok (.lreturn, 1) := by decide +kernel
theorem d_Mo_stored_0 : decode c_Mo_stored 0 = .ok (.aload_n 0, 1) := by decide +kernel
theorem d_Mo_stored_1 : decode c_Mo_stored 1 = .ok (.iconst 0, 1) := by decide +kernel
theorem d_Mo_stored_2 : decode c_Mo_stored 2 = .ok (.putfield 64, 3) := by decide +kernel
theorem d_Mo_stored_5 : decode c_Mo_stored 5 = .ok (.aload_n 0, 1) := by decide +kernel
theorem d_Mo_stored_6 : decode c_Mo_stored 6 = .ok (.iload_n 1, 1) := by decide +kernel
theorem d_Mo_stored_7 : decode c_Mo_stored 7 = .ok (.invokevirtual 143, 3) := by decide +kernel
theorem d_Mo_stored_10 : decode c_Mo_stored 10 = .ok (.ifCond .eq 12, 3) := by decide +kernel
theorem d_Mo_stored_13 : decode c_Mo_stored 13 = .ok (.aload_n 0, 1) := by decide +kernel
theorem d_Mo_stored_14 : decode c_Mo_stored 14 = .ok (.getfield 49, 3) := by decide +kernel
theorem d_Mo_stored_17 : decode c_Mo_stored 17 = .ok (.iload_n 1, 1) := by decide +kernel
theorem d_Mo_stored_18 : decode c_Mo_stored 18 = .ok (.laload, 1) := by decide +kernel
theorem d_Mo_stored_19 : decode c_Mo_stored 19 = .ok (.goto 4, 3) := by decide +kernel
theorem d_Mo_stored_22 : decode c_Mo_stored 22 = .ok (.lconst 0, 1) := by decide +kernel
theorem d_Mo_stored_23 : decode c_Mo_stored 23 = .ok (.lreturn, 1) := by decide +kernel
theorem d_Mo_error_0 : decode c_Mo_error 0 = .ok (.aload_n 0, 1) := by decide +kernel
theorem d_Mo_error_1 : decode c_Mo_error 1 = .ok (.iconst 0, 1) := by decide +kernel
theorem d_Mo_error_2 : decode c_Mo_error 2 = .ok (.putfield 64, 3) := by decide +kernel
theorem d_Mo_error_5 : decode c_Mo_error 5 = .ok (.aload_n 0, 1) := by decide +kernel
theorem d_Mo_error_6 : decode c_Mo_error 6 = .ok (.iload_n 1, 1) := by decide +kernel
theorem d_Mo_error_7 : decode c_Mo_error 7 = .ok (.invokevirtual 143, 3) := by decide +kernel
theorem d_Mo_error_10 : decode c_Mo_error 10 = .ok (.ifCond .eq 16, 3) := by decide +kernel
theorem d_Mo_error_13 : decode c_Mo_error 13 = .ok (.aload_n 0, 1) := by decide +kernel
theorem d_Mo_error_14 : decode c_Mo_error 14 = .ok (.getfield 56, 3) := by decide +kernel
theorem d_Mo_error_17 : decode c_Mo_error 17 = .ok (.iload_n 1, 1) := by decide +kernel
theorem d_Mo_error_18 : decode c_Mo_error 18 = .ok (.baload, 1) := by decide +kernel
theorem d_Mo_error_19 : decode c_Mo_error 19 = .ok (.ifCond .eq 7, 3) := by decide +kernel
theorem d_Mo_error_22 : decode c_Mo_error 22 = .ok (.iconst 1, 1) := by decide +kernel
theorem d_Mo_error_23 : decode c_Mo_error 23 = .ok (.goto 4, 3) := by decide +kernel
theorem d_Mo_error_26 : decode c_Mo_error 26 = .ok (.iconst 0, 1) := by decide +kernel
theorem d_Mo_error_27 : decode c_Mo_error 27 = .ok (.ireturn, 1) := by decide +kernel
theorem d_Mo_rest_0 : decode c_Mo_rest 0 = .ok (.aload_n 0, 1) := by decide +kernel
theorem d_Mo_rest_1 : decode c_Mo_rest 1 = .ok (.iconst 0, 1) := by decide +kernel
theorem d_Mo_rest_2 : decode c_Mo_rest 2 = .ok (.putfield 64, 3) := by decide +kernel
theorem d_Mo_rest_5 : decode c_Mo_rest 5 = .ok (.aload_n 0, 1) := by decide +kernel
theorem d_Mo_rest_6 : decode c_Mo_rest 6 = .ok (.iload_n 1, 1) := by decide +kernel
theorem d_Mo_rest_7 : decode c_Mo_rest 7 = .ok (.invokevirtual 143, 3) := by decide +kernel
theorem d_Mo_rest_10 : decode c_Mo_rest 10 = .ok (.ifCond .eq 12, 3) := by decide +kernel
theorem d_Mo_rest_13 : decode c_Mo_rest 13 = .ok (.aload_n 0, 1) := by decide +kernel
theorem d_Mo_rest_14 : decode c_Mo_rest 14 = .ok (.getfield 53, 3) := by decide +kernel
theorem d_Mo_rest_17 : decode c_Mo_rest 17 = .ok (.iload_n 1, 1) := by decide +kernel
theorem d_Mo_rest_18 : decode c_Mo_rest 18 = .ok (.laload, 1) := by decide +kernel
theorem d_Mo_rest_19 : decode c_Mo_rest 19 = .ok (.goto 4, 3) := by decide +kernel
theorem d_Mo_rest_22 : decode c_Mo_rest 22 = .ok (.lconst 0, 1) := by decide +kernel
theorem d_Mo_rest_23 : decode c_Mo_rest 23 = .ok (.lreturn, 1) := by decide +kernel
theorem d_Mo_raised_0 : decode c_Mo_raised 0 = .ok (.aload_n 0, 1) := by decide +kernel
theorem d_Mo_raised_1 : decode c_Mo_raised 1 = .ok (.iconst 0, 1) := by decide +kernel
theorem d_Mo_raised_2 : decode c_Mo_raised 2 = .ok (.putfield 64, 3) := by decide +kernel
theorem d_Mo_raised_5 : decode c_Mo_raised 5 = .ok (.aload_n 0, 1) := by decide +kernel
theorem d_Mo_raised_6 : decode c_Mo_raised 6 = .ok (.getfield 169, 3) := by decide +kernel
theorem d_Mo_raised_9 : decode c_Mo_raised 9 = .ok (.ireturn, 1) := by decide +kernel
end
section
theorem d_AF_init_0 : decode c_AF_init 0 = .ok (.aload_n 0, 1) := by decide +kernel
theorem d_AF_init_1 : decode c_AF_init 1 = .ok (.invokespecial 1, 3) := by decide +kernel
theorem d_AF_init_4 : decode c_AF_init 4 = .ok (.aload_n 0, 1) := by decide +kernel
theorem d_AF_init_5 : decode c_AF_init 5 = .ok (.bipush 100, 2) := by decide +kernel
theorem d_AF_init_7 : decode c_AF_init 7 = .ok (.anewarray 9, 3) := by decide +kernel
theorem d_AF_init_10 : decode c_AF_init 10 = .ok (.putfield 11, 3) := by decide +kernel
theorem d_AF_init_13 : decode c_AF_init 13 = .ok (.aload_n 0, 1) := by decide +kernel
theorem d_AF_init_14 : decode c_AF_init 14 = .ok (.bipush 20, 2) := by decide +kernel
theorem d_AF_init_16 : decode c_AF_init 16 = .ok (.anewarray 15, 3) := by decide +kernel
theorem d_AF_init_19 : decode c_AF_init 19 = .ok (.putfield 17, 3) := by decide +kernel
theorem d_AF_init_22 : decode c_AF_init 22 = .ok (.aload_n 0, 1) := by decide +kernel
theorem d_AF_init_23 : decode c_AF_init 23 = .ok (.new 9, 3) := by decide +kernel
theorem d_AF_init_26 : decode c_AF_init 26 = .ok (.dup, 1) := by decide +kernel
theorem d_AF_init_27 : decode c_AF_init 27 = .ok (.invokespecial 21, 3) := by decide +kernel
theorem d_AF_init_30 : decode c_AF_init 30 = .ok (.putfield 22, 3) := by decide +kernel
theorem d_AF_init_33 : decode c_AF_init 33 = .ok (.aload_n 0, 1) := by decide +kernel
theorem d_AF_init_34 : decode c_AF_init 34 = .ok (.new 9, 3) := by decide +kernel
theorem d_AF_init_37 : decode c_AF_init 37 = .ok (.dup, 1) := by decide +kernel
theorem d_AF_init_38 : decode c_AF_init 38 = .ok (.invokespecial 21, 3) := by decide +kernel
theorem d_AF_init_41 : decode c_AF_init 41 = .ok (.putfield 26, 3) := by decide +kernel
theorem d_AF_init_44 : decode c_AF_init 44 = .ok (.aload_n 0, 1) := by decide +kernel
theorem d_AF_init_45 : decode c_AF_init 45 = .ok (.new 9, 3) := by decide +kernel
theorem d_AF_init_48 : decode c_AF_init 48 = .ok (.dup, 1) := by decide +kernel
theorem d_AF_init_49 : decode c_AF_init 49 = .ok (.invokespecial 21, 3) := by decide +kernel
theorem d_AF_init_52 : decode c_AF_init 52 = .ok (.putfield 29, 3) := by decide +kernel
theorem d_AF_init_55 : decode c_AF_init 55 = .ok (.aload_n 0, 1) := by decide +kernel
theorem d_AF_init_56 : decode c_AF_init 56 = .ok (.new 32, 3) := by decide +kernel
theorem d_AF_init_59 : decode c_AF_init 59 = .ok (.dup, 1) := by decide +kernel
theorem d_AF_init_60 : decode c_AF_init 60 = .ok (.iconst 1, 1) := by decide +kernel
theorem d_AF_init_61 : decode c_AF_init 61 = .ok (.bipush 31, 2) := by decide +kernel
theorem d_AF_init_63 : decode c_AF_init 63 = .ok (.iload_n 1, 1) := by decide +kernel
theorem d_AF_init_64 : decode c_AF_init 64 = .ok (.invokestatic 34, 3) := by decide +kernel
theorem d_AF_init_67 : decode c_AF_init 67 = .ok (.invokestatic 40, 3) := by decide +kernel
theorem d_AF_init_70 : decode c_AF_init 70 = .ok (.invokespecial 43, 3) := by decide +kernel
theorem d_AF_init_73 : decode c_AF_init 73 = .ok (.putfield 46, 3) := by decide +kernel
theorem d_AF_init_76 : decode c_AF_init 76 = .ok (.return_, 1) := by decide +kernel
theorem d_AF_ten_0 : decode c_AF_ten 0 = .ok (.iload_n 0, 1) := by decide +kernel
theorem d_AF_ten_1 : decode c_AF_ten 1 = .ok (.ifCond .lt 11, 3) := by decide +kernel
theorem d_AF_ten_4 : decode c_AF_ten 4 = .ok (.iload_n 0, 1) := by decide +kernel
theorem d_AF_ten_5 : decode c_AF_ten 5 = .ok (.getstatic 180, 3) := by decide +kernel
theorem d_AF_ten_8 : decode c_AF_ten 8 = .ok (.arraylength, 1) := by decide +kernel
theorem d_AF_ten_9 : decode c_AF_ten 9 = .ok (.if_icmp .lt 7, 3) := by decide +kernel
theorem d_AF_ten_12 : decode c_AF_ten 12 = .ok (.lconst 1, 1) := by decide +kernel
theorem d_AF_ten_13 : decode c_AF_ten 13 = .ok (.goto 8, 3) := by decide +kernel
theorem d_AF_ten_16 : decode c_AF_ten 16 = .ok (.getstatic 180, 3) := by decide +kernel
theorem d_AF_ten_19 : decode c_AF_ten 19 = .ok (.iload_n 0, 1) := by decide +kernel
theorem d_AF_ten_20 : decode c_AF_ten 20 = .ok (.laload, 1) := by decide +kernel
theorem d_AF_ten_21 : decode c_AF_ten 21 = .ok (.lreturn, 1) := by decide +kernel
theorem d_AF_value_0 : decode c_AF_value 0 = .ok (.iload_n 3, 1) := by decide +kernel
theorem d_AF_value_1 : decode c_AF_value 1 = .ok (.ifCond .lt 9, 3) := by decide +kernel
theorem d_AF_value_4 : decode c_AF_value 4 = .ok (.iload_n 3, 1) := by decide +kernel
theorem d_AF_value_5 : decode c_AF_value 5 = .ok (.bipush 18, 2) := by decide +kernel
theorem d_AF_value_7 : decode c_AF_value 7 = .ok (.if_icmp .le 6, 3) := by decide +kernel
theorem d_AF_value_10 : decode c_AF_value 10 = .ok (.bipush (-4), 2) := by decide +kernel
theorem d_AF_value_12 : decode c_AF_value 12 = .ok (.ireturn, 1) := by decide +kernel
theorem d_AF_value_13 : decode c_AF_value 13 = .ok (.aload_n 0, 1) := by decide +kernel
theorem d_AF_value_14 : decode c_AF_value 14 = .ok (.getfield 50, 3) := by decide +kernel
theorem d_AF_value_17 : decode c_AF_value 17 = .ok (.bipush 100, 2) := by decide +kernel
theorem d_AF_value_19 : decode c_AF_value 19 = .ok (.if_icmp .lt 5, 3) := by decide +kernel
theorem d_AF_value_22 : decode c_AF_value 22 = .ok (.iconst (-1), 1) := by decide +kernel
theorem d_AF_value_23 : decode c_AF_value 23 = .ok (.ireturn, 1) := by decide +kernel
theorem d_AF_value_24 : decode c_AF_value 24 = .ok (.new 9, 3) := by decide +kernel
theorem d_AF_value_27 : decode c_AF_value 27 = .ok (.dup, 1) := by decide +kernel
theorem d_AF_value_28 : decode c_AF_value 28 = .ok (.invokespecial 21, 3) := by decide +kernel
theorem d_AF_value_31 : decode c_AF_value 31 = .ok (.astore 4, 2) := by decide +kernel
theorem d_AF_value_33 : decode c_AF_value 33 = .ok (.aload 4, 2) := by decide +kernel
theorem d_AF_value_35 : decode c_AF_value 35 = .ok (.lload_n 1, 1) := by decide +kernel
theorem d_AF_value_36 : decode c_AF_value 36 = .ok (.iload_n 3, 1) := by decide +kernel
theorem d_AF_value_37 : decode c_AF_value 37 = .ok (.invokevirtual 54, 3) := by decide +kernel
theorem d_AF_value_40 : decode c_AF_value 40 = .ok (.aload 4, 2) := by decide +kernel
theorem d_AF_value_42 : decode c_AF_value 42 = .ok (.aload_n 0, 1) := by decide +kernel
theorem d_AF_value_43 : decode c_AF_value 43 = .ok (.getfield 46, 3) := by decide +kernel
theorem d_AF_value_46 : decode c_AF_value 46 = .ok (.getfield 58, 3) := by decide +kernel
theorem d_AF_value_49 : decode c_AF_value 49 = .ok (.invokevirtual 61, 3) := by decide +kernel
theorem d_AF_value_52 : decode c_AF_value 52 = .ok (.aload_n 0, 1) := by decide +kernel
theorem d_AF_value_53 : decode c_AF_value 53 = .ok (.aload 4, 2) := by decide +kernel
theorem d_AF_value_55 : decode c_AF_value 55 = .ok (.invokevirtual 64, 3) := by decide +kernel
theorem d_AF_value_58 : decode c_AF_value 58 = .ok (.ireturn, 1) := by decide +kernel
theorem d_AF_keepNode_0 : decode c_AF_keepNode 0 = .ok (.aload_n 0, 1) := by decide +kernel
theorem d_AF_keepNode_1 : decode c_AF_keepNode 1 = .ok (.getfield 11, 3) := by decide +kernel
theorem d_AF_keepNode_4 : decode c_AF_keepNode 4 = .ok (.aload_n 0, 1) := by decide +kernel
theorem d_AF_keepNode_5 : decode c_AF_keepNode 5 = .ok (.getfield 50, 3) := by decide +kernel
theorem d_AF_keepNode_8 : decode c_AF_keepNode 8 = .ok (.aload_n 1, 1) := by decide +kernel
theorem d_AF_keepNode_9 : decode c_AF_keepNode 9 = .ok (.aastore, 1) := by decide +kernel
theorem d_AF_keepNode_10 : decode c_AF_keepNode 10 = .ok (.aload_n 0, 1) := by decide +kernel
theorem d_AF_keepNode_11 : decode c_AF_keepNode 11 = .ok (.dup, 1) := by decide +kernel
theorem d_AF_keepNode_12 : decode c_AF_keepNode 12 = .ok (.getfield 50, 3) := by decide +kernel
theorem d_AF_keepNode_15 : decode c_AF_keepNode 15 = .ok (.iconst 1, 1) := by decide +kernel
theorem d_AF_keepNode_16 : decode c_AF_keepNode 16 = .ok (.iadd, 1) := by decide +kernel
theorem d_AF_keepNode_17 : decode c_AF_keepNode 17 = .ok (.putfield 50, 3) := by decide +kernel
theorem d_AF_keepNode_20 : decode c_AF_keepNode 20 = .ok (.aload_n 0, 1) := by decide +kernel
theorem d_AF_keepNode_21 : decode c_AF_keepNode 21 = .ok (.getfield 50, 3) := by decide +kernel
theorem d_AF_keepNode_24 : decode c_AF_keepNode 24 = .ok (.ireturn, 1) := by decide +kernel
theorem d_AF_node_0 : decode c_AF_node 0 = .ok (.iload_n 1, 1) := by decide +kernel
theorem d_AF_node_1 : decode c_AF_node 1 = .ok (.ifCond .lt 8, 3) := by decide +kernel
theorem d_AF_node_4 : decode c_AF_node 4 = .ok (.iload_n 1, 1) := by decide +kernel
theorem d_AF_node_5 : decode c_AF_node 5 = .ok (.iconst 5, 1) := by decide +kernel
theorem d_AF_node_6 : decode c_AF_node 6 = .ok (.if_icmp .le 6, 3) := by decide +kernel
theorem d_AF_node_9 : decode c_AF_node 9 = .ok (.bipush (-4), 2) := by decide +kernel
theorem d_AF_node_11 : decode c_AF_node 11 = .ok (.ireturn, 1) := by decide +kernel
theorem d_AF_node_12 : decode c_AF_node 12 = .ok (.aload_n 0, 1) := by decide +kernel
theorem d_AF_node_13 : decode c_AF_node 13 = .ok (.iload_n 2, 1) := by decide +kernel
theorem d_AF_node_14 : decode c_AF_node 14 = .ok (.invokevirtual 68, 3) := by decide +kernel
theorem d_AF_node_17 : decode c_AF_node 17 = .ok (.astore 4, 2) := by decide +kernel
theorem d_AF_node_19 : decode c_AF_node 19 = .ok (.iload_n 1, 1) := by decide +kernel
theorem d_AF_node_20 : decode c_AF_node 20 = .ok (.iconst 5, 1) := by decide +kernel
theorem d_AF_node_21 : decode c_AF_node 21 = .ok (.if_icmp .ne 8, 3) := by decide +kernel
theorem d_AF_node_24 : decode c_AF_node 24 = .ok (.aload 4, 2) := by decide +kernel
theorem d_AF_node_26 : decode c_AF_node 26 = .ok (.goto 8, 3) := by decide +kernel
theorem d_AF_node_29 : decode c_AF_node 29 = .ok (.aload_n 0, 1) := by decide +kernel
theorem d_AF_node_30 : decode c_AF_node 30 = .ok (.iload_n 3, 1) := by decide +kernel
theorem d_AF_node_31 : decode c_AF_node 31 = .ok (.invokevirtual 68, 3) := by decide +kernel
theorem d_AF_node_34 : decode c_AF_node 34 = .ok (.astore 5, 2) := by decide +kernel
theorem d_AF_node_36 : decode c_AF_node 36 = .ok (.aload 4, 2) := by decide +kernel
theorem d_AF_node_38 : decode c_AF_node 38 = .ok (.ifnull 8, 3) := by decide +kernel
theorem d_AF_node_41 : decode c_AF_node 41 = .ok (.aload 5, 2) := by decide +kernel
theorem d_AF_node_43 : decode c_AF_node 43 = .ok (.ifnonnull 6, 3) := by decide +kernel
theorem d_AF_node_46 : decode c_AF_node 46 = .ok (.bipush (-2), 2) := by decide +kernel
theorem d_AF_node_48 : decode c_AF_node 48 = .ok (.ireturn, 1) := by decide +kernel
theorem d_AF_node_49 : decode c_AF_node 49 = .ok (.aload_n 0, 1) := by decide +kernel
theorem d_AF_node_50 : decode c_AF_node 50 = .ok (.getfield 50, 3) := by decide +kernel
theorem d_AF_node_53 : decode c_AF_node 53 = .ok (.bipush 100, 2) := by decide +kernel
theorem d_AF_node_55 : decode c_AF_node 55 = .ok (.if_icmp .lt 5, 3) := by decide +kernel
theorem d_AF_node_58 : decode c_AF_node 58 = .ok (.iconst (-1), 1) := by decide +kernel
theorem d_AF_node_59 : decode c_AF_node 59 = .ok (.ireturn, 1) := by decide +kernel
theorem d_AF_node_60 : decode c_AF_node 60 = .ok (.new 9, 3) := by decide +kernel
theorem d_AF_node_63 : decode c_AF_node 63 = .ok (.dup, 1) := by decide +kernel
theorem d_AF_node_64 : decode c_AF_node 64 = .ok (.invokespecial 21, 3) := by decide +kernel
theorem d_AF_node_67 : decode c_AF_node 67 = .ok (.astore 6, 2) := by decide +kernel
theorem d_AF_node_69 : decode c_AF_node 69 = .ok (.aload_n 0, 1) := by decide +kernel
theorem d_AF_node_70 : decode c_AF_node 70 = .ok (.iload_n 1, 1) := by decide +kernel
theorem d_AF_node_71 : decode c_AF_node 71 = .ok (.aload 6, 2) := by decide +kernel
theorem d_AF_node_73 : decode c_AF_node 73 = .ok (.aload 4, 2) := by decide +kernel
theorem d_AF_node_75 : decode c_AF_node 75 = .ok (.aload 5, 2) := by decide +kernel
theorem d_AF_node_77 : decode c_AF_node 77 = .ok (.invokevirtual 72, 3) := by decide +kernel
theorem d_AF_node_80 : decode c_AF_node 80 = .ok (.aload_n 0, 1) := by decide +kernel
theorem d_AF_node_81 : decode c_AF_node 81 = .ok (.aload 6, 2) := by decide +kernel
theorem d_AF_node_83 : decode c_AF_node 83 = .ok (.invokevirtual 64, 3) := by decide +kernel
theorem d_AF_node_86 : decode c_AF_node 86 = .ok (.ireturn, 1) := by decide +kernel
theorem d_AF_nodeAt_0 : decode c_AF_nodeAt 0 = .ok (.iload_n 1, 1) := by decide +kernel
theorem d_AF_nodeAt_1 : decode c_AF_nodeAt 1 = .ok (.iconst 1, 1) := by decide +kernel
theorem d_AF_nodeAt_2 : decode c_AF_nodeAt 2 = .ok (.if_icmp .lt 11, 3) := by decide +kernel
theorem d_AF_nodeAt_5 : decode c_AF_nodeAt 5 = .ok (.iload_n 1, 1) := by decide +kernel
theorem d_AF_nodeAt_6 : decode c_AF_nodeAt 6 = .ok (.aload_n 0, 1) := by decide +kernel
theorem d_AF_nodeAt_7 : decode c_AF_nodeAt 7 = .ok (.getfield 50, 3) := by decide +kernel
theorem d_AF_nodeAt_10 : decode c_AF_nodeAt 10 = .ok (.if_icmp .le 7, 3) := by decide +kernel
theorem d_AF_nodeAt_13 : decode c_AF_nodeAt 13 = .ok (.aconst_null, 1) := by decide +kernel
theorem d_AF_nodeAt_14 : decode c_AF_nodeAt 14 = .ok (.goto 11, 3) := by decide +kernel
theorem d_AF_nodeAt_17 : decode c_AF_nodeAt 17 = .ok (.aload_n 0, 1) := by decide +kernel
theorem d_AF_nodeAt_18 : decode c_AF_nodeAt 18 = .ok (.getfield 11, 3) := by decide +kernel
theorem d_AF_nodeAt_21 : decode c_AF_nodeAt 21 = .ok (.iload_n 1, 1) := by decide +kernel
theorem d_AF_nodeAt_22 : decode c_AF_nodeAt 22 = .ok (.iconst 1, 1) := by decide +kernel
theorem d_AF_nodeAt_23 : decode c_AF_nodeAt 23 = .ok (.isub, 1) := by decide +kernel
theorem d_AF_nodeAt_24 : decode c_AF_nodeAt 24 = .ok (.aaload, 1) := by decide +kernel
theorem d_AF_nodeAt_25 : decode c_AF_nodeAt 25 = .ok (.areturn, 1) := by decide +kernel
theorem d_AF_operate_0 : decode c_AF_operate 0 = .ok (.iload_n 1, 1) := by decide +kernel
theorem d_AF_operate_1 : decode c_AF_operate 1 = .ok (.lookupswitch 58 #[(4, 27), (5, 41)], 27) := by decide +kernel
theorem d_AF_operate_28 : decode c_AF_operate 28 = .ok (.aload_n 0, 1) := by decide +kernel
theorem d_AF_operate_29 : decode c_AF_operate 29 = .ok (.getfield 46, 3) := by decide +kernel
theorem d_AF_operate_32 : decode c_AF_operate 32 = .ok (.aload_n 2, 1) := by decide +kernel
theorem d_AF_operate_33 : decode c_AF_operate 33 = .ok (.aload_n 3, 1) := by decide +kernel
theorem d_AF_operate_34 : decode c_AF_operate 34 = .ok (.aload 4, 2) := by decide +kernel
theorem d_AF_operate_36 : decode c_AF_operate 36 = .ok (.invokevirtual 134, 3) := by decide +kernel
theorem d_AF_operate_39 : decode c_AF_operate 39 = .ok (.goto 29, 3) := by decide +kernel
theorem d_AF_operate_42 : decode c_AF_operate 42 = .ok (.aload_n 2, 1) := by decide +kernel
theorem d_AF_operate_43 : decode c_AF_operate 43 = .ok (.aload_n 3, 1) := by decide +kernel
theorem d_AF_operate_44 : decode c_AF_operate 44 = .ok (.invokevirtual 138, 3) := by decide +kernel
theorem d_AF_operate_47 : decode c_AF_operate 47 = .ok (.aload_n 2, 1) := by decide +kernel
theorem d_AF_operate_48 : decode c_AF_operate 48 = .ok (.aload_n 3, 1) := by decide +kernel
theorem d_AF_operate_49 : decode c_AF_operate 49 = .ok (.getfield 120, 3) := by decide +kernel
theorem d_AF_operate_52 : decode c_AF_operate 52 = .ok (.ineg, 1) := by decide +kernel
theorem d_AF_operate_53 : decode c_AF_operate 53 = .ok (.putfield 120, 3) := by decide +kernel
theorem d_AF_operate_56 : decode c_AF_operate 56 = .ok (.goto 12, 3) := by decide +kernel
theorem d_AF_operate_59 : decode c_AF_operate 59 = .ok (.aload_n 0, 1) := by decide +kernel
theorem d_AF_operate_60 : decode c_AF_operate 60 = .ok (.iload_n 1, 1) := by decide +kernel
theorem d_AF_operate_61 : decode c_AF_operate 61 = .ok (.aload_n 2, 1) := by decide +kernel
theorem d_AF_operate_62 : decode c_AF_operate 62 = .ok (.aload_n 3, 1) := by decide +kernel
theorem d_AF_operate_63 : decode c_AF_operate 63 = .ok (.aload 4, 2) := by decide +kernel
theorem d_AF_operate_65 : decode c_AF_operate 65 = .ok (.invokevirtual 142, 3) := by decide +kernel
theorem d_AF_operate_68 : decode c_AF_operate 68 = .ok (.return_, 1) := by decide +kernel
theorem d_AF_calculate_0 : decode c_AF_calculate 0 = .ok (.iload_n 1, 1) := by decide +kernel
theorem d_AF_calculate_1 : decode c_AF_calculate 1 = .ok (.tableswitch 71 0 2 #[27, 42, 57], 27) := by decide +kernel
theorem d_AF_calculate_28 : decode c_AF_calculate 28 = .ok (.aload_n 0, 1) := by decide +kernel
theorem d_AF_calculate_29 : decode c_AF_calculate 29 = .ok (.getfield 46, 3) := by decide +kernel
theorem d_AF_calculate_32 : decode c_AF_calculate 32 = .ok (.aload_n 2, 1) := by decide +kernel
theorem d_AF_calculate_33 : decode c_AF_calculate 33 = .ok (.aload_n 3, 1) := by decide +kernel
theorem d_AF_calculate_34 : decode c_AF_calculate 34 = .ok (.aload 4, 2) := by decide +kernel
theorem d_AF_calculate_36 : decode c_AF_calculate 36 = .ok (.iconst 1, 1) := by decide +kernel
theorem d_AF_calculate_37 : decode c_AF_calculate 37 = .ok (.invokevirtual 145, 3) := by decide +kernel
theorem d_AF_calculate_40 : decode c_AF_calculate 40 = .ok (.goto 43, 3) := by decide +kernel
theorem d_AF_calculate_43 : decode c_AF_calculate 43 = .ok (.aload_n 0, 1) := by decide +kernel
theorem d_AF_calculate_44 : decode c_AF_calculate 44 = .ok (.getfield 46, 3) := by decide +kernel
theorem d_AF_calculate_47 : decode c_AF_calculate 47 = .ok (.aload_n 2, 1) := by decide +kernel
theorem d_AF_calculate_48 : decode c_AF_calculate 48 = .ok (.aload_n 3, 1) := by decide +kernel
theorem d_AF_calculate_49 : decode c_AF_calculate 49 = .ok (.aload 4, 2) := by decide +kernel
theorem d_AF_calculate_51 : decode c_AF_calculate 51 = .ok (.iconst (-1), 1) := by decide +kernel
theorem d_AF_calculate_52 : decode c_AF_calculate 52 = .ok (.invokevirtual 145, 3) := by decide +kernel
theorem d_AF_calculate_55 : decode c_AF_calculate 55 = .ok (.goto 28, 3) := by decide +kernel
theorem d_AF_calculate_58 : decode c_AF_calculate 58 = .ok (.aload_n 0, 1) := by decide +kernel
theorem d_AF_calculate_59 : decode c_AF_calculate 59 = .ok (.getfield 46, 3) := by decide +kernel
theorem d_AF_calculate_62 : decode c_AF_calculate 62 = .ok (.aload_n 2, 1) := by decide +kernel
theorem d_AF_calculate_63 : decode c_AF_calculate 63 = .ok (.aload_n 3, 1) := by decide +kernel
theorem d_AF_calculate_64 : decode c_AF_calculate 64 = .ok (.aload 4, 2) := by decide +kernel
theorem d_AF_calculate_66 : decode c_AF_calculate 66 = .ok (.invokevirtual 149, 3) := by decide +kernel
theorem d_AF_calculate_69 : decode c_AF_calculate 69 = .ok (.goto 14, 3) := by decide +kernel
theorem d_AF_calculate_72 : decode c_AF_calculate 72 = .ok (.aload_n 0, 1) := by decide +kernel
theorem d_AF_calculate_73 : decode c_AF_calculate 73 = .ok (.getfield 46, 3) := by decide +kernel
theorem d_AF_calculate_76 : decode c_AF_calculate 76 = .ok (.aload_n 2, 1) := by decide +kernel
theorem d_AF_calculate_77 : decode c_AF_calculate 77 = .ok (.aload_n 3, 1) := by decide +kernel
theorem d_AF_calculate_78 : decode c_AF_calculate 78 = .ok (.aload 4, 2) := by decide +kernel
theorem d_AF_calculate_80 : decode c_AF_calculate 80 = .ok (.invokevirtual 152, 3) := by decide +kernel
theorem d_AF_calculate_83 : decode c_AF_calculate 83 = .ok (.return_, 1) := by decide +kernel
theorem d_AF_receiver_0 : decode c_AF_receiver 0 = .ok (.iload_n 1, 1) := by decide +kernel
theorem d_AF_receiver_1 : decode c_AF_receiver 1 = .ok (.iconst 1, 1) := by decide +kernel
theorem d_AF_receiver_2 : decode c_AF_receiver 2 = .ok (.if_icmp .lt 28, 3) := by decide +kernel
theorem d_AF_receiver_5 : decode c_AF_receiver 5 = .ok (.iload_n 1, 1) := by decide +kernel
theorem d_AF_receiver_6 : decode c_AF_receiver 6 = .ok (.bipush 18, 2) := by decide +kernel
theorem d_AF_receiver_8 : decode c_AF_receiver 8 = .ok (.if_icmp .gt 22, 3) := by decide +kernel
theorem d_AF_receiver_11 : decode c_AF_receiver 11 = .ok (.iload_n 2, 1) := by decide +kernel
theorem d_AF_receiver_12 : decode c_AF_receiver 12 = .ok (.ifCond .lt 18, 3) := by decide +kernel
theorem d_AF_receiver_15 : decode c_AF_receiver 15 = .ok (.iload_n 2, 1) := by decide +kernel
theorem d_AF_receiver_16 : decode c_AF_receiver 16 = .ok (.iload_n 1, 1) := by decide +kernel
theorem d_AF_receiver_17 : decode c_AF_receiver 17 = .ok (.if_icmp .gt 13, 3) := by decide +kernel
theorem d_AF_receiver_20 : decode c_AF_receiver 20 = .ok (.iload_n 3, 1) := by decide +kernel
theorem d_AF_receiver_21 : decode c_AF_receiver 21 = .ok (.ifCond .lt 9, 3) := by decide +kernel
theorem d_AF_receiver_24 : decode c_AF_receiver 24 = .ok (.iload_n 3, 1) := by decide +kernel
theorem d_AF_receiver_25 : decode c_AF_receiver 25 = .ok (.bipush 7, 2) := by decide +kernel
theorem d_AF_receiver_27 : decode c_AF_receiver 27 = .ok (.if_icmp .le 6, 3) := by decide +kernel
theorem d_AF_receiver_30 : decode c_AF_receiver 30 = .ok (.bipush (-4), 2) := by decide +kernel
theorem d_AF_receiver_32 : decode c_AF_receiver 32 = .ok (.ireturn, 1) := by decide +kernel
theorem d_AF_receiver_33 : decode c_AF_receiver 33 = .ok (.aload_n 0, 1) := by decide +kernel
theorem d_AF_receiver_34 : decode c_AF_receiver 34 = .ok (.getfield 76, 3) := by decide +kernel
theorem d_AF_receiver_37 : decode c_AF_receiver 37 = .ok (.bipush 20, 2) := by decide +kernel
theorem d_AF_receiver_39 : decode c_AF_receiver 39 = .ok (.if_icmp .lt 5, 3) := by decide +kernel
theorem d_AF_receiver_42 : decode c_AF_receiver 42 = .ok (.iconst (-1), 1) := by decide +kernel
theorem d_AF_receiver_43 : decode c_AF_receiver 43 = .ok (.ireturn, 1) := by decide +kernel
theorem d_AF_receiver_44 : decode c_AF_receiver 44 = .ok (.aload_n 0, 1) := by decide +kernel
theorem d_AF_receiver_45 : decode c_AF_receiver 45 = .ok (.getfield 17, 3) := by decide +kernel
theorem d_AF_receiver_48 : decode c_AF_receiver 48 = .ok (.aload_n 0, 1) := by decide +kernel
theorem d_AF_receiver_49 : decode c_AF_receiver 49 = .ok (.getfield 76, 3) := by decide +kernel
theorem d_AF_receiver_52 : decode c_AF_receiver 52 = .ok (.new 15, 3) := by decide +kernel
theorem d_AF_receiver_55 : decode c_AF_receiver 55 = .ok (.dup, 1) := by decide +kernel
theorem d_AF_receiver_56 : decode c_AF_receiver 56 = .ok (.iload_n 1, 1) := by decide +kernel
theorem d_AF_receiver_57 : decode c_AF_receiver 57 = .ok (.iload_n 2, 1) := by decide +kernel
theorem d_AF_receiver_58 : decode c_AF_receiver 58 = .ok (.iload_n 3, 1) := by decide +kernel
theorem d_AF_receiver_59 : decode c_AF_receiver 59 = .ok (.invokespecial 79, 3) := by decide +kernel
theorem d_AF_receiver_62 : decode c_AF_receiver 62 = .ok (.aastore, 1) := by decide +kernel
theorem d_AF_receiver_63 : decode c_AF_receiver 63 = .ok (.aload_n 0, 1) := by decide +kernel
theorem d_AF_receiver_64 : decode c_AF_receiver 64 = .ok (.dup, 1) := by decide +kernel
theorem d_AF_receiver_65 : decode c_AF_receiver 65 = .ok (.getfield 76, 3) := by decide +kernel
theorem d_AF_receiver_68 : decode c_AF_receiver 68 = .ok (.iconst 1, 1) := by decide +kernel
theorem d_AF_receiver_69 : decode c_AF_receiver 69 = .ok (.iadd, 1) := by decide +kernel
theorem d_AF_receiver_70 : decode c_AF_receiver 70 = .ok (.putfield 76, 3) := by decide +kernel
theorem d_AF_receiver_73 : decode c_AF_receiver 73 = .ok (.aload_n 0, 1) := by decide +kernel
theorem d_AF_receiver_74 : decode c_AF_receiver 74 = .ok (.getfield 76, 3) := by decide +kernel
theorem d_AF_receiver_77 : decode c_AF_receiver 77 = .ok (.ireturn, 1) := by decide +kernel
theorem d_AF_run_0 : decode c_AF_run 0 = .ok (.iload_n 1, 1) := by decide +kernel
theorem d_AF_run_1 : decode c_AF_run 1 = .ok (.ifCond .lt 8, 3) := by decide +kernel
theorem d_AF_run_4 : decode c_AF_run 4 = .ok (.iload_n 1, 1) := by decide +kernel
theorem d_AF_run_5 : decode c_AF_run 5 = .ok (.iconst 4, 1) := by decide +kernel
theorem d_AF_run_6 : decode c_AF_run 6 = .ok (.if_icmp .le 6, 3) := by decide +kernel
theorem d_AF_run_9 : decode c_AF_run 9 = .ok (.bipush (-4), 2) := by decide +kernel
theorem d_AF_run_11 : decode c_AF_run 11 = .ok (.ireturn, 1) := by decide +kernel
theorem d_AF_run_12 : decode c_AF_run 12 = .ok (.aload_n 0, 1) := by decide +kernel
theorem d_AF_run_13 : decode c_AF_run 13 = .ok (.iload_n 2, 1) := by decide +kernel
theorem d_AF_run_14 : decode c_AF_run 14 = .ok (.invokevirtual 68, 3) := by decide +kernel
theorem d_AF_run_17 : decode c_AF_run 17 = .ok (.astore 4, 2) := by decide +kernel
theorem d_AF_run_19 : decode c_AF_run 19 = .ok (.aload 4, 2) := by decide +kernel
theorem d_AF_run_21 : decode c_AF_run 21 = .ok (.ifnonnull 6, 3) := by decide +kernel
theorem d_AF_run_24 : decode c_AF_run 24 = .ok (.bipush (-2), 2) := by decide +kernel
theorem d_AF_run_26 : decode c_AF_run 26 = .ok (.ireturn, 1) := by decide +kernel
theorem d_AF_run_27 : decode c_AF_run 27 = .ok (.aload_n 0, 1) := by decide +kernel
theorem d_AF_run_28 : decode c_AF_run 28 = .ok (.iconst 0, 1) := by decide +kernel
theorem d_AF_run_29 : decode c_AF_run 29 = .ok (.putfield 82, 3) := by decide +kernel
theorem d_AF_run_32 : decode c_AF_run 32 = .ok (.iconst 0, 1) := by decide +kernel
theorem d_AF_run_33 : decode c_AF_run 33 = .ok (.istore 5, 2) := by decide +kernel
theorem d_AF_run_35 : decode c_AF_run 35 = .ok (.iconst 1, 1) := by decide +kernel
theorem d_AF_run_36 : decode c_AF_run 36 = .ok (.istore 6, 2) := by decide +kernel
theorem d_AF_run_38 : decode c_AF_run 38 = .ok (.iload 6, 2) := by decide +kernel
theorem d_AF_run_40 : decode c_AF_run 40 = .ok (.aload_n 0, 1) := by decide +kernel
theorem d_AF_run_41 : decode c_AF_run 41 = .ok (.getfield 76, 3) := by decide +kernel
theorem d_AF_run_44 : decode c_AF_run 44 = .ok (.if_icmp .gt 38, 3) := by decide +kernel
theorem d_AF_run_47 : decode c_AF_run 47 = .ok (.aload_n 0, 1) := by decide +kernel
theorem d_AF_run_48 : decode c_AF_run 48 = .ok (.iload 6, 2) := by decide +kernel
theorem d_AF_run_50 : decode c_AF_run 50 = .ok (.invokevirtual 85, 3) := by decide +kernel
theorem d_AF_run_53 : decode c_AF_run 53 = .ok (.astore 7, 2) := by decide +kernel
theorem d_AF_run_55 : decode c_AF_run 55 = .ok (.aload 7, 2) := by decide +kernel
theorem d_AF_run_57 : decode c_AF_run 57 = .ok (.ifnull 19, 3) := by decide +kernel
theorem d_AF_run_60 : decode c_AF_run 60 = .ok (.aload_n 0, 1) := by decide +kernel
theorem d_AF_run_61 : decode c_AF_run 61 = .ok (.aload 7, 2) := by decide +kernel
theorem d_AF_run_63 : decode c_AF_run 63 = .ok (.iload_n 1, 1) := by decide +kernel
theorem d_AF_run_64 : decode c_AF_run 64 = .ok (.aload 4, 2) := by decide +kernel
theorem d_AF_run_66 : decode c_AF_run 66 = .ok (.iload_n 3, 1) := by decide +kernel
theorem d_AF_run_67 : decode c_AF_run 67 = .ok (.invokevirtual 89, 3) := by decide +kernel
theorem d_AF_run_70 : decode c_AF_run 70 = .ok (.ifCond .eq 6, 3) := by decide +kernel
theorem d_AF_run_73 : decode c_AF_run 73 = .ok (.iinc 5 1, 3) := by decide +kernel
theorem d_AF_run_76 : decode c_AF_run 76 = .ok (.iinc 6 1, 3) := by decide +kernel
theorem d_AF_run_79 : decode c_AF_run 79 = .ok (.goto (-41), 3) := by decide +kernel
theorem d_AF_run_82 : decode c_AF_run 82 = .ok (.iload 5, 2) := by decide +kernel
theorem d_AF_run_84 : decode c_AF_run 84 = .ok (.ireturn, 1) := by decide +kernel
theorem d_AF_receiverAt_0 : decode c_AF_receiverAt 0 = .ok (.iload_n 1, 1) := by decide +kernel
theorem d_AF_receiverAt_1 : decode c_AF_receiverAt 1 = .ok (.iconst 1, 1) := by decide +kernel
theorem d_AF_receiverAt_2 : decode c_AF_receiverAt 2 = .ok (.if_icmp .lt 11, 3) := by decide +kernel
theorem d_AF_receiverAt_5 : decode c_AF_receiverAt 5 = .ok (.iload_n 1, 1) := by decide +kernel
theorem d_AF_receiverAt_6 : decode c_AF_receiverAt 6 = .ok (.aload_n 0, 1) := by decide +kernel
theorem d_AF_receiverAt_7 : decode c_AF_receiverAt 7 = .ok (.getfield 76, 3) := by decide +kernel
theorem d_AF_receiverAt_10 : decode c_AF_receiverAt 10 = .ok (.if_icmp .le 7, 3) := by decide +kernel
theorem d_AF_receiverAt_13 : decode c_AF_receiverAt 13 = .ok (.aconst_null, 1) := by decide +kernel
theorem d_AF_receiverAt_14 : decode c_AF_receiverAt 14 = .ok (.goto 11, 3) := by decide +kernel
theorem d_AF_receiverAt_17 : decode c_AF_receiverAt 17 = .ok (.aload_n 0, 1) := by decide +kernel
theorem d_AF_receiverAt_18 : decode c_AF_receiverAt 18 = .ok (.getfield 17, 3) := by decide +kernel
theorem d_AF_receiverAt_21 : decode c_AF_receiverAt 21 = .ok (.iload_n 1, 1) := by decide +kernel
theorem d_AF_receiverAt_22 : decode c_AF_receiverAt 22 = .ok (.iconst 1, 1) := by decide +kernel
theorem d_AF_receiverAt_23 : decode c_AF_receiverAt 23 = .ok (.isub, 1) := by decide +kernel
theorem d_AF_receiverAt_24 : decode c_AF_receiverAt 24 = .ok (.aaload, 1) := by decide +kernel
theorem d_AF_receiverAt_25 : decode c_AF_receiverAt 25 = .ok (.areturn, 1) := by decide +kernel
theorem d_AF_give_0 : decode c_AF_give 0 = .ok (.aload_n 0, 1) := by decide +kernel
theorem d_AF_give_1 : decode c_AF_give 1 = .ok (.getfield 22, 3) := by decide +kernel
theorem d_AF_give_4 : decode c_AF_give 4 = .ok (.aload_n 1, 1) := by decide +kernel
theorem d_AF_give_5 : decode c_AF_give 5 = .ok (.getfield 93, 3) := by decide +kernel
theorem d_AF_give_8 : decode c_AF_give 8 = .ok (.aload_n 1, 1) := by decide +kernel
theorem d_AF_give_9 : decode c_AF_give 9 = .ok (.getfield 155, 3) := by decide +kernel
theorem d_AF_give_12 : decode c_AF_give 12 = .ok (.invokevirtual 54, 3) := by decide +kernel
theorem d_AF_give_15 : decode c_AF_give 15 = .ok (.iload_n 2, 1) := by decide +kernel
theorem d_AF_give_16 : decode c_AF_give 16 = .ok (.ifCond .ne 14, 3) := by decide +kernel
theorem d_AF_give_19 : decode c_AF_give 19 = .ok (.aload_n 0, 1) := by decide +kernel
theorem d_AF_give_20 : decode c_AF_give 20 = .ok (.getfield 26, 3) := by decide +kernel
theorem d_AF_give_23 : decode c_AF_give 23 = .ok (.aload_n 3, 1) := by decide +kernel
theorem d_AF_give_24 : decode c_AF_give 24 = .ok (.invokevirtual 138, 3) := by decide +kernel
theorem d_AF_give_27 : decode c_AF_give 27 = .ok (.goto 19, 3) := by decide +kernel
theorem d_AF_give_30 : decode c_AF_give 30 = .ok (.aload_n 0, 1) := by decide +kernel
theorem d_AF_give_31 : decode c_AF_give 31 = .ok (.iload_n 2, 1) := by decide +kernel
theorem d_AF_give_32 : decode c_AF_give 32 = .ok (.iconst 1, 1) := by decide +kernel
theorem d_AF_give_33 : decode c_AF_give 33 = .ok (.isub, 1) := by decide +kernel
theorem d_AF_give_34 : decode c_AF_give 34 = .ok (.aload_n 0, 1) := by decide +kernel
theorem d_AF_give_35 : decode c_AF_give 35 = .ok (.getfield 26, 3) := by decide +kernel
theorem d_AF_give_38 : decode c_AF_give 38 = .ok (.aload_n 0, 1) := by decide +kernel
theorem d_AF_give_39 : decode c_AF_give 39 = .ok (.getfield 22, 3) := by decide +kernel
theorem d_AF_give_42 : decode c_AF_give 42 = .ok (.aload_n 3, 1) := by decide +kernel
theorem d_AF_give_43 : decode c_AF_give 43 = .ok (.invokevirtual 142, 3) := by decide +kernel
theorem d_AF_give_46 : decode c_AF_give 46 = .ok (.aload_n 0, 1) := by decide +kernel
theorem d_AF_give_47 : decode c_AF_give 47 = .ok (.getfield 26, 3) := by decide +kernel
theorem d_AF_give_50 : decode c_AF_give 50 = .ok (.getfield 110, 3) := by decide +kernel
theorem d_AF_give_53 : decode c_AF_give 53 = .ok (.istore 5, 2) := by decide +kernel
theorem d_AF_give_55 : decode c_AF_give 55 = .ok (.iload 5, 2) := by decide +kernel
theorem d_AF_give_57 : decode c_AF_give 57 = .ok (.ifCond .ne 17, 3) := by decide +kernel
theorem d_AF_give_60 : decode c_AF_give 60 = .ok (.aload_n 1, 1) := by decide +kernel
theorem d_AF_give_61 : decode c_AF_give 61 = .ok (.aload_n 0, 1) := by decide +kernel
theorem d_AF_give_62 : decode c_AF_give 62 = .ok (.getfield 26, 3) := by decide +kernel
theorem d_AF_give_65 : decode c_AF_give 65 = .ok (.invokevirtual 158, 3) := by decide +kernel
theorem d_AF_give_68 : decode c_AF_give 68 = .ok (.ifCond .eq 6, 3) := by decide +kernel
theorem d_AF_give_71 : decode c_AF_give 71 = .ok (.iconst 3, 1) := by decide +kernel
theorem d_AF_give_72 : decode c_AF_give 72 = .ok (.istore 5, 2) := by decide +kernel
theorem d_AF_give_74 : decode c_AF_give 74 = .ok (.iload 5, 2) := by decide +kernel
theorem d_AF_give_76 : decode c_AF_give 76 = .ok (.ifCond .ne 18, 3) := by decide +kernel
theorem d_AF_give_79 : decode c_AF_give 79 = .ok (.aload_n 1, 1) := by decide +kernel
theorem d_AF_give_80 : decode c_AF_give 80 = .ok (.aload_n 0, 1) := by decide +kernel
theorem d_AF_give_81 : decode c_AF_give 81 = .ok (.getfield 26, 3) := by decide +kernel
theorem d_AF_give_84 : decode c_AF_give 84 = .ok (.invokevirtual 162, 3) := by decide +kernel
theorem d_AF_give_87 : decode c_AF_give 87 = .ok (.ifCond .eq 7, 3) := by decide +kernel
theorem d_AF_give_90 : decode c_AF_give 90 = .ok (.iconst 1, 1) := by decide +kernel
theorem d_AF_give_91 : decode c_AF_give 91 = .ok (.goto 4, 3) := by decide +kernel
theorem d_AF_give_94 : decode c_AF_give 94 = .ok (.iconst 0, 1) := by decide +kernel
theorem d_AF_give_95 : decode c_AF_give 95 = .ok (.istore 6, 2) := by decide +kernel
theorem d_AF_give_97 : decode c_AF_give 97 = .ok (.aload_n 1, 1) := by decide +kernel
theorem d_AF_give_98 : decode c_AF_give 98 = .ok (.iload 6, 2) := by decide +kernel
theorem d_AF_give_100 : decode c_AF_give 100 = .ok (.ifCond .ne 7, 3) := by decide +kernel
theorem d_AF_give_103 : decode c_AF_give 103 = .ok (.iconst 1, 1) := by decide +kernel
theorem d_AF_give_104 : decode c_AF_give 104 = .ok (.goto 4, 3) := by decide +kernel
theorem d_AF_give_107 : decode c_AF_give 107 = .ok (.iconst 0, 1) := by decide +kernel
theorem d_AF_give_108 : decode c_AF_give 108 = .ok (.putfield 101, 3) := by decide +kernel
theorem d_AF_give_111 : decode c_AF_give 111 = .ok (.iload 6, 2) := by decide +kernel
theorem d_AF_give_113 : decode c_AF_give 113 = .ok (.ifCond .ne 18, 3) := by decide +kernel
theorem d_AF_give_116 : decode c_AF_give 116 = .ok (.aload_n 0, 1) := by decide +kernel
theorem d_AF_give_117 : decode c_AF_give 117 = .ok (.iload 5, 2) := by decide +kernel
theorem d_AF_give_119 : decode c_AF_give 119 = .ok (.ifCond .ne 7, 3) := by decide +kernel
theorem d_AF_give_122 : decode c_AF_give 122 = .ok (.iconst 1, 1) := by decide +kernel
theorem d_AF_give_123 : decode c_AF_give 123 = .ok (.goto 5, 3) := by decide +kernel
theorem d_AF_give_126 : decode c_AF_give 126 = .ok (.iload 5, 2) := by decide +kernel
theorem d_AF_give_128 : decode c_AF_give 128 = .ok (.putfield 82, 3) := by decide +kernel
theorem d_AF_give_131 : decode c_AF_give 131 = .ok (.iload 6, 2) := by decide +kernel
theorem d_AF_give_133 : decode c_AF_give 133 = .ok (.ifCond .ne 13, 3) := by decide +kernel
theorem d_AF_give_136 : decode c_AF_give 136 = .ok (.iload 5, 2) := by decide +kernel
theorem d_AF_give_138 : decode c_AF_give 138 = .ok (.ifCond .ne 33, 3) := by decide +kernel
theorem d_AF_give_141 : decode c_AF_give 141 = .ok (.iload 4, 2) := by decide +kernel
theorem d_AF_give_143 : decode c_AF_give 143 = .ok (.ifCond .ne 28, 3) := by decide +kernel
theorem d_AF_give_146 : decode c_AF_give 146 = .ok (.aload_n 1, 1) := by decide +kernel
theorem d_AF_give_147 : decode c_AF_give 147 = .ok (.aload_n 1, 1) := by decide +kernel
theorem d_AF_give_148 : decode c_AF_give 148 = .ok (.aload_n 0, 1) := by decide +kernel
theorem d_AF_give_149 : decode c_AF_give 149 = .ok (.getfield 26, 3) := by decide +kernel
theorem d_AF_give_152 : decode c_AF_give 152 = .ok (.getfield 120, 3) := by decide +kernel
theorem d_AF_give_155 : decode c_AF_give 155 = .ok (.i2l, 1) := by decide +kernel
theorem d_AF_give_156 : decode c_AF_give 156 = .ok (.aload_n 1, 1) := by decide +kernel
theorem d_AF_give_157 : decode c_AF_give 157 = .ok (.aload_n 0, 1) := by decide +kernel
theorem d_AF_give_158 : decode c_AF_give 158 = .ok (.getfield 26, 3) := by decide +kernel
theorem d_AF_give_161 : decode c_AF_give 161 = .ok (.invokevirtual 165, 3) := by decide +kernel
theorem d_AF_give_164 : decode c_AF_give 164 = .ok (.lmul, 1) := by decide +kernel
theorem d_AF_give_165 : decode c_AF_give 165 = .ok (.invokevirtual 97, 3) := by decide +kernel
theorem d_AF_give_168 : decode c_AF_give 168 = .ok (.putfield 93, 3) := by decide +kernel
theorem d_AF_give_171 : decode c_AF_give 171 = .ok (.iload_n 2, 1) := by decide +kernel
theorem d_AF_give_172 : decode c_AF_give 172 = .ok (.iconst 4, 1) := by decide +kernel
theorem d_AF_give_173 : decode c_AF_give 173 = .ok (.if_icmp .ne 22, 3) := by decide +kernel
theorem d_AF_give_176 : decode c_AF_give 176 = .ok (.aload_n 1, 1) := by decide +kernel
theorem d_AF_give_177 : decode c_AF_give 177 = .ok (.iload 6, 2) := by decide +kernel
theorem d_AF_give_179 : decode c_AF_give 179 = .ok (.ifCond .eq 12, 3) := by decide +kernel
theorem d_AF_give_182 : decode c_AF_give 182 = .ok (.aload_n 0, 1) := by decide +kernel
theorem d_AF_give_183 : decode c_AF_give 183 = .ok (.aload_n 1, 1) := by decide +kernel
theorem d_AF_give_184 : decode c_AF_give 184 = .ok (.aload_n 3, 1) := by decide +kernel
theorem d_AF_give_185 : decode c_AF_give 185 = .ok (.invokevirtual 169, 3) := by decide +kernel
theorem d_AF_give_188 : decode c_AF_give 188 = .ok (.goto 4, 3) := by decide +kernel
theorem d_AF_give_191 : decode c_AF_give 191 = .ok (.lconst 0, 1) := by decide +kernel
theorem d_AF_give_192 : decode c_AF_give 192 = .ok (.putfield 105, 3) := by decide +kernel
theorem d_AF_give_195 : decode c_AF_give 195 = .ok (.iload 6, 2) := by decide +kernel
theorem d_AF_give_197 : decode c_AF_give 197 = .ok (.ireturn, 1) := by decide +kernel
theorem d_AF_restOf_0 : decode c_AF_restOf 0 = .ok (.aload_n 0, 1) := by decide +kernel
theorem d_AF_restOf_1 : decode c_AF_restOf 1 = .ok (.getfield 26, 3) := by decide +kernel
theorem d_AF_restOf_4 : decode c_AF_restOf 4 = .ok (.aload_n 0, 1) := by decide +kernel
theorem d_AF_restOf_5 : decode c_AF_restOf 5 = .ok (.getfield 26, 3) := by decide +kernel
theorem d_AF_restOf_8 : decode c_AF_restOf 8 = .ok (.aload_n 1, 1) := by decide +kernel
theorem d_AF_restOf_9 : decode c_AF_restOf 9 = .ok (.getfield 155, 3) := by decide +kernel
theorem d_AF_restOf_12 : decode c_AF_restOf 12 = .ok (.invokevirtual 173, 3) := by decide +kernel
theorem d_AF_restOf_15 : decode c_AF_restOf 15 = .ok (.invokevirtual 61, 3) := by decide +kernel
theorem d_AF_restOf_18 : decode c_AF_restOf 18 = .ok (.aload_n 0, 1) := by decide +kernel
theorem d_AF_restOf_19 : decode c_AF_restOf 19 = .ok (.getfield 46, 3) := by decide +kernel
theorem d_AF_restOf_22 : decode c_AF_restOf 22 = .ok (.aload_n 0, 1) := by decide +kernel
theorem d_AF_restOf_23 : decode c_AF_restOf 23 = .ok (.getfield 29, 3) := by decide +kernel
theorem d_AF_restOf_26 : decode c_AF_restOf 26 = .ok (.aload_n 2, 1) := by decide +kernel
theorem d_AF_restOf_27 : decode c_AF_restOf 27 = .ok (.aload_n 0, 1) := by decide +kernel
theorem d_AF_restOf_28 : decode c_AF_restOf 28 = .ok (.getfield 26, 3) := by decide +kernel
theorem d_AF_restOf_31 : decode c_AF_restOf 31 = .ok (.invokevirtual 149, 3) := by decide +kernel
theorem d_AF_restOf_34 : decode c_AF_restOf 34 = .ok (.aload_n 0, 1) := by decide +kernel
theorem d_AF_restOf_35 : decode c_AF_restOf 35 = .ok (.getfield 46, 3) := by decide +kernel
theorem d_AF_restOf_38 : decode c_AF_restOf 38 = .ok (.aload_n 0, 1) := by decide +kernel
theorem d_AF_restOf_39 : decode c_AF_restOf 39 = .ok (.getfield 29, 3) := by decide +kernel
theorem d_AF_restOf_42 : decode c_AF_restOf 42 = .ok (.aload_n 0, 1) := by decide +kernel
theorem d_AF_restOf_43 : decode c_AF_restOf 43 = .ok (.getfield 22, 3) := by decide +kernel
theorem d_AF_restOf_46 : decode c_AF_restOf 46 = .ok (.aload_n 0, 1) := by decide +kernel
theorem d_AF_restOf_47 : decode c_AF_restOf 47 = .ok (.getfield 29, 3) := by decide +kernel
theorem d_AF_restOf_50 : decode c_AF_restOf 50 = .ok (.iconst (-1), 1) := by decide +kernel
theorem d_AF_restOf_51 : decode c_AF_restOf 51 = .ok (.invokevirtual 145, 3) := by decide +kernel
theorem d_AF_restOf_54 : decode c_AF_restOf 54 = .ok (.aload_n 0, 1) := by decide +kernel
theorem d_AF_restOf_55 : decode c_AF_restOf 55 = .ok (.getfield 29, 3) := by decide +kernel
theorem d_AF_restOf_58 : decode c_AF_restOf 58 = .ok (.getfield 120, 3) := by decide +kernel
theorem d_AF_restOf_61 : decode c_AF_restOf 61 = .ok (.i2l, 1) := by decide +kernel
theorem d_AF_restOf_62 : decode c_AF_restOf 62 = .ok (.aload_n 0, 1) := by decide +kernel
theorem d_AF_restOf_63 : decode c_AF_restOf 63 = .ok (.getfield 29, 3) := by decide +kernel
theorem d_AF_restOf_66 : decode c_AF_restOf 66 = .ok (.aload_n 1, 1) := by decide +kernel
theorem d_AF_restOf_67 : decode c_AF_restOf 67 = .ok (.getfield 155, 3) := by decide +kernel
theorem d_AF_restOf_70 : decode c_AF_restOf 70 = .ok (.invokevirtual 176, 3) := by decide +kernel
theorem d_AF_restOf_73 : decode c_AF_restOf 73 = .ok (.lmul, 1) := by decide +kernel
theorem d_AF_restOf_74 : decode c_AF_restOf 74 = .ok (.lreturn, 1) := by decide +kernel
theorem d_AF_stored_0 : decode c_AF_stored 0 = .ok (.aload_n 0, 1) := by decide +kernel
theorem d_AF_stored_1 : decode c_AF_stored 1 = .ok (.iload_n 1, 1) := by decide +kernel
theorem d_AF_stored_2 : decode c_AF_stored 2 = .ok (.invokevirtual 85, 3) := by decide +kernel
theorem d_AF_stored_5 : decode c_AF_stored 5 = .ok (.astore_n 2, 1) := by decide +kernel
theorem d_AF_stored_6 : decode c_AF_stored 6 = .ok (.aload_n 2, 1) := by decide +kernel
theorem d_AF_stored_7 : decode c_AF_stored 7 = .ok (.ifnonnull 7, 3) := by decide +kernel
theorem d_AF_stored_10 : decode c_AF_stored 10 = .ok (.lconst 0, 1) := by decide +kernel
theorem d_AF_stored_11 : decode c_AF_stored 11 = .ok (.goto 7, 3) := by decide +kernel
theorem d_AF_stored_14 : decode c_AF_stored 14 = .ok (.aload_n 2, 1) := by decide +kernel
theorem d_AF_stored_15 : decode c_AF_stored 15 = .ok (.getfield 93, 3) := by decide +kernel
theorem d_AF_stored_18 : decode c_AF_stored 18 = .ok (.lreturn, 1) := by decide +kernel
theorem d_AF_set_0 : decode c_AF_set 0 = .ok (.aload_n 0, 1) := by decide +kernel
theorem d_AF_set_1 : decode c_AF_set 1 = .ok (.iload_n 1, 1) := by decide +kernel
theorem d_AF_set_2 : decode c_AF_set 2 = .ok (.invokevirtual 85, 3) := by decide +kernel
theorem d_AF_set_5 : decode c_AF_set 5 = .ok (.astore 4, 2) := by decide +kernel
theorem d_AF_set_7 : decode c_AF_set 7 = .ok (.aload 4, 2) := by decide +kernel
theorem d_AF_set_9 : decode c_AF_set 9 = .ok (.ifnonnull 6, 3) := by decide +kernel
theorem d_AF_set_12 : decode c_AF_set 12 = .ok (.bipush (-2), 2) := by decide +kernel
theorem d_AF_set_14 : decode c_AF_set 14 = .ok (.ireturn, 1) := by decide +kernel
theorem d_AF_set_15 : decode c_AF_set 15 = .ok (.aload 4, 2) := by decide +kernel
theorem d_AF_set_17 : decode c_AF_set 17 = .ok (.aload 4, 2) := by decide +kernel
theorem d_AF_set_19 : decode c_AF_set 19 = .ok (.lload_n 2, 1) := by decide +kernel
theorem d_AF_set_20 : decode c_AF_set 20 = .ok (.invokevirtual 97, 3) := by decide +kernel
theorem d_AF_set_23 : decode c_AF_set 23 = .ok (.putfield 93, 3) := by decide +kernel
theorem d_AF_set_26 : decode c_AF_set 26 = .ok (.iconst 1, 1) := by decide +kernel
theorem d_AF_set_27 : decode c_AF_set 27 = .ok (.ireturn, 1) := by decide +kernel
theorem d_AF_error_0 : decode c_AF_error 0 = .ok (.aload_n 0, 1) := by decide +kernel
theorem d_AF_error_1 : decode c_AF_error 1 = .ok (.iload_n 1, 1) := by decide +kernel
theorem d_AF_error_2 : decode c_AF_error 2 = .ok (.invokevirtual 85, 3) := by decide +kernel
theorem d_AF_error_5 : decode c_AF_error 5 = .ok (.astore_n 2, 1) := by decide +kernel
theorem d_AF_error_6 : decode c_AF_error 6 = .ok (.aload_n 2, 1) := by decide +kernel
theorem d_AF_error_7 : decode c_AF_error 7 = .ok (.ifnull 14, 3) := by decide +kernel
theorem d_AF_error_10 : decode c_AF_error 10 = .ok (.aload_n 2, 1) := by decide +kernel
theorem d_AF_error_11 : decode c_AF_error 11 = .ok (.getfield 101, 3) := by decide +kernel
theorem d_AF_error_14 : decode c_AF_error 14 = .ok (.ifCond .eq 7, 3) := by decide +kernel
theorem d_AF_error_17 : decode c_AF_error 17 = .ok (.iconst 1, 1) := by decide +kernel
theorem d_AF_error_18 : decode c_AF_error 18 = .ok (.goto 4, 3) := by decide +kernel
theorem d_AF_error_21 : decode c_AF_error 21 = .ok (.iconst 0, 1) := by decide +kernel
theorem d_AF_error_22 : decode c_AF_error 22 = .ok (.ireturn, 1) := by decide +kernel
theorem d_AF_rest_0 : decode c_AF_rest 0 = .ok (.aload_n 0, 1) := by decide +kernel
theorem d_AF_rest_1 : decode c_AF_rest 1 = .ok (.iload_n 1, 1) := by decide +kernel
theorem d_AF_rest_2 : decode c_AF_rest 2 = .ok (.invokevirtual 85, 3) := by decide +kernel
theorem d_AF_rest_5 : decode c_AF_rest 5 = .ok (.astore_n 2, 1) := by decide +kernel
theorem d_AF_rest_6 : decode c_AF_rest 6 = .ok (.aload_n 2, 1) := by decide +kernel
theorem d_AF_rest_7 : decode c_AF_rest 7 = .ok (.ifnonnull 7, 3) := by decide +kernel
theorem d_AF_rest_10 : decode c_AF_rest 10 = .ok (.lconst 0, 1) := by decide +kernel
theorem d_AF_rest_11 : decode c_AF_rest 11 = .ok (.goto 7, 3) := by decide +kernel
theorem d_AF_rest_14 : decode c_AF_rest 14 = .ok (.aload_n 2, 1) := by decide +kernel
theorem d_AF_rest_15 : decode c_AF_rest 15 = .ok (.getfield 105, 3) := by decide +kernel
theorem d_AF_rest_18 : decode c_AF_rest 18 = .ok (.lreturn, 1) := by decide +kernel
theorem d_AF_raises_0 : decode c_AF_raises 0 = .ok (.aload_n 0, 1) := by decide +kernel
theorem d_AF_raises_1 : decode c_AF_raises 1 = .ok (.iload_n 1, 1) := by decide +kernel
theorem d_AF_raises_2 : decode c_AF_raises 2 = .ok (.invokevirtual 68, 3) := by decide +kernel
theorem d_AF_raises_5 : decode c_AF_raises 5 = .ok (.astore_n 2, 1) := by decide +kernel
theorem d_AF_raises_6 : decode c_AF_raises 6 = .ok (.aload_n 2, 1) := by decide +kernel
theorem d_AF_raises_7 : decode c_AF_raises 7 = .ok (.ifnonnull 8, 3) := by decide +kernel
theorem d_AF_raises_10 : decode c_AF_raises 10 = .ok (.bipush (-2), 2) := by decide +kernel
theorem d_AF_raises_12 : decode c_AF_raises 12 = .ok (.goto 7, 3) := by decide +kernel
theorem d_AF_raises_15 : decode c_AF_raises 15 = .ok (.aload_n 2, 1) := by decide +kernel
theorem d_AF_raises_16 : decode c_AF_raises 16 = .ok (.getfield 110, 3) := by decide +kernel
theorem d_AF_raises_19 : decode c_AF_raises 19 = .ok (.ireturn, 1) := by decide +kernel
theorem d_AF_raised_0 : decode c_AF_raised 0 = .ok (.aload_n 0, 1) := by decide +kernel
theorem d_AF_raised_1 : decode c_AF_raised 1 = .ok (.getfield 82, 3) := by decide +kernel
theorem d_AF_raised_4 : decode c_AF_raised 4 = .ok (.ireturn, 1) := by decide +kernel
theorem d_AF_exact_0 : decode c_AF_exact 0 = .ok (.aload_n 0, 1) := by decide +kernel
theorem d_AF_exact_1 : decode c_AF_exact 1 = .ok (.iload_n 1, 1) := by decide +kernel
theorem d_AF_exact_2 : decode c_AF_exact 2 = .ok (.invokevirtual 68, 3) := by decide +kernel
theorem d_AF_exact_5 : decode c_AF_exact 5 = .ok (.astore_n 3, 1) := by decide +kernel
theorem d_AF_exact_6 : decode c_AF_exact 6 = .ok (.aload_n 3, 1) := by decide +kernel
theorem d_AF_exact_7 : decode c_AF_exact 7 = .ok (.ifnull 7, 3) := by decide +kernel
theorem d_AF_exact_10 : decode c_AF_exact 10 = .ok (.iload_n 2, 1) := by decide +kernel
theorem d_AF_exact_11 : decode c_AF_exact 11 = .ok (.ifCond .ge 7, 3) := by decide +kernel
theorem d_AF_exact_14 : decode c_AF_exact 14 = .ok (.ldc2_w 108, 3) := by decide +kernel
theorem d_AF_exact_17 : decode c_AF_exact 17 = .ok (.lreturn, 1) := by decide +kernel
theorem d_AF_exact_18 : decode c_AF_exact 18 = .ok (.aload_n 3, 1) := by decide +kernel
theorem d_AF_exact_19 : decode c_AF_exact 19 = .ok (.getfield 110, 3) := by decide +kernel
theorem d_AF_exact_22 : decode c_AF_exact 22 = .ok (.ifCond .eq 13, 3) := by decide +kernel
theorem d_AF_exact_25 : decode c_AF_exact 25 = .ok (.new 113, 3) := by decide +kernel
theorem d_AF_exact_28 : decode c_AF_exact 28 = .ok (.dup, 1) := by decide +kernel
theorem d_AF_exact_29 : decode c_AF_exact 29 = .ok (.ldc 115, 2) := by decide +kernel
theorem d_AF_exact_31 : decode c_AF_exact 31 = .ok (.invokespecial 117, 3) := by decide +kernel
theorem d_AF_exact_34 : decode c_AF_exact 34 = .ok (.athrow, 1) := by decide +kernel
theorem d_AF_exact_35 : decode c_AF_exact 35 = .ok (.iload_n 2, 1) := by decide +kernel
theorem d_AF_exact_36 : decode c_AF_exact 36 = .ok (.tableswitch 46 0 2 #[28, 34, 40], 28) := by decide +kernel
theorem d_AF_exact_64 : decode c_AF_exact 64 = .ok (.aload_n 3, 1) := by decide +kernel
theorem d_AF_exact_65 : decode c_AF_exact 65 = .ok (.getfield 120, 3) := by decide +kernel
theorem d_AF_exact_68 : decode c_AF_exact 68 = .ok (.i2l, 1) := by decide +kernel
theorem d_AF_exact_69 : decode c_AF_exact 69 = .ok (.lreturn, 1) := by decide +kernel
theorem d_AF_exact_70 : decode c_AF_exact 70 = .ok (.aload_n 3, 1) := by decide +kernel
theorem d_AF_exact_71 : decode c_AF_exact 71 = .ok (.getfield 123, 3) := by decide +kernel
theorem d_AF_exact_74 : decode c_AF_exact 74 = .ok (.i2l, 1) := by decide +kernel
theorem d_AF_exact_75 : decode c_AF_exact 75 = .ok (.lreturn, 1) := by decide +kernel
theorem d_AF_exact_76 : decode c_AF_exact 76 = .ok (.aload_n 3, 1) := by decide +kernel
theorem d_AF_exact_77 : decode c_AF_exact 77 = .ok (.invokevirtual 126, 3) := by decide +kernel
theorem d_AF_exact_80 : decode c_AF_exact 80 = .ok (.i2l, 1) := by decide +kernel
theorem d_AF_exact_81 : decode c_AF_exact 81 = .ok (.lreturn, 1) := by decide +kernel
theorem d_AF_exact_82 : decode c_AF_exact 82 = .ok (.iload_n 2, 1) := by decide +kernel
theorem d_AF_exact_83 : decode c_AF_exact 83 = .ok (.iconst 3, 1) := by decide +kernel
theorem d_AF_exact_84 : decode c_AF_exact 84 = .ok (.isub, 1) := by decide +kernel
theorem d_AF_exact_85 : decode c_AF_exact 85 = .ok (.istore 4, 2) := by decide +kernel
theorem d_AF_exact_87 : decode c_AF_exact 87 = .ok (.iload 4, 2) := by decide +kernel
theorem d_AF_exact_89 : decode c_AF_exact 89 = .ok (.aload_n 3, 1) := by decide +kernel
theorem d_AF_exact_90 : decode c_AF_exact 90 = .ok (.getfield 123, 3) := by decide +kernel
theorem d_AF_exact_93 : decode c_AF_exact 93 = .ok (.if_icmp .ge 13, 3) := by decide +kernel
theorem d_AF_exact_96 : decode c_AF_exact 96 = .ok (.aload_n 3, 1) := by decide +kernel
theorem d_AF_exact_97 : decode c_AF_exact 97 = .ok (.iload 4, 2) := by decide +kernel
theorem d_AF_exact_99 : decode c_AF_exact 99 = .ok (.invokevirtual 130, 3) := by decide +kernel
theorem d_AF_exact_102 : decode c_AF_exact 102 = .ok (.i2l, 1) := by decide +kernel
theorem d_AF_exact_103 : decode c_AF_exact 103 = .ok (.goto 6, 3) := by decide +kernel
theorem d_AF_exact_106 : decode c_AF_exact 106 = .ok (.ldc2_w 108, 3) := by decide +kernel
theorem d_AF_exact_109 : decode c_AF_exact 109 = .ok (.lreturn, 1) := by decide +kernel
theorem d_De_init_0 : decode c_De_init 0 = .ok (.aload_n 0, 1) := by decide +kernel
theorem d_De_init_1 : decode c_De_init 1 = .ok (.invokespecial 5, 3) := by decide +kernel
theorem d_De_init_4 : decode c_De_init 4 = .ok (.aload_n 0, 1) := by decide +kernel
theorem d_De_init_5 : decode c_De_init 5 = .ok (.iconst 4, 1) := by decide +kernel
theorem d_De_init_6 : decode c_De_init 6 = .ok (.newarray .long, 2) := by decide +kernel
theorem d_De_init_8 : decode c_De_init 8 = .ok (.putfield 11, 3) := by decide +kernel
theorem d_De_init_11 : decode c_De_init 11 = .ok (.return_, 1) := by decide +kernel
theorem d_De_load_0 : decode c_De_load 0 = .ok (.aload_n 0, 1) := by decide +kernel
theorem d_De_load_1 : decode c_De_load 1 = .ok (.invokevirtual 34, 3) := by decide +kernel
theorem d_De_load_4 : decode c_De_load 4 = .ok (.lload_n 1, 1) := by decide +kernel
theorem d_De_load_5 : decode c_De_load 5 = .ok (.lconst 0, 1) := by decide +kernel
theorem d_De_load_6 : decode c_De_load 6 = .ok (.lcmp, 1) := by decide +kernel
theorem d_De_load_7 : decode c_De_load 7 = .ok (.ifCond .ne 4, 3) := by decide +kernel
theorem d_De_load_10 : decode c_De_load 10 = .ok (.return_, 1) := by decide +kernel
theorem d_De_load_11 : decode c_De_load 11 = .ok (.iconst 1, 1) := by decide +kernel
theorem d_De_load_12 : decode c_De_load 12 = .ok (.istore 4, 2) := by decide +kernel
theorem d_De_load_14 : decode c_De_load 14 = .ok (.iload 4, 2) := by decide +kernel
theorem d_De_load_16 : decode c_De_load 16 = .ok (.bipush 19, 2) := by decide +kernel
theorem d_De_load_18 : decode c_De_load 18 = .ok (.if_icmp .ge 21, 3) := by decide +kernel
theorem d_De_load_21 : decode c_De_load 21 = .ok (.lload_n 1, 1) := by decide +kernel
theorem d_De_load_22 : decode c_De_load 22 = .ok (.iload 4, 2) := by decide +kernel
theorem d_De_load_24 : decode c_De_load 24 = .ok (.invokestatic 43, 3) := by decide +kernel
theorem d_De_load_27 : decode c_De_load 27 = .ok (.ldiv, 1) := by decide +kernel
theorem d_De_load_28 : decode c_De_load 28 = .ok (.lconst 0, 1) := by decide +kernel
theorem d_De_load_29 : decode c_De_load 29 = .ok (.lcmp, 1) := by decide +kernel
theorem d_De_load_30 : decode c_De_load 30 = .ok (.ifCond .eq 9, 3) := by decide +kernel
theorem d_De_load_33 : decode c_De_load 33 = .ok (.iinc 4 1, 3) := by decide +kernel
theorem d_De_load_36 : decode c_De_load 36 = .ok (.goto (-22), 3) := by decide +kernel
theorem d_De_load_39 : decode c_De_load 39 = .ok (.lload_n 1, 1) := by decide +kernel
theorem d_De_load_40 : decode c_De_load 40 = .ok (.lstore 5, 2) := by decide +kernel
theorem d_De_load_42 : decode c_De_load 42 = .ok (.iload 4, 2) := by decide +kernel
theorem d_De_load_44 : decode c_De_load 44 = .ok (.iconst 1, 1) := by decide +kernel
theorem d_De_load_45 : decode c_De_load 45 = .ok (.isub, 1) := by decide +kernel
theorem d_De_load_46 : decode c_De_load 46 = .ok (.istore 7, 2) := by decide +kernel
theorem d_De_load_48 : decode c_De_load 48 = .ok (.iload 7, 2) := by decide +kernel
theorem d_De_load_50 : decode c_De_load 50 = .ok (.ifCond .lt 51, 3) := by decide +kernel
theorem d_De_load_53 : decode c_De_load 53 = .ok (.aload_n 0, 1) := by decide +kernel
theorem d_De_load_54 : decode c_De_load 54 = .ok (.getfield 11, 3) := by decide +kernel
theorem d_De_load_57 : decode c_De_load 57 = .ok (.iload 7, 2) := by decide +kernel
theorem d_De_load_59 : decode c_De_load 59 = .ok (.bipush 8, 2) := by decide +kernel
theorem d_De_load_61 : decode c_De_load 61 = .ok (.idiv, 1) := by decide +kernel
theorem d_De_load_62 : decode c_De_load 62 = .ok (.dup2, 1) := by decide +kernel
theorem d_De_load_63 : decode c_De_load 63 = .ok (.laload, 1) := by decide +kernel
theorem d_De_load_64 : decode c_De_load 64 = .ok (.lload 5, 2) := by decide +kernel
theorem d_De_load_66 : decode c_De_load 66 = .ok (.ldc2_w 47, 3) := by decide +kernel
theorem d_De_load_69 : decode c_De_load 69 = .ok (.lrem, 1) := by decide +kernel
theorem d_De_load_70 : decode c_De_load 70 = .ok (.invokestatic 49, 3) := by decide +kernel
theorem d_De_load_73 : decode c_De_load 73 = .ok (.bipush 7, 2) := by decide +kernel
theorem d_De_load_75 : decode c_De_load 75 = .ok (.iload 7, 2) := by decide +kernel
theorem d_De_load_77 : decode c_De_load 77 = .ok (.bipush 8, 2) := by decide +kernel
theorem d_De_load_79 : decode c_De_load 79 = .ok (.irem, 1) := by decide +kernel
theorem d_De_load_80 : decode c_De_load 80 = .ok (.isub, 1) := by decide +kernel
theorem d_De_load_81 : decode c_De_load 81 = .ok (.invokestatic 43, 3) := by decide +kernel
theorem d_De_load_84 : decode c_De_load 84 = .ok (.lmul, 1) := by decide +kernel
theorem d_De_load_85 : decode c_De_load 85 = .ok (.ladd, 1) := by decide +kernel
theorem d_De_load_86 : decode c_De_load 86 = .ok (.lastore, 1) := by decide +kernel
theorem d_De_load_87 : decode c_De_load 87 = .ok (.lload 5, 2) := by decide +kernel
theorem d_De_load_89 : decode c_De_load 89 = .ok (.ldc2_w 47, 3) := by decide +kernel
theorem d_De_load_92 : decode c_De_load 92 = .ok (.ldiv, 1) := by decide +kernel
theorem d_De_load_93 : decode c_De_load 93 = .ok (.lstore 5, 2) := by decide +kernel
theorem d_De_load_95 : decode c_De_load 95 = .ok (.iinc 7 (-1), 3) := by decide +kernel
theorem d_De_load_98 : decode c_De_load 98 = .ok (.goto (-50), 3) := by decide +kernel
theorem d_De_load_101 : decode c_De_load 101 = .ok (.aload_n 0, 1) := by decide +kernel
theorem d_De_load_102 : decode c_De_load 102 = .ok (.lload_n 1, 1) := by decide +kernel
theorem d_De_load_103 : decode c_De_load 103 = .ok (.lconst 0, 1) := by decide +kernel
theorem d_De_load_104 : decode c_De_load 104 = .ok (.lcmp, 1) := by decide +kernel
theorem d_De_load_105 : decode c_De_load 105 = .ok (.ifCond .ge 7, 3) := by decide +kernel
theorem d_De_load_108 : decode c_De_load 108 = .ok (.iconst (-1), 1) := by decide +kernel
theorem d_De_load_109 : decode c_De_load 109 = .ok (.goto 4, 3) := by decide +kernel
theorem d_De_load_112 : decode c_De_load 112 = .ok (.iconst 1, 1) := by decide +kernel
theorem d_De_load_113 : decode c_De_load 113 = .ok (.putfield 19, 3) := by decide +kernel
theorem d_De_load_116 : decode c_De_load 116 = .ok (.aload_n 0, 1) := by decide +kernel
theorem d_De_load_117 : decode c_De_load 117 = .ok (.iload 4, 2) := by decide +kernel
theorem d_De_load_119 : decode c_De_load 119 = .ok (.iconst 1, 1) := by decide +kernel
theorem d_De_load_120 : decode c_De_load 120 = .ok (.isub, 1) := by decide +kernel
theorem d_De_load_121 : decode c_De_load 121 = .ok (.iload_n 3, 1) := by decide +kernel
theorem d_De_load_122 : decode c_De_load 122 = .ok (.isub, 1) := by decide +kernel
theorem d_De_load_123 : decode c_De_load 123 = .ok (.putfield 22, 3) := by decide +kernel
theorem d_De_load_126 : decode c_De_load 126 = .ok (.aload_n 0, 1) := by decide +kernel
theorem d_De_load_127 : decode c_De_load 127 = .ok (.bipush 32, 2) := by decide +kernel
theorem d_De_load_129 : decode c_De_load 129 = .ok (.invokevirtual 55, 3) := by decide +kernel
theorem d_De_load_132 : decode c_De_load 132 = .ok (.return_, 1) := by decide +kernel
theorem d_De_clear_0 : decode c_De_clear 0 = .ok (.aload_n 0, 1) := by decide +kernel
theorem d_De_clear_1 : decode c_De_clear 1 = .ok (.iconst 0, 1) := by decide +kernel
theorem d_De_clear_2 : decode c_De_clear 2 = .ok (.putfield 15, 3) := by decide +kernel
theorem d_De_clear_5 : decode c_De_clear 5 = .ok (.aload_n 0, 1) := by decide +kernel
theorem d_De_clear_6 : decode c_De_clear 6 = .ok (.iconst 0, 1) := by decide +kernel
theorem d_De_clear_7 : decode c_De_clear 7 = .ok (.putfield 19, 3) := by decide +kernel
theorem d_De_clear_10 : decode c_De_clear 10 = .ok (.aload_n 0, 1) := by decide +kernel
theorem d_De_clear_11 : decode c_De_clear 11 = .ok (.iconst 0, 1) := by decide +kernel
theorem d_De_clear_12 : decode c_De_clear 12 = .ok (.putfield 22, 3) := by decide +kernel
theorem d_De_clear_15 : decode c_De_clear 15 = .ok (.aload_n 0, 1) := by decide +kernel
theorem d_De_clear_16 : decode c_De_clear 16 = .ok (.iconst 0, 1) := by decide +kernel
theorem d_De_clear_17 : decode c_De_clear 17 = .ok (.putfield 25, 3) := by decide +kernel
theorem d_De_clear_20 : decode c_De_clear 20 = .ok (.aload_n 0, 1) := by decide +kernel
theorem d_De_clear_21 : decode c_De_clear 21 = .ok (.getfield 11, 3) := by decide +kernel
theorem d_De_clear_24 : decode c_De_clear 24 = .ok (.lconst 0, 1) := by decide +kernel
theorem d_De_clear_25 : decode c_De_clear 25 = .ok (.invokestatic 28, 3) := by decide +kernel
theorem d_De_clear_28 : decode c_De_clear 28 = .ok (.return_, 1) := by decide +kernel
theorem d_De_cut_0 : decode c_De_cut 0 = .ok (.iconst 0, 1) := by decide +kernel
theorem d_De_cut_1 : decode c_De_cut 1 = .ok (.istore_n 2, 1) := by decide +kernel
theorem d_De_cut_2 : decode c_De_cut 2 = .ok (.iload_n 2, 1) := by decide +kernel
theorem d_De_cut_3 : decode c_De_cut 3 = .ok (.iconst 4, 1) := by decide +kernel
theorem d_De_cut_4 : decode c_De_cut 4 = .ok (.if_icmp .ge 48, 3) := by decide +kernel
theorem d_De_cut_7 : decode c_De_cut 7 = .ok (.iconst 0, 1) := by decide +kernel
theorem d_De_cut_8 : decode c_De_cut 8 = .ok (.bipush 8, 2) := by decide +kernel
theorem d_De_cut_10 : decode c_De_cut 10 = .ok (.iload_n 1, 1) := by decide +kernel
theorem d_De_cut_11 : decode c_De_cut 11 = .ok (.iload_n 2, 1) := by decide +kernel
theorem d_De_cut_12 : decode c_De_cut 12 = .ok (.bipush 8, 2) := by decide +kernel
theorem d_De_cut_14 : decode c_De_cut 14 = .ok (.imul, 1) := by decide +kernel
theorem d_De_cut_15 : decode c_De_cut 15 = .ok (.isub, 1) := by decide +kernel
theorem d_De_cut_16 : decode c_De_cut 16 = .ok (.invokestatic 59, 3) := by decide +kernel
theorem d_De_cut_19 : decode c_De_cut 19 = .ok (.invokestatic 63, 3) := by decide +kernel
theorem d_De_cut_22 : decode c_De_cut 22 = .ok (.istore_n 3, 1) := by decide +kernel
theorem d_De_cut_23 : decode c_De_cut 23 = .ok (.aload_n 0, 1) := by decide +kernel
theorem d_De_cut_24 : decode c_De_cut 24 = .ok (.getfield 11, 3) := by decide +kernel
theorem d_De_cut_27 : decode c_De_cut 27 = .ok (.iload_n 2, 1) := by decide +kernel
theorem d_De_cut_28 : decode c_De_cut 28 = .ok (.dup2, 1) := by decide +kernel
theorem d_De_cut_29 : decode c_De_cut 29 = .ok (.laload, 1) := by decide +kernel
theorem d_De_cut_30 : decode c_De_cut 30 = .ok (.aload_n 0, 1) := by decide +kernel
theorem d_De_cut_31 : decode c_De_cut 31 = .ok (.getfield 11, 3) := by decide +kernel
theorem d_De_cut_34 : decode c_De_cut 34 = .ok (.iload_n 2, 1) := by decide +kernel
theorem d_De_cut_35 : decode c_De_cut 35 = .ok (.laload, 1) := by decide +kernel
theorem d_De_cut_36 : decode c_De_cut 36 = .ok (.bipush 8, 2) := by decide +kernel
theorem d_De_cut_38 : decode c_De_cut 38 = .ok (.iload_n 3, 1) := by decide +kernel
theorem d_De_cut_39 : decode c_De_cut 39 = .ok (.isub, 1) := by decide +kernel
theorem d_De_cut_40 : decode c_De_cut 40 = .ok (.invokestatic 43, 3) := by decide +kernel
theorem d_De_cut_43 : decode c_De_cut 43 = .ok (.lrem, 1) := by decide +kernel
theorem d_De_cut_44 : decode c_De_cut 44 = .ok (.lsub, 1) := by decide +kernel
theorem d_De_cut_45 : decode c_De_cut 45 = .ok (.lastore, 1) := by decide +kernel
theorem d_De_cut_46 : decode c_De_cut 46 = .ok (.iinc 2 1, 3) := by decide +kernel
theorem d_De_cut_49 : decode c_De_cut 49 = .ok (.goto (-47), 3) := by decide +kernel
theorem d_De_cut_52 : decode c_De_cut 52 = .ok (.iconst 3, 1) := by decide +kernel
theorem d_De_cut_53 : decode c_De_cut 53 = .ok (.istore_n 2, 1) := by decide +kernel
theorem d_De_cut_54 : decode c_De_cut 54 = .ok (.iload_n 2, 1) := by decide +kernel
theorem d_De_cut_55 : decode c_De_cut 55 = .ok (.ifCond .lt 20, 3) := by decide +kernel
theorem d_De_cut_58 : decode c_De_cut 58 = .ok (.aload_n 0, 1) := by decide +kernel
theorem d_De_cut_59 : decode c_De_cut 59 = .ok (.getfield 11, 3) := by decide +kernel
theorem d_De_cut_62 : decode c_De_cut 62 = .ok (.iload_n 2, 1) := by decide +kernel
theorem d_De_cut_63 : decode c_De_cut 63 = .ok (.laload, 1) := by decide +kernel
theorem d_De_cut_64 : decode c_De_cut 64 = .ok (.lconst 0, 1) := by decide +kernel
theorem d_De_cut_65 : decode c_De_cut 65 = .ok (.lcmp, 1) := by decide +kernel
theorem d_De_cut_66 : decode c_De_cut 66 = .ok (.ifCond .ne 9, 3) := by decide +kernel
theorem d_De_cut_69 : decode c_De_cut 69 = .ok (.iinc 2 (-1), 3) := by decide +kernel
theorem d_De_cut_72 : decode c_De_cut 72 = .ok (.goto (-18), 3) := by decide +kernel
theorem d_De_cut_75 : decode c_De_cut 75 = .ok (.iload_n 2, 1) := by decide +kernel
theorem d_De_cut_76 : decode c_De_cut 76 = .ok (.ifCond .ge 8, 3) := by decide +kernel
theorem d_De_cut_79 : decode c_De_cut 79 = .ok (.aload_n 0, 1) := by decide +kernel
theorem d_De_cut_80 : decode c_De_cut 80 = .ok (.invokevirtual 34, 3) := by decide +kernel
theorem d_De_cut_83 : decode c_De_cut 83 = .ok (.return_, 1) := by decide +kernel
theorem d_De_cut_84 : decode c_De_cut 84 = .ok (.iconst 0, 1) := by decide +kernel
theorem d_De_cut_85 : decode c_De_cut 85 = .ok (.istore_n 3, 1) := by decide +kernel
theorem d_De_cut_86 : decode c_De_cut 86 = .ok (.iload_n 3, 1) := by decide +kernel
theorem d_De_cut_87 : decode c_De_cut 87 = .ok (.bipush 8, 2) := by decide +kernel
theorem d_De_cut_89 : decode c_De_cut 89 = .ok (.if_icmp .ge 27, 3) := by decide +kernel
theorem d_De_cut_92 : decode c_De_cut 92 = .ok (.aload_n 0, 1) := by decide +kernel
theorem d_De_cut_93 : decode c_De_cut 93 = .ok (.getfield 11, 3) := by decide +kernel
theorem d_De_cut_96 : decode c_De_cut 96 = .ok (.iload_n 2, 1) := by decide +kernel
theorem d_De_cut_97 : decode c_De_cut 97 = .ok (.laload, 1) := by decide +kernel
theorem d_De_cut_98 : decode c_De_cut 98 = .ok (.iload_n 3, 1) := by decide +kernel
theorem d_De_cut_99 : decode c_De_cut 99 = .ok (.iconst 1, 1) := by decide +kernel
theorem d_De_cut_100 : decode c_De_cut 100 = .ok (.iadd, 1) := by decide +kernel
theorem d_De_cut_101 : decode c_De_cut 101 = .ok (.invokestatic 43, 3) := by decide +kernel
theorem d_De_cut_104 : decode c_De_cut 104 = .ok (.lrem, 1) := by decide +kernel
theorem d_De_cut_105 : decode c_De_cut 105 = .ok (.lconst 0, 1) := by decide +kernel
theorem d_De_cut_106 : decode c_De_cut 106 = .ok (.lcmp, 1) := by decide +kernel
theorem d_De_cut_107 : decode c_De_cut 107 = .ok (.ifCond .ne 9, 3) := by decide +kernel
theorem d_De_cut_110 : decode c_De_cut 110 = .ok (.iinc 3 1, 3) := by decide +kernel
theorem d_De_cut_113 : decode c_De_cut 113 = .ok (.goto (-27), 3) := by decide +kernel
theorem d_De_cut_116 : decode c_De_cut 116 = .ok (.aload_n 0, 1) := by decide +kernel
theorem d_De_cut_117 : decode c_De_cut 117 = .ok (.iload_n 2, 1) := by decide +kernel
theorem d_De_cut_118 : decode c_De_cut 118 = .ok (.iconst 1, 1) := by decide +kernel
theorem d_De_cut_119 : decode c_De_cut 119 = .ok (.iadd, 1) := by decide +kernel
theorem d_De_cut_120 : decode c_De_cut 120 = .ok (.bipush 8, 2) := by decide +kernel
theorem d_De_cut_122 : decode c_De_cut 122 = .ok (.imul, 1) := by decide +kernel
theorem d_De_cut_123 : decode c_De_cut 123 = .ok (.iload_n 3, 1) := by decide +kernel
theorem d_De_cut_124 : decode c_De_cut 124 = .ok (.isub, 1) := by decide +kernel
theorem d_De_cut_125 : decode c_De_cut 125 = .ok (.putfield 25, 3) := by decide +kernel
theorem d_De_cut_128 : decode c_De_cut 128 = .ok (.return_, 1) := by decide +kernel
theorem d_De_raise_0 : decode c_De_raise 0 = .ok (.aload_n 0, 1) := by decide +kernel
theorem d_De_raise_1 : decode c_De_raise 1 = .ok (.invokevirtual 34, 3) := by decide +kernel
theorem d_De_raise_4 : decode c_De_raise 4 = .ok (.aload_n 0, 1) := by decide +kernel
theorem d_De_raise_5 : decode c_De_raise 5 = .ok (.iload_n 1, 1) := by decide +kernel
theorem d_De_raise_6 : decode c_De_raise 6 = .ok (.putfield 15, 3) := by decide +kernel
theorem d_De_raise_9 : decode c_De_raise 9 = .ok (.return_, 1) := by decide +kernel
theorem d_De_exponent_0 : decode c_De_exponent 0 = .ok (.aload_n 0, 1) := by decide +kernel
theorem d_De_exponent_1 : decode c_De_exponent 1 = .ok (.getfield 25, 3) := by decide +kernel
theorem d_De_exponent_4 : decode c_De_exponent 4 = .ok (.ifCond .ne 7, 3) := by decide +kernel
theorem d_De_exponent_7 : decode c_De_exponent 7 = .ok (.iconst 0, 1) := by decide +kernel
theorem d_De_exponent_8 : decode c_De_exponent 8 = .ok (.goto 14, 3) := by decide +kernel
theorem d_De_exponent_11 : decode c_De_exponent 11 = .ok (.aload_n 0, 1) := by decide +kernel
theorem d_De_exponent_12 : decode c_De_exponent 12 = .ok (.getfield 22, 3) := by decide +kernel
theorem d_De_exponent_15 : decode c_De_exponent 15 = .ok (.iconst 1, 1) := by decide +kernel
theorem d_De_exponent_16 : decode c_De_exponent 16 = .ok (.iadd, 1) := by decide +kernel
theorem d_De_exponent_17 : decode c_De_exponent 17 = .ok (.aload_n 0, 1) := by decide +kernel
theorem d_De_exponent_18 : decode c_De_exponent 18 = .ok (.getfield 25, 3) := by decide +kernel
theorem d_De_exponent_21 : decode c_De_exponent 21 = .ok (.isub, 1) := by decide +kernel
theorem d_De_exponent_22 : decode c_De_exponent 22 = .ok (.ireturn, 1) := by decide +kernel
theorem d_De_lowestWhole_0 : decode c_De_lowestWhole 0 = .ok (.aload_n 0, 1) := by decide +kernel
theorem d_De_lowestWhole_1 : decode c_De_lowestWhole 1 = .ok (.iload_n 1, 1) := by decide +kernel
theorem d_De_lowestWhole_2 : decode c_De_lowestWhole 2 = .ok (.invokevirtual 66, 3) := by decide +kernel
theorem d_De_lowestWhole_5 : decode c_De_lowestWhole 5 = .ok (.istore_n 2, 1) := by decide +kernel
theorem d_De_lowestWhole_6 : decode c_De_lowestWhole 6 = .ok (.lconst 0, 1) := by decide +kernel
theorem d_De_lowestWhole_7 : decode c_De_lowestWhole 7 = .ok (.lstore_n 3, 1) := by decide +kernel
theorem d_De_lowestWhole_8 : decode c_De_lowestWhole 8 = .ok (.iconst 0, 1) := by decide +kernel
theorem d_De_lowestWhole_9 : decode c_De_lowestWhole 9 = .ok (.iload_n 2, 1) := by decide +kernel
theorem d_De_lowestWhole_10 : decode c_De_lowestWhole 10 = .ok (.bipush 18, 2) := by decide +kernel
theorem d_De_lowestWhole_12 : decode c_De_lowestWhole 12 = .ok (.isub, 1) := by decide +kernel
theorem d_De_lowestWhole_13 : decode c_De_lowestWhole 13 = .ok (.invokestatic 63, 3) := by decide +kernel
theorem d_De_lowestWhole_16 : decode c_De_lowestWhole 16 = .ok (.istore 5, 2) := by decide +kernel
theorem d_De_lowestWhole_18 : decode c_De_lowestWhole 18 = .ok (.iload 5, 2) := by decide +kernel
theorem d_De_lowestWhole_20 : decode c_De_lowestWhole 20 = .ok (.iload_n 2, 1) := by decide +kernel
theorem d_De_lowestWhole_21 : decode c_De_lowestWhole 21 = .ok (.if_icmp .ge 23, 3) := by decide +kernel
theorem d_De_lowestWhole_24 : decode c_De_lowestWhole 24 = .ok (.lload_n 3, 1) := by decide +kernel
theorem d_De_lowestWhole_25 : decode c_De_lowestWhole 25 = .ok (.ldc2_w 47, 3) := by decide +kernel
theorem d_De_lowestWhole_28 : decode c_De_lowestWhole 28 = .ok (.lmul, 1) := by decide +kernel
theorem d_De_lowestWhole_29 : decode c_De_lowestWhole 29 = .ok (.aload_n 0, 1) := by decide +kernel
theorem d_De_lowestWhole_30 : decode c_De_lowestWhole 30 = .ok (.iload 5, 2) := by decide +kernel
theorem d_De_lowestWhole_32 : decode c_De_lowestWhole 32 = .ok (.invokevirtual 70, 3) := by decide +kernel
theorem d_De_lowestWhole_35 : decode c_De_lowestWhole 35 = .ok (.i2l, 1) := by decide +kernel
theorem d_De_lowestWhole_36 : decode c_De_lowestWhole 36 = .ok (.ladd, 1) := by decide +kernel
theorem d_De_lowestWhole_37 : decode c_De_lowestWhole 37 = .ok (.lstore_n 3, 1) := by decide +kernel
theorem d_De_lowestWhole_38 : decode c_De_lowestWhole 38 = .ok (.iinc 5 1, 3) := by decide +kernel
theorem d_De_lowestWhole_41 : decode c_De_lowestWhole 41 = .ok (.goto (-23), 3) := by decide +kernel
theorem d_De_lowestWhole_44 : decode c_De_lowestWhole 44 = .ok (.lload_n 3, 1) := by decide +kernel
theorem d_De_lowestWhole_45 : decode c_De_lowestWhole 45 = .ok (.lreturn, 1) := by decide +kernel
theorem d_De_wholeDigits_0 : decode c_De_wholeDigits 0 = .ok (.aload_n 0, 1) := by decide +kernel
theorem d_De_wholeDigits_1 : decode c_De_wholeDigits 1 = .ok (.getfield 25, 3) := by decide +kernel
theorem d_De_wholeDigits_4 : decode c_De_wholeDigits 4 = .ok (.ifCond .ne 7, 3) := by decide +kernel
theorem d_De_wholeDigits_7 : decode c_De_wholeDigits 7 = .ok (.iconst 0, 1) := by decide +kernel
theorem d_De_wholeDigits_8 : decode c_De_wholeDigits 8 = .ok (.goto 11, 3) := by decide +kernel
theorem d_De_wholeDigits_11 : decode c_De_wholeDigits 11 = .ok (.aload_n 0, 1) := by decide +kernel
theorem d_De_wholeDigits_12 : decode c_De_wholeDigits 12 = .ok (.getfield 22, 3) := by decide +kernel
theorem d_De_wholeDigits_15 : decode c_De_wholeDigits 15 = .ok (.iconst 1, 1) := by decide +kernel
theorem d_De_wholeDigits_16 : decode c_De_wholeDigits 16 = .ok (.iadd, 1) := by decide +kernel
theorem d_De_wholeDigits_17 : decode c_De_wholeDigits 17 = .ok (.iload_n 1, 1) := by decide +kernel
theorem d_De_wholeDigits_18 : decode c_De_wholeDigits 18 = .ok (.iadd, 1) := by decide +kernel
theorem d_De_wholeDigits_19 : decode c_De_wholeDigits 19 = .ok (.ireturn, 1) := by decide +kernel
theorem d_De_digit_0 : decode c_De_digit 0 = .ok (.iload_n 1, 1) := by decide +kernel
theorem d_De_digit_1 : decode c_De_digit 1 = .ok (.ifCond .lt 9, 3) := by decide +kernel
theorem d_De_digit_4 : decode c_De_digit 4 = .ok (.iload_n 1, 1) := by decide +kernel
theorem d_De_digit_5 : decode c_De_digit 5 = .ok (.bipush 32, 2) := by decide +kernel
theorem d_De_digit_7 : decode c_De_digit 7 = .ok (.if_icmp .lt 5, 3) := by decide +kernel
theorem d_De_digit_10 : decode c_De_digit 10 = .ok (.iconst 0, 1) := by decide +kernel
theorem d_De_digit_11 : decode c_De_digit 11 = .ok (.ireturn, 1) := by decide +kernel
theorem d_De_digit_12 : decode c_De_digit 12 = .ok (.aload_n 0, 1) := by decide +kernel
theorem d_De_digit_13 : decode c_De_digit 13 = .ok (.getfield 11, 3) := by decide +kernel
theorem d_De_digit_16 : decode c_De_digit 16 = .ok (.iload_n 1, 1) := by decide +kernel
theorem d_De_digit_17 : decode c_De_digit 17 = .ok (.bipush 8, 2) := by decide +kernel
theorem d_De_digit_19 : decode c_De_digit 19 = .ok (.idiv, 1) := by decide +kernel
theorem d_De_digit_20 : decode c_De_digit 20 = .ok (.laload, 1) := by decide +kernel
theorem d_De_digit_21 : decode c_De_digit 21 = .ok (.bipush 7, 2) := by decide +kernel
theorem d_De_digit_23 : decode c_De_digit 23 = .ok (.iload_n 1, 1) := by decide +kernel
theorem d_De_digit_24 : decode c_De_digit 24 = .ok (.bipush 8, 2) := by decide +kernel
theorem d_De_digit_26 : decode c_De_digit 26 = .ok (.irem, 1) := by decide +kernel
theorem d_De_digit_27 : decode c_De_digit 27 = .ok (.isub, 1) := by decide +kernel
theorem d_De_digit_28 : decode c_De_digit 28 = .ok (.invokestatic 43, 3) := by decide +kernel
theorem d_De_digit_31 : decode c_De_digit 31 = .ok (.ldiv, 1) := by decide +kernel
theorem d_De_digit_32 : decode c_De_digit 32 = .ok (.ldc2_w 47, 3) := by decide +kernel
theorem d_De_digit_35 : decode c_De_digit 35 = .ok (.lrem, 1) := by decide +kernel
theorem d_De_digit_36 : decode c_De_digit 36 = .ok (.l2i, 1) := by decide +kernel
theorem d_De_digit_37 : decode c_De_digit 37 = .ok (.ireturn, 1) := by decide +kernel
theorem d_De_copy_0 : decode c_De_copy 0 = .ok (.aload_n 0, 1) := by decide +kernel
theorem d_De_copy_1 : decode c_De_copy 1 = .ok (.aload_n 1, 1) := by decide +kernel
theorem d_De_copy_2 : decode c_De_copy 2 = .ok (.getfield 15, 3) := by decide +kernel
theorem d_De_copy_5 : decode c_De_copy 5 = .ok (.putfield 15, 3) := by decide +kernel
theorem d_De_copy_8 : decode c_De_copy 8 = .ok (.aload_n 0, 1) := by decide +kernel
theorem d_De_copy_9 : decode c_De_copy 9 = .ok (.aload_n 1, 1) := by decide +kernel
theorem d_De_copy_10 : decode c_De_copy 10 = .ok (.getfield 19, 3) := by decide +kernel
theorem d_De_copy_13 : decode c_De_copy 13 = .ok (.putfield 19, 3) := by decide +kernel
theorem d_De_copy_16 : decode c_De_copy 16 = .ok (.aload_n 0, 1) := by decide +kernel
theorem d_De_copy_17 : decode c_De_copy 17 = .ok (.aload_n 1, 1) := by decide +kernel
theorem d_De_copy_18 : decode c_De_copy 18 = .ok (.getfield 22, 3) := by decide +kernel
theorem d_De_copy_21 : decode c_De_copy 21 = .ok (.putfield 22, 3) := by decide +kernel
theorem d_De_copy_24 : decode c_De_copy 24 = .ok (.aload_n 0, 1) := by decide +kernel
theorem d_De_copy_25 : decode c_De_copy 25 = .ok (.aload_n 1, 1) := by decide +kernel
theorem d_De_copy_26 : decode c_De_copy 26 = .ok (.getfield 25, 3) := by decide +kernel
theorem d_De_copy_29 : decode c_De_copy 29 = .ok (.putfield 25, 3) := by decide +kernel
theorem d_De_copy_32 : decode c_De_copy 32 = .ok (.aload_n 1, 1) := by decide +kernel
theorem d_De_copy_33 : decode c_De_copy 33 = .ok (.getfield 11, 3) := by decide +kernel
theorem d_De_copy_36 : decode c_De_copy 36 = .ok (.iconst 0, 1) := by decide +kernel
theorem d_De_copy_37 : decode c_De_copy 37 = .ok (.aload_n 0, 1) := by decide +kernel
theorem d_De_copy_38 : decode c_De_copy 38 = .ok (.getfield 11, 3) := by decide +kernel
theorem d_De_copy_41 : decode c_De_copy 41 = .ok (.iconst 0, 1) := by decide +kernel
theorem d_De_copy_42 : decode c_De_copy 42 = .ok (.iconst 4, 1) := by decide +kernel
theorem d_De_copy_43 : decode c_De_copy 43 = .ok (.invokestatic 37, 3) := by decide +kernel
theorem d_De_copy_46 : decode c_De_copy 46 = .ok (.return_, 1) := by decide +kernel
theorem d_De_compareSize_0 : decode c_De_compareSize 0 = .ok (.aload_n 0, 1) := by decide +kernel
theorem d_De_compareSize_1 : decode c_De_compareSize 1 = .ok (.getfield 25, 3) := by decide +kernel
theorem d_De_compareSize_4 : decode c_De_compareSize 4 = .ok (.ifCond .eq 10, 3) := by decide +kernel
theorem d_De_compareSize_7 : decode c_De_compareSize 7 = .ok (.aload_n 1, 1) := by decide +kernel
theorem d_De_compareSize_8 : decode c_De_compareSize 8 = .ok (.getfield 25, 3) := by decide +kernel
theorem d_De_compareSize_11 : decode c_De_compareSize 11 = .ok (.ifCond .ne 15, 3) := by decide +kernel
theorem d_De_compareSize_14 : decode c_De_compareSize 14 = .ok (.aload_n 0, 1) := by decide +kernel
theorem d_De_compareSize_15 : decode c_De_compareSize 15 = .ok (.getfield 25, 3) := by decide +kernel
theorem d_De_compareSize_18 : decode c_De_compareSize 18 = .ok (.aload_n 1, 1) := by decide +kernel
theorem d_De_compareSize_19 : decode c_De_compareSize 19 = .ok (.getfield 25, 3) := by decide +kernel
theorem d_De_compareSize_22 : decode c_De_compareSize 22 = .ok (.invokestatic 73, 3) := by decide +kernel
theorem d_De_compareSize_25 : decode c_De_compareSize 25 = .ok (.ireturn, 1) := by decide +kernel
theorem d_De_compareSize_26 : decode c_De_compareSize 26 = .ok (.aload_n 0, 1) := by decide +kernel
theorem d_De_compareSize_27 : decode c_De_compareSize 27 = .ok (.getfield 22, 3) := by decide +kernel
theorem d_De_compareSize_30 : decode c_De_compareSize 30 = .ok (.aload_n 1, 1) := by decide +kernel
theorem d_De_compareSize_31 : decode c_De_compareSize 31 = .ok (.getfield 22, 3) := by decide +kernel
theorem d_De_compareSize_34 : decode c_De_compareSize 34 = .ok (.if_icmp .eq 15, 3) := by decide +kernel
theorem d_De_compareSize_37 : decode c_De_compareSize 37 = .ok (.aload_n 0, 1) := by decide +kernel
theorem d_De_compareSize_38 : decode c_De_compareSize 38 = .ok (.getfield 22, 3) := by decide +kernel
theorem d_De_compareSize_41 : decode c_De_compareSize 41 = .ok (.aload_n 1, 1) := by decide +kernel
theorem d_De_compareSize_42 : decode c_De_compareSize 42 = .ok (.getfield 22, 3) := by decide +kernel
theorem d_De_compareSize_45 : decode c_De_compareSize 45 = .ok (.invokestatic 73, 3) := by decide +kernel
theorem d_De_compareSize_48 : decode c_De_compareSize 48 = .ok (.ireturn, 1) := by decide +kernel
theorem d_De_compareSize_49 : decode c_De_compareSize 49 = .ok (.iconst 0, 1) := by decide +kernel
theorem d_De_compareSize_50 : decode c_De_compareSize 50 = .ok (.istore_n 2, 1) := by decide +kernel
theorem d_De_compareSize_51 : decode c_De_compareSize 51 = .ok (.iload_n 2, 1) := by decide +kernel
theorem d_De_compareSize_52 : decode c_De_compareSize 52 = .ok (.iconst 4, 1) := by decide +kernel
theorem d_De_compareSize_53 : decode c_De_compareSize 53 = .ok (.if_icmp .ge 41, 3) := by decide +kernel
theorem d_De_compareSize_56 : decode c_De_compareSize 56 = .ok (.aload_n 0, 1) := by decide +kernel
theorem d_De_compareSize_57 : decode c_De_compareSize 57 = .ok (.getfield 11, 3) := by decide +kernel
theorem d_De_compareSize_60 : decode c_De_compareSize 60 = .ok (.iload_n 2, 1) := by decide +kernel
theorem d_De_compareSize_61 : decode c_De_compareSize 61 = .ok (.laload, 1) := by decide +kernel
theorem d_De_compareSize_62 : decode c_De_compareSize 62 = .ok (.aload_n 1, 1) := by decide +kernel
theorem d_De_compareSize_63 : decode c_De_compareSize 63 = .ok (.getfield 11, 3) := by decide +kernel
theorem d_De_compareSize_66 : decode c_De_compareSize 66 = .ok (.iload_n 2, 1) := by decide +kernel
theorem d_De_compareSize_67 : decode c_De_compareSize 67 = .ok (.laload, 1) := by decide +kernel
theorem d_De_compareSize_68 : decode c_De_compareSize 68 = .ok (.lcmp, 1) := by decide +kernel
theorem d_De_compareSize_69 : decode c_De_compareSize 69 = .ok (.ifCond .eq 19, 3) := by decide +kernel
theorem d_De_compareSize_72 : decode c_De_compareSize 72 = .ok (.aload_n 0, 1) := by decide +kernel
theorem d_De_compareSize_73 : decode c_De_compareSize 73 = .ok (.getfield 11, 3) := by decide +kernel
theorem d_De_compareSize_76 : decode c_De_compareSize 76 = .ok (.iload_n 2, 1) := by decide +kernel
theorem d_De_compareSize_77 : decode c_De_compareSize 77 = .ok (.laload, 1) := by decide +kernel
theorem d_De_compareSize_78 : decode c_De_compareSize 78 = .ok (.aload_n 1, 1) := by decide +kernel
theorem d_De_compareSize_79 : decode c_De_compareSize 79 = .ok (.getfield 11, 3) := by decide +kernel
theorem d_De_compareSize_82 : decode c_De_compareSize 82 = .ok (.iload_n 2, 1) := by decide +kernel
theorem d_De_compareSize_83 : decode c_De_compareSize 83 = .ok (.laload, 1) := by decide +kernel
theorem d_De_compareSize_84 : decode c_De_compareSize 84 = .ok (.invokestatic 78, 3) := by decide +kernel
theorem d_De_compareSize_87 : decode c_De_compareSize 87 = .ok (.ireturn, 1) := by decide +kernel
theorem d_De_compareSize_88 : decode c_De_compareSize 88 = .ok (.iinc 2 1, 3) := by decide +kernel
theorem d_De_compareSize_91 : decode c_De_compareSize 91 = .ok (.goto (-40), 3) := by decide +kernel
theorem d_De_compareSize_94 : decode c_De_compareSize 94 = .ok (.iconst 0, 1) := by decide +kernel
theorem d_De_compareSize_95 : decode c_De_compareSize 95 = .ok (.ireturn, 1) := by decide +kernel
theorem d_Re_init_0 : decode c_Re_init 0 = .ok (.aload_n 0, 1) := by decide +kernel
theorem d_Re_init_1 : decode c_Re_init 1 = .ok (.invokespecial 1, 3) := by decide +kernel
theorem d_Re_init_4 : decode c_Re_init 4 = .ok (.aload_n 0, 1) := by decide +kernel
theorem d_Re_init_5 : decode c_Re_init 5 = .ok (.iload_n 1, 1) := by decide +kernel
theorem d_Re_init_6 : decode c_Re_init 6 = .ok (.putfield 7, 3) := by decide +kernel
theorem d_Re_init_9 : decode c_Re_init 9 = .ok (.aload_n 0, 1) := by decide +kernel
theorem d_Re_init_10 : decode c_Re_init 10 = .ok (.iload_n 2, 1) := by decide +kernel
theorem d_Re_init_11 : decode c_Re_init 11 = .ok (.putfield 13, 3) := by decide +kernel
theorem d_Re_init_14 : decode c_Re_init 14 = .ok (.aload_n 0, 1) := by decide +kernel
theorem d_Re_init_15 : decode c_Re_init 15 = .ok (.iload_n 3, 1) := by decide +kernel
theorem d_Re_init_16 : decode c_Re_init 16 = .ok (.putfield 16, 3) := by decide +kernel
theorem d_Re_init_19 : decode c_Re_init 19 = .ok (.return_, 1) := by decide +kernel
theorem d_Re_refuses_0 : decode c_Re_refuses 0 = .ok (.aload_n 0, 1) := by decide +kernel
theorem d_Re_refuses_1 : decode c_Re_refuses 1 = .ok (.getfield 16, 3) := by decide +kernel
theorem d_Re_refuses_4 : decode c_Re_refuses 4 = .ok (.bipush 7, 2) := by decide +kernel
theorem d_Re_refuses_6 : decode c_Re_refuses 6 = .ok (.if_icmp .ne 15, 3) := by decide +kernel
theorem d_Re_refuses_9 : decode c_Re_refuses 9 = .ok (.aload_n 0, 1) := by decide +kernel
theorem d_Re_refuses_10 : decode c_Re_refuses 10 = .ok (.aload_n 1, 1) := by decide +kernel
theorem d_Re_refuses_11 : decode c_Re_refuses 11 = .ok (.invokevirtual 19, 3) := by decide +kernel
theorem d_Re_refuses_14 : decode c_Re_refuses 14 = .ok (.ifCond .ne 7, 3) := by decide +kernel
theorem d_Re_refuses_17 : decode c_Re_refuses 17 = .ok (.iconst 1, 1) := by decide +kernel
theorem d_Re_refuses_18 : decode c_Re_refuses 18 = .ok (.goto 4, 3) := by decide +kernel
theorem d_Re_refuses_21 : decode c_Re_refuses 21 = .ok (.iconst 0, 1) := by decide +kernel
theorem d_Re_refuses_22 : decode c_Re_refuses 22 = .ok (.ireturn, 1) := by decide +kernel
theorem d_Re_isExact_0 : decode c_Re_isExact 0 = .ok (.aload_n 1, 1) := by decide +kernel
theorem d_Re_isExact_1 : decode c_Re_isExact 1 = .ok (.getfield 45, 3) := by decide +kernel
theorem d_Re_isExact_4 : decode c_Re_isExact 4 = .ok (.aload_n 1, 1) := by decide +kernel
theorem d_Re_isExact_5 : decode c_Re_isExact 5 = .ok (.aload_n 0, 1) := by decide +kernel
theorem d_Re_isExact_6 : decode c_Re_isExact 6 = .ok (.getfield 13, 3) := by decide +kernel
theorem d_Re_isExact_9 : decode c_Re_isExact 9 = .ok (.invokevirtual 23, 3) := by decide +kernel
theorem d_Re_isExact_12 : decode c_Re_isExact 12 = .ok (.if_icmp .gt 7, 3) := by decide +kernel
theorem d_Re_isExact_15 : decode c_Re_isExact 15 = .ok (.iconst 1, 1) := by decide +kernel
theorem d_Re_isExact_16 : decode c_Re_isExact 16 = .ok (.goto 4, 3) := by decide +kernel
theorem d_Re_isExact_19 : decode c_Re_isExact 19 = .ok (.iconst 0, 1) := by decide +kernel
theorem d_Re_isExact_20 : decode c_Re_isExact 20 = .ok (.ireturn, 1) := by decide +kernel
theorem d_Re_fits_0 : decode c_Re_fits 0 = .ok (.aload_n 1, 1) := by decide +kernel
theorem d_Re_fits_1 : decode c_Re_fits 1 = .ok (.aload_n 0, 1) := by decide +kernel
theorem d_Re_fits_2 : decode c_Re_fits 2 = .ok (.getfield 13, 3) := by decide +kernel
theorem d_Re_fits_5 : decode c_Re_fits 5 = .ok (.invokevirtual 23, 3) := by decide +kernel
theorem d_Re_fits_8 : decode c_Re_fits 8 = .ok (.aload_n 0, 1) := by decide +kernel
theorem d_Re_fits_9 : decode c_Re_fits 9 = .ok (.getfield 7, 3) := by decide +kernel
theorem d_Re_fits_12 : decode c_Re_fits 12 = .ok (.if_icmp .gt 23, 3) := by decide +kernel
theorem d_Re_fits_15 : decode c_Re_fits 15 = .ok (.aload_n 0, 1) := by decide +kernel
theorem d_Re_fits_16 : decode c_Re_fits 16 = .ok (.aload_n 1, 1) := by decide +kernel
theorem d_Re_fits_17 : decode c_Re_fits 17 = .ok (.invokevirtual 29, 3) := by decide +kernel
theorem d_Re_fits_20 : decode c_Re_fits 20 = .ok (.aload_n 0, 1) := by decide +kernel
theorem d_Re_fits_21 : decode c_Re_fits 21 = .ok (.getfield 7, 3) := by decide +kernel
theorem d_Re_fits_24 : decode c_Re_fits 24 = .ok (.invokestatic 33, 3) := by decide +kernel
theorem d_Re_fits_27 : decode c_Re_fits 27 = .ok (.lcmp, 1) := by decide +kernel
theorem d_Re_fits_28 : decode c_Re_fits 28 = .ok (.ifCond .ge 7, 3) := by decide +kernel
theorem d_Re_fits_31 : decode c_Re_fits 31 = .ok (.iconst 1, 1) := by decide +kernel
theorem d_Re_fits_32 : decode c_Re_fits 32 = .ok (.goto 4, 3) := by decide +kernel
theorem d_Re_fits_35 : decode c_Re_fits 35 = .ok (.iconst 0, 1) := by decide +kernel
theorem d_Re_fits_36 : decode c_Re_fits 36 = .ok (.ireturn, 1) := by decide +kernel
theorem d_Re_roundedSize_0 : decode c_Re_roundedSize 0 = .ok (.aload_n 1, 1) := by decide +kernel
theorem d_Re_roundedSize_1 : decode c_Re_roundedSize 1 = .ok (.aload_n 0, 1) := by decide +kernel
theorem d_Re_roundedSize_2 : decode c_Re_roundedSize 2 = .ok (.getfield 13, 3) := by decide +kernel
theorem d_Re_roundedSize_5 : decode c_Re_roundedSize 5 = .ok (.invokevirtual 39, 3) := by decide +kernel
theorem d_Re_roundedSize_8 : decode c_Re_roundedSize 8 = .ok (.aload_n 0, 1) := by decide +kernel
theorem d_Re_roundedSize_9 : decode c_Re_roundedSize 9 = .ok (.aload_n 1, 1) := by decide +kernel
theorem d_Re_roundedSize_10 : decode c_Re_roundedSize 10 = .ok (.invokevirtual 42, 3) := by decide +kernel
theorem d_Re_roundedSize_13 : decode c_Re_roundedSize 13 = .ok (.ifCond .eq 7, 3) := by decide +kernel
theorem d_Re_roundedSize_16 : decode c_Re_roundedSize 16 = .ok (.iconst 1, 1) := by decide +kernel
theorem d_Re_roundedSize_17 : decode c_Re_roundedSize 17 = .ok (.goto 4, 3) := by decide +kernel
theorem d_Re_roundedSize_20 : decode c_Re_roundedSize 20 = .ok (.iconst 0, 1) := by decide +kernel
theorem d_Re_roundedSize_21 : decode c_Re_roundedSize 21 = .ok (.i2l, 1) := by decide +kernel
theorem d_Re_roundedSize_22 : decode c_Re_roundedSize 22 = .ok (.ladd, 1) := by decide +kernel
theorem d_Re_roundedSize_23 : decode c_Re_roundedSize 23 = .ok (.lreturn, 1) := by decide +kernel
theorem d_Re_goesUp_0 : decode c_Re_goesUp 0 = .ok (.aload_n 0, 1) := by decide +kernel
theorem d_Re_goesUp_1 : decode c_Re_goesUp 1 = .ok (.aload_n 1, 1) := by decide +kernel
theorem d_Re_goesUp_2 : decode c_Re_goesUp 2 = .ok (.invokevirtual 19, 3) := by decide +kernel
theorem d_Re_goesUp_5 : decode c_Re_goesUp 5 = .ok (.ifCond .eq 5, 3) := by decide +kernel
theorem d_Re_goesUp_8 : decode c_Re_goesUp 8 = .ok (.iconst 0, 1) := by decide +kernel
theorem d_Re_goesUp_9 : decode c_Re_goesUp 9 = .ok (.ireturn, 1) := by decide +kernel
theorem d_Re_goesUp_10 : decode c_Re_goesUp 10 = .ok (.aload_n 0, 1) := by decide +kernel
theorem d_Re_goesUp_11 : decode c_Re_goesUp 11 = .ok (.getfield 16, 3) := by decide +kernel
theorem d_Re_goesUp_14 : decode c_Re_goesUp 14 = .ok (.tableswitch 124 1 6 #[38, 40, 54, 84, 98, 111], 38) := by decide +kernel
theorem d_Re_goesUp_52 : decode c_Re_goesUp 52 = .ok (.iconst 1, 1) := by decide +kernel
theorem d_Re_goesUp_53 : decode c_Re_goesUp 53 = .ok (.ireturn, 1) := by decide +kernel
theorem d_Re_goesUp_54 : decode c_Re_goesUp 54 = .ok (.aload_n 0, 1) := by decide +kernel
theorem d_Re_goesUp_55 : decode c_Re_goesUp 55 = .ok (.aload_n 1, 1) := by decide +kernel
theorem d_Re_goesUp_56 : decode c_Re_goesUp 56 = .ok (.invokevirtual 48, 3) := by decide +kernel
theorem d_Re_goesUp_59 : decode c_Re_goesUp 59 = .ok (.ifCond .lt 7, 3) := by decide +kernel
theorem d_Re_goesUp_62 : decode c_Re_goesUp 62 = .ok (.iconst 1, 1) := by decide +kernel
theorem d_Re_goesUp_63 : decode c_Re_goesUp 63 = .ok (.goto 4, 3) := by decide +kernel
theorem d_Re_goesUp_66 : decode c_Re_goesUp 66 = .ok (.iconst 0, 1) := by decide +kernel
theorem d_Re_goesUp_67 : decode c_Re_goesUp 67 = .ok (.ireturn, 1) := by decide +kernel
theorem d_Re_goesUp_68 : decode c_Re_goesUp 68 = .ok (.aload_n 0, 1) := by decide +kernel
theorem d_Re_goesUp_69 : decode c_Re_goesUp 69 = .ok (.aload_n 1, 1) := by decide +kernel
theorem d_Re_goesUp_70 : decode c_Re_goesUp 70 = .ok (.invokevirtual 48, 3) := by decide +kernel
theorem d_Re_goesUp_73 : decode c_Re_goesUp 73 = .ok (.ifCond .gt 19, 3) := by decide +kernel
theorem d_Re_goesUp_76 : decode c_Re_goesUp 76 = .ok (.aload_n 0, 1) := by decide +kernel
theorem d_Re_goesUp_77 : decode c_Re_goesUp 77 = .ok (.aload_n 1, 1) := by decide +kernel
theorem d_Re_goesUp_78 : decode c_Re_goesUp 78 = .ok (.invokevirtual 48, 3) := by decide +kernel
theorem d_Re_goesUp_81 : decode c_Re_goesUp 81 = .ok (.ifCond .ne 15, 3) := by decide +kernel
theorem d_Re_goesUp_84 : decode c_Re_goesUp 84 = .ok (.aload_n 0, 1) := by decide +kernel
theorem d_Re_goesUp_85 : decode c_Re_goesUp 85 = .ok (.aload_n 1, 1) := by decide +kernel
theorem d_Re_goesUp_86 : decode c_Re_goesUp 86 = .ok (.invokevirtual 52, 3) := by decide +kernel
theorem d_Re_goesUp_89 : decode c_Re_goesUp 89 = .ok (.ifCond .eq 7, 3) := by decide +kernel
theorem d_Re_goesUp_92 : decode c_Re_goesUp 92 = .ok (.iconst 1, 1) := by decide +kernel
theorem d_Re_goesUp_93 : decode c_Re_goesUp 93 = .ok (.goto 4, 3) := by decide +kernel
theorem d_Re_goesUp_96 : decode c_Re_goesUp 96 = .ok (.iconst 0, 1) := by decide +kernel
theorem d_Re_goesUp_97 : decode c_Re_goesUp 97 = .ok (.ireturn, 1) := by decide +kernel
theorem d_Re_goesUp_98 : decode c_Re_goesUp 98 = .ok (.aload_n 0, 1) := by decide +kernel
theorem d_Re_goesUp_99 : decode c_Re_goesUp 99 = .ok (.aload_n 1, 1) := by decide +kernel
theorem d_Re_goesUp_100 : decode c_Re_goesUp 100 = .ok (.invokevirtual 48, 3) := by decide +kernel
theorem d_Re_goesUp_103 : decode c_Re_goesUp 103 = .ok (.ifCond .le 7, 3) := by decide +kernel
theorem d_Re_goesUp_106 : decode c_Re_goesUp 106 = .ok (.iconst 1, 1) := by decide +kernel
theorem d_Re_goesUp_107 : decode c_Re_goesUp 107 = .ok (.goto 4, 3) := by decide +kernel
theorem d_Re_goesUp_110 : decode c_Re_goesUp 110 = .ok (.iconst 0, 1) := by decide +kernel
theorem d_Re_goesUp_111 : decode c_Re_goesUp 111 = .ok (.ireturn, 1) := by decide +kernel
theorem d_Re_goesUp_112 : decode c_Re_goesUp 112 = .ok (.aload_n 1, 1) := by decide +kernel
theorem d_Re_goesUp_113 : decode c_Re_goesUp 113 = .ok (.getfield 55, 3) := by decide +kernel
theorem d_Re_goesUp_116 : decode c_Re_goesUp 116 = .ok (.ifCond .le 7, 3) := by decide +kernel
theorem d_Re_goesUp_119 : decode c_Re_goesUp 119 = .ok (.iconst 1, 1) := by decide +kernel
theorem d_Re_goesUp_120 : decode c_Re_goesUp 120 = .ok (.goto 4, 3) := by decide +kernel
theorem d_Re_goesUp_123 : decode c_Re_goesUp 123 = .ok (.iconst 0, 1) := by decide +kernel
theorem d_Re_goesUp_124 : decode c_Re_goesUp 124 = .ok (.ireturn, 1) := by decide +kernel
theorem d_Re_goesUp_125 : decode c_Re_goesUp 125 = .ok (.aload_n 1, 1) := by decide +kernel
theorem d_Re_goesUp_126 : decode c_Re_goesUp 126 = .ok (.getfield 55, 3) := by decide +kernel
theorem d_Re_goesUp_129 : decode c_Re_goesUp 129 = .ok (.ifCond .ge 7, 3) := by decide +kernel
theorem d_Re_goesUp_132 : decode c_Re_goesUp 132 = .ok (.iconst 1, 1) := by decide +kernel
theorem d_Re_goesUp_133 : decode c_Re_goesUp 133 = .ok (.goto 4, 3) := by decide +kernel
theorem d_Re_goesUp_136 : decode c_Re_goesUp 136 = .ok (.iconst 0, 1) := by decide +kernel
theorem d_Re_goesUp_137 : decode c_Re_goesUp 137 = .ok (.ireturn, 1) := by decide +kernel
theorem d_Re_goesUp_138 : decode c_Re_goesUp 138 = .ok (.iconst 0, 1) := by decide +kernel
theorem d_Re_goesUp_139 : decode c_Re_goesUp 139 = .ok (.ireturn, 1) := by decide +kernel
theorem d_Re_compareToHalf_0 : decode c_Re_compareToHalf 0 = .ok (.aload_n 1, 1) := by decide +kernel
theorem d_Re_compareToHalf_1 : decode c_Re_compareToHalf 1 = .ok (.aload_n 0, 1) := by decide +kernel
theorem d_Re_compareToHalf_2 : decode c_Re_compareToHalf 2 = .ok (.getfield 13, 3) := by decide +kernel
theorem d_Re_compareToHalf_5 : decode c_Re_compareToHalf 5 = .ok (.invokevirtual 23, 3) := by decide +kernel
theorem d_Re_compareToHalf_8 : decode c_Re_compareToHalf 8 = .ok (.istore_n 2, 1) := by decide +kernel
theorem d_Re_compareToHalf_9 : decode c_Re_compareToHalf 9 = .ok (.aload_n 1, 1) := by decide +kernel
theorem d_Re_compareToHalf_10 : decode c_Re_compareToHalf 10 = .ok (.iload_n 2, 1) := by decide +kernel
theorem d_Re_compareToHalf_11 : decode c_Re_compareToHalf 11 = .ok (.invokevirtual 58, 3) := by decide +kernel
theorem d_Re_compareToHalf_14 : decode c_Re_compareToHalf 14 = .ok (.istore_n 3, 1) := by decide +kernel
theorem d_Re_compareToHalf_15 : decode c_Re_compareToHalf 15 = .ok (.iload_n 3, 1) := by decide +kernel
theorem d_Re_compareToHalf_16 : decode c_Re_compareToHalf 16 = .ok (.iconst 5, 1) := by decide +kernel
theorem d_Re_compareToHalf_17 : decode c_Re_compareToHalf 17 = .ok (.if_icmp .eq 9, 3) := by decide +kernel
theorem d_Re_compareToHalf_20 : decode c_Re_compareToHalf 20 = .ok (.iload_n 3, 1) := by decide +kernel
theorem d_Re_compareToHalf_21 : decode c_Re_compareToHalf 21 = .ok (.iconst 5, 1) := by decide +kernel
theorem d_Re_compareToHalf_22 : decode c_Re_compareToHalf 22 = .ok (.invokestatic 61, 3) := by decide +kernel
theorem d_Re_compareToHalf_25 : decode c_Re_compareToHalf 25 = .ok (.ireturn, 1) := by decide +kernel
theorem d_Re_compareToHalf_26 : decode c_Re_compareToHalf 26 = .ok (.aload_n 1, 1) := by decide +kernel
theorem d_Re_compareToHalf_27 : decode c_Re_compareToHalf 27 = .ok (.getfield 45, 3) := by decide +kernel
theorem d_Re_compareToHalf_30 : decode c_Re_compareToHalf 30 = .ok (.iload_n 2, 1) := by decide +kernel
theorem d_Re_compareToHalf_31 : decode c_Re_compareToHalf 31 = .ok (.iconst 1, 1) := by decide +kernel
theorem d_Re_compareToHalf_32 : decode c_Re_compareToHalf 32 = .ok (.iadd, 1) := by decide +kernel
theorem d_Re_compareToHalf_33 : decode c_Re_compareToHalf 33 = .ok (.if_icmp .le 7, 3) := by decide +kernel
theorem d_Re_compareToHalf_36 : decode c_Re_compareToHalf 36 = .ok (.iconst 1, 1) := by decide +kernel
theorem d_Re_compareToHalf_37 : decode c_Re_compareToHalf 37 = .ok (.goto 4, 3) := by decide +kernel
theorem d_Re_compareToHalf_40 : decode c_Re_compareToHalf 40 = .ok (.iconst 0, 1) := by decide +kernel
theorem d_Re_compareToHalf_41 : decode c_Re_compareToHalf 41 = .ok (.ireturn, 1) := by decide +kernel
theorem d_Re_endsOdd_0 : decode c_Re_endsOdd 0 = .ok (.aload_n 1, 1) := by decide +kernel
theorem d_Re_endsOdd_1 : decode c_Re_endsOdd 1 = .ok (.aload_n 1, 1) := by decide +kernel
theorem d_Re_endsOdd_2 : decode c_Re_endsOdd 2 = .ok (.aload_n 0, 1) := by decide +kernel
theorem d_Re_endsOdd_3 : decode c_Re_endsOdd 3 = .ok (.getfield 13, 3) := by decide +kernel
theorem d_Re_endsOdd_6 : decode c_Re_endsOdd 6 = .ok (.invokevirtual 23, 3) := by decide +kernel
theorem d_Re_endsOdd_9 : decode c_Re_endsOdd 9 = .ok (.iconst 1, 1) := by decide +kernel
theorem d_Re_endsOdd_10 : decode c_Re_endsOdd 10 = .ok (.isub, 1) := by decide +kernel
theorem d_Re_endsOdd_11 : decode c_Re_endsOdd 11 = .ok (.invokevirtual 58, 3) := by decide +kernel
theorem d_Re_endsOdd_14 : decode c_Re_endsOdd 14 = .ok (.iconst 2, 1) := by decide +kernel
theorem d_Re_endsOdd_15 : decode c_Re_endsOdd 15 = .ok (.irem, 1) := by decide +kernel
theorem d_Re_endsOdd_16 : decode c_Re_endsOdd 16 = .ok (.ifCond .eq 7, 3) := by decide +kernel
theorem d_Re_endsOdd_19 : decode c_Re_endsOdd 19 = .ok (.iconst 1, 1) := by decide +kernel
theorem d_Re_endsOdd_20 : decode c_Re_endsOdd 20 = .ok (.goto 4, 3) := by decide +kernel
theorem d_Re_endsOdd_23 : decode c_Re_endsOdd 23 = .ok (.iconst 0, 1) := by decide +kernel
theorem d_Re_endsOdd_24 : decode c_Re_endsOdd 24 = .ok (.ireturn, 1) := by decide +kernel
theorem d_Re_lowestDigits_0 : decode c_Re_lowestDigits 0 = .ok (.lload_n 1, 1) := by decide +kernel
theorem d_Re_lowestDigits_1 : decode c_Re_lowestDigits 1 = .ok (.aload_n 0, 1) := by decide +kernel
theorem d_Re_lowestDigits_2 : decode c_Re_lowestDigits 2 = .ok (.getfield 7, 3) := by decide +kernel
theorem d_Re_lowestDigits_5 : decode c_Re_lowestDigits 5 = .ok (.invokestatic 33, 3) := by decide +kernel
theorem d_Re_lowestDigits_8 : decode c_Re_lowestDigits 8 = .ok (.lrem, 1) := by decide +kernel
theorem d_Re_lowestDigits_9 : decode c_Re_lowestDigits 9 = .ok (.lreturn, 1) := by decide +kernel
end
section
theorem d_Ca_init_0 : decode c_Ca_init 0 = .ok (.aload_n 0, 1) := by decide +kernel
theorem d_Ca_init_1 : decode c_Ca_init 1 = .ok (.invokespecial 3, 3) := by decide +kernel
theorem d_Ca_init_4 : decode c_Ca_init 4 = .ok (.aload_n 0, 1) := by decide +kernel
theorem d_Ca_init_5 : decode c_Ca_init 5 = .ok (.bipush 30, 2) := by decide +kernel
theorem d_Ca_init_7 : decode c_Ca_init 7 = .ok (.newarray .long, 2) := by decide +kernel
theorem d_Ca_init_9 : decode c_Ca_init 9 = .ok (.putfield 11, 3) := by decide +kernel
theorem d_Ca_init_12 : decode c_Ca_init 12 = .ok (.aload_n 0, 1) := by decide +kernel
theorem d_Ca_init_13 : decode c_Ca_init 13 = .ok (.iconst 5, 1) := by decide +kernel
theorem d_Ca_init_14 : decode c_Ca_init 14 = .ok (.newarray .long, 2) := by decide +kernel
theorem d_Ca_init_16 : decode c_Ca_init 16 = .ok (.putfield 17, 3) := by decide +kernel
theorem d_Ca_init_19 : decode c_Ca_init 19 = .ok (.aload_n 0, 1) := by decide +kernel
theorem d_Ca_init_20 : decode c_Ca_init 20 = .ok (.new 15, 3) := by decide +kernel
theorem d_Ca_init_23 : decode c_Ca_init 23 = .ok (.dup, 1) := by decide +kernel
theorem d_Ca_init_24 : decode c_Ca_init 24 = .ok (.invokespecial 20, 3) := by decide +kernel
theorem d_Ca_init_27 : decode c_Ca_init 27 = .ok (.putfield 21, 3) := by decide +kernel
theorem d_Ca_init_30 : decode c_Ca_init 30 = .ok (.aload_n 0, 1) := by decide +kernel
theorem d_Ca_init_31 : decode c_Ca_init 31 = .ok (.iload_n 1, 1) := by decide +kernel
theorem d_Ca_init_32 : decode c_Ca_init 32 = .ok (.putfield 25, 3) := by decide +kernel
theorem d_Ca_init_35 : decode c_Ca_init 35 = .ok (.aload_n 0, 1) := by decide +kernel
theorem d_Ca_init_36 : decode c_Ca_init 36 = .ok (.getfield 21, 3) := by decide +kernel
theorem d_Ca_init_39 : decode c_Ca_init 39 = .ok (.lconst 1, 1) := by decide +kernel
theorem d_Ca_init_40 : decode c_Ca_init 40 = .ok (.iconst 0, 1) := by decide +kernel
theorem d_Ca_init_41 : decode c_Ca_init 41 = .ok (.invokevirtual 29, 3) := by decide +kernel
theorem d_Ca_init_44 : decode c_Ca_init 44 = .ok (.return_, 1) := by decide +kernel
theorem d_Ca_power_0 : decode c_Ca_power 0 = .ok (.aload_n 1, 1) := by decide +kernel
theorem d_Ca_power_1 : decode c_Ca_power 1 = .ok (.aload_n 2, 1) := by decide +kernel
theorem d_Ca_power_2 : decode c_Ca_power 2 = .ok (.aload_n 3, 1) := by decide +kernel
theorem d_Ca_power_3 : decode c_Ca_power 3 = .ok (.invokestatic 33, 3) := by decide +kernel
theorem d_Ca_power_6 : decode c_Ca_power 6 = .ok (.ifCond .eq 4, 3) := by decide +kernel
theorem d_Ca_power_9 : decode c_Ca_power 9 = .ok (.return_, 1) := by decide +kernel
theorem d_Ca_power_10 : decode c_Ca_power 10 = .ok (.aload_n 3, 1) := by decide +kernel
theorem d_Ca_power_11 : decode c_Ca_power 11 = .ok (.invokestatic 81, 3) := by decide +kernel
theorem d_Ca_power_14 : decode c_Ca_power 14 = .ok (.istore 4, 2) := by decide +kernel
theorem d_Ca_power_16 : decode c_Ca_power 16 = .ok (.iload 4, 2) := by decide +kernel
theorem d_Ca_power_18 : decode c_Ca_power 18 = .ok (.bipush 100, 2) := by decide +kernel
theorem d_Ca_power_20 : decode c_Ca_power 20 = .ok (.if_icmp .eq 15, 3) := by decide +kernel
theorem d_Ca_power_23 : decode c_Ca_power 23 = .ok (.iload 4, 2) := by decide +kernel
theorem d_Ca_power_25 : decode c_Ca_power 25 = .ok (.ifCond .ne 16, 3) := by decide +kernel
theorem d_Ca_power_28 : decode c_Ca_power 28 = .ok (.aload_n 2, 1) := by decide +kernel
theorem d_Ca_power_29 : decode c_Ca_power 29 = .ok (.getfield 37, 3) := by decide +kernel
theorem d_Ca_power_32 : decode c_Ca_power 32 = .ok (.ifCond .ne 9, 3) := by decide +kernel
theorem d_Ca_power_35 : decode c_Ca_power 35 = .ok (.aload_n 1, 1) := by decide +kernel
theorem d_Ca_power_36 : decode c_Ca_power 36 = .ok (.iconst 1, 1) := by decide +kernel
theorem d_Ca_power_37 : decode c_Ca_power 37 = .ok (.invokevirtual 67, 3) := by decide +kernel
theorem d_Ca_power_40 : decode c_Ca_power 40 = .ok (.return_, 1) := by decide +kernel
theorem d_Ca_power_41 : decode c_Ca_power 41 = .ok (.iload 4, 2) := by decide +kernel
theorem d_Ca_power_43 : decode c_Ca_power 43 = .ok (.ifCond .ge 16, 3) := by decide +kernel
theorem d_Ca_power_46 : decode c_Ca_power 46 = .ok (.aload_n 2, 1) := by decide +kernel
theorem d_Ca_power_47 : decode c_Ca_power 47 = .ok (.getfield 37, 3) := by decide +kernel
theorem d_Ca_power_50 : decode c_Ca_power 50 = .ok (.ifCond .ne 9, 3) := by decide +kernel
theorem d_Ca_power_53 : decode c_Ca_power 53 = .ok (.aload_n 1, 1) := by decide +kernel
theorem d_Ca_power_54 : decode c_Ca_power 54 = .ok (.iconst 2, 1) := by decide +kernel
theorem d_Ca_power_55 : decode c_Ca_power 55 = .ok (.invokevirtual 67, 3) := by decide +kernel
theorem d_Ca_power_58 : decode c_Ca_power 58 = .ok (.return_, 1) := by decide +kernel
theorem d_Ca_power_59 : decode c_Ca_power 59 = .ok (.aload_n 1, 1) := by decide +kernel
theorem d_Ca_power_60 : decode c_Ca_power 60 = .ok (.aload_n 0, 1) := by decide +kernel
theorem d_Ca_power_61 : decode c_Ca_power 61 = .ok (.getfield 21, 3) := by decide +kernel
theorem d_Ca_power_64 : decode c_Ca_power 64 = .ok (.invokevirtual 84, 3) := by decide +kernel
theorem d_Ca_power_67 : decode c_Ca_power 67 = .ok (.iload 4, 2) := by decide +kernel
theorem d_Ca_power_69 : decode c_Ca_power 69 = .ok (.invokestatic 88, 3) := by decide +kernel
theorem d_Ca_power_72 : decode c_Ca_power 72 = .ok (.istore 5, 2) := by decide +kernel
theorem d_Ca_power_74 : decode c_Ca_power 74 = .ok (.iload 5, 2) := by decide +kernel
theorem d_Ca_power_76 : decode c_Ca_power 76 = .ok (.ifCond .le 16, 3) := by decide +kernel
theorem d_Ca_power_79 : decode c_Ca_power 79 = .ok (.aload_n 0, 1) := by decide +kernel
theorem d_Ca_power_80 : decode c_Ca_power 80 = .ok (.aload_n 1, 1) := by decide +kernel
theorem d_Ca_power_81 : decode c_Ca_power 81 = .ok (.aload_n 1, 1) := by decide +kernel
theorem d_Ca_power_82 : decode c_Ca_power 82 = .ok (.aload_n 2, 1) := by decide +kernel
theorem d_Ca_power_83 : decode c_Ca_power 83 = .ok (.invokevirtual 94, 3) := by decide +kernel
theorem d_Ca_power_86 : decode c_Ca_power 86 = .ok (.iinc 5 (-1), 3) := by decide +kernel
theorem d_Ca_power_89 : decode c_Ca_power 89 = .ok (.goto (-15), 3) := by decide +kernel
theorem d_Ca_power_92 : decode c_Ca_power 92 = .ok (.iload 4, 2) := by decide +kernel
theorem d_Ca_power_94 : decode c_Ca_power 94 = .ok (.ifCond .ge 13, 3) := by decide +kernel
theorem d_Ca_power_97 : decode c_Ca_power 97 = .ok (.aload_n 0, 1) := by decide +kernel
theorem d_Ca_power_98 : decode c_Ca_power 98 = .ok (.aload_n 1, 1) := by decide +kernel
theorem d_Ca_power_99 : decode c_Ca_power 99 = .ok (.aload_n 0, 1) := by decide +kernel
theorem d_Ca_power_100 : decode c_Ca_power 100 = .ok (.getfield 21, 3) := by decide +kernel
theorem d_Ca_power_103 : decode c_Ca_power 103 = .ok (.aload_n 1, 1) := by decide +kernel
theorem d_Ca_power_104 : decode c_Ca_power 104 = .ok (.invokevirtual 98, 3) := by decide +kernel
theorem d_Ca_power_107 : decode c_Ca_power 107 = .ok (.return_, 1) := by decide +kernel
theorem d_Ca_passOn_0 : decode c_Ca_passOn 0 = .ok (.aload_n 1, 1) := by decide +kernel
theorem d_Ca_passOn_1 : decode c_Ca_passOn 1 = .ok (.getfield 109, 3) := by decide +kernel
theorem d_Ca_passOn_4 : decode c_Ca_passOn 4 = .ok (.ifCond .eq 10, 3) := by decide +kernel
theorem d_Ca_passOn_7 : decode c_Ca_passOn 7 = .ok (.aload_n 1, 1) := by decide +kernel
theorem d_Ca_passOn_8 : decode c_Ca_passOn 8 = .ok (.getfield 109, 3) := by decide +kernel
theorem d_Ca_passOn_11 : decode c_Ca_passOn 11 = .ok (.goto 7, 3) := by decide +kernel
theorem d_Ca_passOn_14 : decode c_Ca_passOn 14 = .ok (.aload_n 2, 1) := by decide +kernel
theorem d_Ca_passOn_15 : decode c_Ca_passOn 15 = .ok (.getfield 109, 3) := by decide +kernel
theorem d_Ca_passOn_18 : decode c_Ca_passOn 18 = .ok (.istore_n 3, 1) := by decide +kernel
theorem d_Ca_passOn_19 : decode c_Ca_passOn 19 = .ok (.iload_n 3, 1) := by decide +kernel
theorem d_Ca_passOn_20 : decode c_Ca_passOn 20 = .ok (.ifCond .ne 5, 3) := by decide +kernel
theorem d_Ca_passOn_23 : decode c_Ca_passOn 23 = .ok (.iconst 0, 1) := by decide +kernel
theorem d_Ca_passOn_24 : decode c_Ca_passOn 24 = .ok (.ireturn, 1) := by decide +kernel
theorem d_Ca_passOn_25 : decode c_Ca_passOn 25 = .ok (.aload_n 0, 1) := by decide +kernel
theorem d_Ca_passOn_26 : decode c_Ca_passOn 26 = .ok (.iload_n 3, 1) := by decide +kernel
theorem d_Ca_passOn_27 : decode c_Ca_passOn 27 = .ok (.invokevirtual 67, 3) := by decide +kernel
theorem d_Ca_passOn_30 : decode c_Ca_passOn 30 = .ok (.iconst 1, 1) := by decide +kernel
theorem d_Ca_passOn_31 : decode c_Ca_passOn 31 = .ok (.ireturn, 1) := by decide +kernel
theorem d_Ca_powerOf_0 : decode c_Ca_powerOf 0 = .ok (.aload_n 0, 1) := by decide +kernel
theorem d_Ca_powerOf_1 : decode c_Ca_powerOf 1 = .ok (.getfield 37, 3) := by decide +kernel
theorem d_Ca_powerOf_4 : decode c_Ca_powerOf 4 = .ok (.ifCond .ne 5, 3) := by decide +kernel
theorem d_Ca_powerOf_7 : decode c_Ca_powerOf 7 = .ok (.iconst 0, 1) := by decide +kernel
theorem d_Ca_powerOf_8 : decode c_Ca_powerOf 8 = .ok (.ireturn, 1) := by decide +kernel
theorem d_Ca_powerOf_9 : decode c_Ca_powerOf 9 = .ok (.aload_n 0, 1) := by decide +kernel
theorem d_Ca_powerOf_10 : decode c_Ca_powerOf 10 = .ok (.getfield 64, 3) := by decide +kernel
theorem d_Ca_powerOf_13 : decode c_Ca_powerOf 13 = .ok (.iconst 1, 1) := by decide +kernel
theorem d_Ca_powerOf_14 : decode c_Ca_powerOf 14 = .ok (.if_icmp .gt 10, 3) := by decide +kernel
theorem d_Ca_powerOf_17 : decode c_Ca_powerOf 17 = .ok (.aload_n 0, 1) := by decide +kernel
theorem d_Ca_powerOf_18 : decode c_Ca_powerOf 18 = .ok (.invokevirtual 101, 3) := by decide +kernel
theorem d_Ca_powerOf_21 : decode c_Ca_powerOf 21 = .ok (.ifCond .ge 6, 3) := by decide +kernel
theorem d_Ca_powerOf_24 : decode c_Ca_powerOf 24 = .ok (.bipush 100, 2) := by decide +kernel
theorem d_Ca_powerOf_26 : decode c_Ca_powerOf 26 = .ok (.ireturn, 1) := by decide +kernel
theorem d_Ca_powerOf_27 : decode c_Ca_powerOf 27 = .ok (.aload_n 0, 1) := by decide +kernel
theorem d_Ca_powerOf_28 : decode c_Ca_powerOf 28 = .ok (.getfield 37, 3) := by decide +kernel
theorem d_Ca_powerOf_31 : decode c_Ca_powerOf 31 = .ok (.aload_n 0, 1) := by decide +kernel
theorem d_Ca_powerOf_32 : decode c_Ca_powerOf 32 = .ok (.iconst 0, 1) := by decide +kernel
theorem d_Ca_powerOf_33 : decode c_Ca_powerOf 33 = .ok (.invokevirtual 105, 3) := by decide +kernel
theorem d_Ca_powerOf_36 : decode c_Ca_powerOf 36 = .ok (.l2i, 1) := by decide +kernel
theorem d_Ca_powerOf_37 : decode c_Ca_powerOf 37 = .ok (.imul, 1) := by decide +kernel
theorem d_Ca_powerOf_38 : decode c_Ca_powerOf 38 = .ok (.ireturn, 1) := by decide +kernel
theorem d_Ca_multiply_0 : decode c_Ca_multiply 0 = .ok (.aload_n 1, 1) := by decide +kernel
theorem d_Ca_multiply_1 : decode c_Ca_multiply 1 = .ok (.aload_n 2, 1) := by decide +kernel
theorem d_Ca_multiply_2 : decode c_Ca_multiply 2 = .ok (.aload_n 3, 1) := by decide +kernel
theorem d_Ca_multiply_3 : decode c_Ca_multiply 3 = .ok (.invokestatic 33, 3) := by decide +kernel
theorem d_Ca_multiply_6 : decode c_Ca_multiply 6 = .ok (.ifCond .eq 4, 3) := by decide +kernel
theorem d_Ca_multiply_9 : decode c_Ca_multiply 9 = .ok (.return_, 1) := by decide +kernel
theorem d_Ca_multiply_10 : decode c_Ca_multiply 10 = .ok (.aload_n 0, 1) := by decide +kernel
theorem d_Ca_multiply_11 : decode c_Ca_multiply 11 = .ok (.getfield 11, 3) := by decide +kernel
theorem d_Ca_multiply_14 : decode c_Ca_multiply 14 = .ok (.lconst 0, 1) := by decide +kernel
theorem d_Ca_multiply_15 : decode c_Ca_multiply 15 = .ok (.invokestatic 44, 3) := by decide +kernel
theorem d_Ca_multiply_18 : decode c_Ca_multiply 18 = .ok (.iconst 0, 1) := by decide +kernel
theorem d_Ca_multiply_19 : decode c_Ca_multiply 19 = .ok (.istore 4, 2) := by decide +kernel
theorem d_Ca_multiply_21 : decode c_Ca_multiply 21 = .ok (.iload 4, 2) := by decide +kernel
theorem d_Ca_multiply_23 : decode c_Ca_multiply 23 = .ok (.iconst 4, 1) := by decide +kernel
theorem d_Ca_multiply_24 : decode c_Ca_multiply 24 = .ok (.if_icmp .ge 54, 3) := by decide +kernel
theorem d_Ca_multiply_27 : decode c_Ca_multiply 27 = .ok (.iconst 0, 1) := by decide +kernel
theorem d_Ca_multiply_28 : decode c_Ca_multiply 28 = .ok (.istore 5, 2) := by decide +kernel
theorem d_Ca_multiply_30 : decode c_Ca_multiply 30 = .ok (.iload 5, 2) := by decide +kernel
theorem d_Ca_multiply_32 : decode c_Ca_multiply 32 = .ok (.iconst 4, 1) := by decide +kernel
theorem d_Ca_multiply_33 : decode c_Ca_multiply 33 = .ok (.if_icmp .ge 39, 3) := by decide +kernel
theorem d_Ca_multiply_36 : decode c_Ca_multiply 36 = .ok (.aload_n 0, 1) := by decide +kernel
theorem d_Ca_multiply_37 : decode c_Ca_multiply 37 = .ok (.getfield 11, 3) := by decide +kernel
theorem d_Ca_multiply_40 : decode c_Ca_multiply 40 = .ok (.iload 4, 2) := by decide +kernel
theorem d_Ca_multiply_42 : decode c_Ca_multiply 42 = .ok (.iload 5, 2) := by decide +kernel
theorem d_Ca_multiply_44 : decode c_Ca_multiply 44 = .ok (.iadd, 1) := by decide +kernel
theorem d_Ca_multiply_45 : decode c_Ca_multiply 45 = .ok (.iconst 1, 1) := by decide +kernel
theorem d_Ca_multiply_46 : decode c_Ca_multiply 46 = .ok (.iadd, 1) := by decide +kernel
theorem d_Ca_multiply_47 : decode c_Ca_multiply 47 = .ok (.dup2, 1) := by decide +kernel
theorem d_Ca_multiply_48 : decode c_Ca_multiply 48 = .ok (.laload, 1) := by decide +kernel
theorem d_Ca_multiply_49 : decode c_Ca_multiply 49 = .ok (.aload_n 2, 1) := by decide +kernel
theorem d_Ca_multiply_50 : decode c_Ca_multiply 50 = .ok (.getfield 61, 3) := by decide +kernel
theorem d_Ca_multiply_53 : decode c_Ca_multiply 53 = .ok (.iload 4, 2) := by decide +kernel
theorem d_Ca_multiply_55 : decode c_Ca_multiply 55 = .ok (.laload, 1) := by decide +kernel
theorem d_Ca_multiply_56 : decode c_Ca_multiply 56 = .ok (.aload_n 3, 1) := by decide +kernel
theorem d_Ca_multiply_57 : decode c_Ca_multiply 57 = .ok (.getfield 61, 3) := by decide +kernel
theorem d_Ca_multiply_60 : decode c_Ca_multiply 60 = .ok (.iload 5, 2) := by decide +kernel
theorem d_Ca_multiply_62 : decode c_Ca_multiply 62 = .ok (.laload, 1) := by decide +kernel
theorem d_Ca_multiply_63 : decode c_Ca_multiply 63 = .ok (.lmul, 1) := by decide +kernel
theorem d_Ca_multiply_64 : decode c_Ca_multiply 64 = .ok (.ladd, 1) := by decide +kernel
theorem d_Ca_multiply_65 : decode c_Ca_multiply 65 = .ok (.lastore, 1) := by decide +kernel
theorem d_Ca_multiply_66 : decode c_Ca_multiply 66 = .ok (.iinc 5 1, 3) := by decide +kernel
theorem d_Ca_multiply_69 : decode c_Ca_multiply 69 = .ok (.goto (-39), 3) := by decide +kernel
theorem d_Ca_multiply_72 : decode c_Ca_multiply 72 = .ok (.iinc 4 1, 3) := by decide +kernel
theorem d_Ca_multiply_75 : decode c_Ca_multiply 75 = .ok (.goto (-54), 3) := by decide +kernel
theorem d_Ca_multiply_78 : decode c_Ca_multiply 78 = .ok (.aload_n 0, 1) := by decide +kernel
theorem d_Ca_multiply_79 : decode c_Ca_multiply 79 = .ok (.invokevirtual 54, 3) := by decide +kernel
theorem d_Ca_multiply_82 : decode c_Ca_multiply 82 = .ok (.aload_n 0, 1) := by decide +kernel
theorem d_Ca_multiply_83 : decode c_Ca_multiply 83 = .ok (.aload_n 1, 1) := by decide +kernel
theorem d_Ca_multiply_84 : decode c_Ca_multiply 84 = .ok (.aload_n 2, 1) := by decide +kernel
theorem d_Ca_multiply_85 : decode c_Ca_multiply 85 = .ok (.getfield 37, 3) := by decide +kernel
theorem d_Ca_multiply_88 : decode c_Ca_multiply 88 = .ok (.aload_n 3, 1) := by decide +kernel
theorem d_Ca_multiply_89 : decode c_Ca_multiply 89 = .ok (.getfield 37, 3) := by decide +kernel
theorem d_Ca_multiply_92 : decode c_Ca_multiply 92 = .ok (.imul, 1) := by decide +kernel
theorem d_Ca_multiply_93 : decode c_Ca_multiply 93 = .ok (.aload_n 2, 1) := by decide +kernel
theorem d_Ca_multiply_94 : decode c_Ca_multiply 94 = .ok (.getfield 64, 3) := by decide +kernel
theorem d_Ca_multiply_97 : decode c_Ca_multiply 97 = .ok (.aload_n 3, 1) := by decide +kernel
theorem d_Ca_multiply_98 : decode c_Ca_multiply 98 = .ok (.getfield 64, 3) := by decide +kernel
theorem d_Ca_multiply_101 : decode c_Ca_multiply 101 = .ok (.iadd, 1) := by decide +kernel
theorem d_Ca_multiply_102 : decode c_Ca_multiply 102 = .ok (.iconst 1, 1) := by decide +kernel
theorem d_Ca_multiply_103 : decode c_Ca_multiply 103 = .ok (.iadd, 1) := by decide +kernel
theorem d_Ca_multiply_104 : decode c_Ca_multiply 104 = .ok (.invokevirtual 57, 3) := by decide +kernel
theorem d_Ca_multiply_107 : decode c_Ca_multiply 107 = .ok (.return_, 1) := by decide +kernel
theorem d_Ca_carry_0 : decode c_Ca_carry 0 = .ok (.bipush 29, 2) := by decide +kernel
theorem d_Ca_carry_2 : decode c_Ca_carry 2 = .ok (.istore_n 1, 1) := by decide +kernel
theorem d_Ca_carry_3 : decode c_Ca_carry 3 = .ok (.iload_n 1, 1) := by decide +kernel
theorem d_Ca_carry_4 : decode c_Ca_carry 4 = .ok (.ifCond .le 48, 3) := by decide +kernel
theorem d_Ca_carry_7 : decode c_Ca_carry 7 = .ok (.aload_n 0, 1) := by decide +kernel
theorem d_Ca_carry_8 : decode c_Ca_carry 8 = .ok (.getfield 11, 3) := by decide +kernel
theorem d_Ca_carry_11 : decode c_Ca_carry 11 = .ok (.iload_n 1, 1) := by decide +kernel
theorem d_Ca_carry_12 : decode c_Ca_carry 12 = .ok (.laload, 1) := by decide +kernel
theorem d_Ca_carry_13 : decode c_Ca_carry 13 = .ok (.ldc2_w 115, 3) := by decide +kernel
theorem d_Ca_carry_16 : decode c_Ca_carry 16 = .ok (.invokestatic 117, 3) := by decide +kernel
theorem d_Ca_carry_19 : decode c_Ca_carry 19 = .ok (.lstore_n 2, 1) := by decide +kernel
theorem d_Ca_carry_20 : decode c_Ca_carry 20 = .ok (.aload_n 0, 1) := by decide +kernel
theorem d_Ca_carry_21 : decode c_Ca_carry 21 = .ok (.getfield 11, 3) := by decide +kernel
theorem d_Ca_carry_24 : decode c_Ca_carry 24 = .ok (.iload_n 1, 1) := by decide +kernel
theorem d_Ca_carry_25 : decode c_Ca_carry 25 = .ok (.dup2, 1) := by decide +kernel
theorem d_Ca_carry_26 : decode c_Ca_carry 26 = .ok (.laload, 1) := by decide +kernel
theorem d_Ca_carry_27 : decode c_Ca_carry 27 = .ok (.lload_n 2, 1) := by decide +kernel
theorem d_Ca_carry_28 : decode c_Ca_carry 28 = .ok (.ldc2_w 115, 3) := by decide +kernel
theorem d_Ca_carry_31 : decode c_Ca_carry 31 = .ok (.lmul, 1) := by decide +kernel
theorem d_Ca_carry_32 : decode c_Ca_carry 32 = .ok (.lsub, 1) := by decide +kernel
theorem d_Ca_carry_33 : decode c_Ca_carry 33 = .ok (.lastore, 1) := by decide +kernel
theorem d_Ca_carry_34 : decode c_Ca_carry 34 = .ok (.aload_n 0, 1) := by decide +kernel
theorem d_Ca_carry_35 : decode c_Ca_carry 35 = .ok (.getfield 11, 3) := by decide +kernel
theorem d_Ca_carry_38 : decode c_Ca_carry 38 = .ok (.iload_n 1, 1) := by decide +kernel
theorem d_Ca_carry_39 : decode c_Ca_carry 39 = .ok (.iconst 1, 1) := by decide +kernel
theorem d_Ca_carry_40 : decode c_Ca_carry 40 = .ok (.isub, 1) := by decide +kernel
theorem d_Ca_carry_41 : decode c_Ca_carry 41 = .ok (.dup2, 1) := by decide +kernel
theorem d_Ca_carry_42 : decode c_Ca_carry 42 = .ok (.laload, 1) := by decide +kernel
theorem d_Ca_carry_43 : decode c_Ca_carry 43 = .ok (.lload_n 2, 1) := by decide +kernel
theorem d_Ca_carry_44 : decode c_Ca_carry 44 = .ok (.ladd, 1) := by decide +kernel
theorem d_Ca_carry_45 : decode c_Ca_carry 45 = .ok (.lastore, 1) := by decide +kernel
theorem d_Ca_carry_46 : decode c_Ca_carry 46 = .ok (.iinc 1 (-1), 3) := by decide +kernel
theorem d_Ca_carry_49 : decode c_Ca_carry 49 = .ok (.goto (-46), 3) := by decide +kernel
theorem d_Ca_carry_52 : decode c_Ca_carry 52 = .ok (.return_, 1) := by decide +kernel
theorem d_Ca_settle_0 : decode c_Ca_settle 0 = .ok (.aload_n 1, 1) := by decide +kernel
theorem d_Ca_settle_1 : decode c_Ca_settle 1 = .ok (.invokevirtual 132, 3) := by decide +kernel
theorem d_Ca_settle_4 : decode c_Ca_settle 4 = .ok (.iconst 0, 1) := by decide +kernel
theorem d_Ca_settle_5 : decode c_Ca_settle 5 = .ok (.istore 4, 2) := by decide +kernel
theorem d_Ca_settle_7 : decode c_Ca_settle 7 = .ok (.iload 4, 2) := by decide +kernel
theorem d_Ca_settle_9 : decode c_Ca_settle 9 = .ok (.bipush 30, 2) := by decide +kernel
theorem d_Ca_settle_11 : decode c_Ca_settle 11 = .ok (.if_icmp .ge 21, 3) := by decide +kernel
theorem d_Ca_settle_14 : decode c_Ca_settle 14 = .ok (.aload_n 0, 1) := by decide +kernel
theorem d_Ca_settle_15 : decode c_Ca_settle 15 = .ok (.getfield 11, 3) := by decide +kernel
theorem d_Ca_settle_18 : decode c_Ca_settle 18 = .ok (.iload 4, 2) := by decide +kernel
theorem d_Ca_settle_20 : decode c_Ca_settle 20 = .ok (.laload, 1) := by decide +kernel
theorem d_Ca_settle_21 : decode c_Ca_settle 21 = .ok (.lconst 0, 1) := by decide +kernel
theorem d_Ca_settle_22 : decode c_Ca_settle 22 = .ok (.lcmp, 1) := by decide +kernel
theorem d_Ca_settle_23 : decode c_Ca_settle 23 = .ok (.ifCond .ne 9, 3) := by decide +kernel
theorem d_Ca_settle_26 : decode c_Ca_settle 26 = .ok (.iinc 4 1, 3) := by decide +kernel
theorem d_Ca_settle_29 : decode c_Ca_settle 29 = .ok (.goto (-22), 3) := by decide +kernel
theorem d_Ca_settle_32 : decode c_Ca_settle 32 = .ok (.iload 4, 2) := by decide +kernel
theorem d_Ca_settle_34 : decode c_Ca_settle 34 = .ok (.bipush 30, 2) := by decide +kernel
theorem d_Ca_settle_36 : decode c_Ca_settle 36 = .ok (.if_icmp .ne 4, 3) := by decide +kernel
theorem d_Ca_settle_39 : decode c_Ca_settle 39 = .ok (.return_, 1) := by decide +kernel
theorem d_Ca_settle_40 : decode c_Ca_settle 40 = .ok (.iconst 0, 1) := by decide +kernel
theorem d_Ca_settle_41 : decode c_Ca_settle 41 = .ok (.istore 5, 2) := by decide +kernel
theorem d_Ca_settle_43 : decode c_Ca_settle 43 = .ok (.iload 5, 2) := by decide +kernel
theorem d_Ca_settle_45 : decode c_Ca_settle 45 = .ok (.bipush 7, 2) := by decide +kernel
theorem d_Ca_settle_47 : decode c_Ca_settle 47 = .ok (.if_icmp .ge 28, 3) := by decide +kernel
theorem d_Ca_settle_50 : decode c_Ca_settle 50 = .ok (.aload_n 0, 1) := by decide +kernel
theorem d_Ca_settle_51 : decode c_Ca_settle 51 = .ok (.getfield 11, 3) := by decide +kernel
theorem d_Ca_settle_54 : decode c_Ca_settle 54 = .ok (.iload 4, 2) := by decide +kernel
theorem d_Ca_settle_56 : decode c_Ca_settle 56 = .ok (.laload, 1) := by decide +kernel
theorem d_Ca_settle_57 : decode c_Ca_settle 57 = .ok (.bipush 7, 2) := by decide +kernel
theorem d_Ca_settle_59 : decode c_Ca_settle 59 = .ok (.iload 5, 2) := by decide +kernel
theorem d_Ca_settle_61 : decode c_Ca_settle 61 = .ok (.isub, 1) := by decide +kernel
theorem d_Ca_settle_62 : decode c_Ca_settle 62 = .ok (.invokestatic 112, 3) := by decide +kernel
theorem d_Ca_settle_65 : decode c_Ca_settle 65 = .ok (.lcmp, 1) := by decide +kernel
theorem d_Ca_settle_66 : decode c_Ca_settle 66 = .ok (.ifCond .ge 9, 3) := by decide +kernel
theorem d_Ca_settle_69 : decode c_Ca_settle 69 = .ok (.iinc 5 1, 3) := by decide +kernel
theorem d_Ca_settle_72 : decode c_Ca_settle 72 = .ok (.goto (-29), 3) := by decide +kernel
theorem d_Ca_settle_75 : decode c_Ca_settle 75 = .ok (.iload_n 3, 1) := by decide +kernel
theorem d_Ca_settle_76 : decode c_Ca_settle 76 = .ok (.iload 4, 2) := by decide +kernel
theorem d_Ca_settle_78 : decode c_Ca_settle 78 = .ok (.bipush 8, 2) := by decide +kernel
theorem d_Ca_settle_80 : decode c_Ca_settle 80 = .ok (.imul, 1) := by decide +kernel
theorem d_Ca_settle_81 : decode c_Ca_settle 81 = .ok (.isub, 1) := by decide +kernel
theorem d_Ca_settle_82 : decode c_Ca_settle 82 = .ok (.iload 5, 2) := by decide +kernel
theorem d_Ca_settle_84 : decode c_Ca_settle 84 = .ok (.isub, 1) := by decide +kernel
theorem d_Ca_settle_85 : decode c_Ca_settle 85 = .ok (.istore 6, 2) := by decide +kernel
theorem d_Ca_settle_87 : decode c_Ca_settle 87 = .ok (.iload 6, 2) := by decide +kernel
theorem d_Ca_settle_89 : decode c_Ca_settle 89 = .ok (.bipush 99, 2) := by decide +kernel
theorem d_Ca_settle_91 : decode c_Ca_settle 91 = .ok (.if_icmp .lt 9, 3) := by decide +kernel
theorem d_Ca_settle_94 : decode c_Ca_settle 94 = .ok (.aload_n 1, 1) := by decide +kernel
theorem d_Ca_settle_95 : decode c_Ca_settle 95 = .ok (.iconst 1, 1) := by decide +kernel
theorem d_Ca_settle_96 : decode c_Ca_settle 96 = .ok (.invokevirtual 67, 3) := by decide +kernel
theorem d_Ca_settle_99 : decode c_Ca_settle 99 = .ok (.return_, 1) := by decide +kernel
theorem d_Ca_settle_100 : decode c_Ca_settle 100 = .ok (.iload 6, 2) := by decide +kernel
theorem d_Ca_settle_102 : decode c_Ca_settle 102 = .ok (.bipush (-99), 2) := by decide +kernel
theorem d_Ca_settle_104 : decode c_Ca_settle 104 = .ok (.if_icmp .ge 4, 3) := by decide +kernel
theorem d_Ca_settle_107 : decode c_Ca_settle 107 = .ok (.return_, 1) := by decide +kernel
theorem d_Ca_settle_108 : decode c_Ca_settle 108 = .ok (.iload 5, 2) := by decide +kernel
theorem d_Ca_settle_110 : decode c_Ca_settle 110 = .ok (.invokestatic 112, 3) := by decide +kernel
theorem d_Ca_settle_113 : decode c_Ca_settle 113 = .ok (.lstore 7, 2) := by decide +kernel
theorem d_Ca_settle_115 : decode c_Ca_settle 115 = .ok (.bipush 8, 2) := by decide +kernel
theorem d_Ca_settle_117 : decode c_Ca_settle 117 = .ok (.iload 5, 2) := by decide +kernel
theorem d_Ca_settle_119 : decode c_Ca_settle 119 = .ok (.isub, 1) := by decide +kernel
theorem d_Ca_settle_120 : decode c_Ca_settle 120 = .ok (.invokestatic 112, 3) := by decide +kernel
theorem d_Ca_settle_123 : decode c_Ca_settle 123 = .ok (.lstore 9, 2) := by decide +kernel
theorem d_Ca_settle_125 : decode c_Ca_settle 125 = .ok (.iconst 0, 1) := by decide +kernel
theorem d_Ca_settle_126 : decode c_Ca_settle 126 = .ok (.istore 11, 2) := by decide +kernel
theorem d_Ca_settle_128 : decode c_Ca_settle 128 = .ok (.iload 11, 2) := by decide +kernel
theorem d_Ca_settle_130 : decode c_Ca_settle 130 = .ok (.iconst 4, 1) := by decide +kernel
theorem d_Ca_settle_131 : decode c_Ca_settle 131 = .ok (.if_icmp .ge 46, 3) := by decide +kernel
theorem d_Ca_settle_134 : decode c_Ca_settle 134 = .ok (.aload_n 1, 1) := by decide +kernel
theorem d_Ca_settle_135 : decode c_Ca_settle 135 = .ok (.getfield 61, 3) := by decide +kernel
theorem d_Ca_settle_138 : decode c_Ca_settle 138 = .ok (.iload 11, 2) := by decide +kernel
theorem d_Ca_settle_140 : decode c_Ca_settle 140 = .ok (.aload_n 0, 1) := by decide +kernel
theorem d_Ca_settle_141 : decode c_Ca_settle 141 = .ok (.iload 4, 2) := by decide +kernel
theorem d_Ca_settle_143 : decode c_Ca_settle 143 = .ok (.iload 11, 2) := by decide +kernel
theorem d_Ca_settle_145 : decode c_Ca_settle 145 = .ok (.iadd, 1) := by decide +kernel
theorem d_Ca_settle_146 : decode c_Ca_settle 146 = .ok (.invokevirtual 135, 3) := by decide +kernel
theorem d_Ca_settle_149 : decode c_Ca_settle 149 = .ok (.lload 9, 2) := by decide +kernel
theorem d_Ca_settle_151 : decode c_Ca_settle 151 = .ok (.lrem, 1) := by decide +kernel
theorem d_Ca_settle_152 : decode c_Ca_settle 152 = .ok (.lload 7, 2) := by decide +kernel
theorem d_Ca_settle_154 : decode c_Ca_settle 154 = .ok (.lmul, 1) := by decide +kernel
theorem d_Ca_settle_155 : decode c_Ca_settle 155 = .ok (.aload_n 0, 1) := by decide +kernel
theorem d_Ca_settle_156 : decode c_Ca_settle 156 = .ok (.iload 4, 2) := by decide +kernel
theorem d_Ca_settle_158 : decode c_Ca_settle 158 = .ok (.iload 11, 2) := by decide +kernel
theorem d_Ca_settle_160 : decode c_Ca_settle 160 = .ok (.iadd, 1) := by decide +kernel
theorem d_Ca_settle_161 : decode c_Ca_settle 161 = .ok (.iconst 1, 1) := by decide +kernel
theorem d_Ca_settle_162 : decode c_Ca_settle 162 = .ok (.iadd, 1) := by decide +kernel
theorem d_Ca_settle_163 : decode c_Ca_settle 163 = .ok (.invokevirtual 135, 3) := by decide +kernel
theorem d_Ca_settle_166 : decode c_Ca_settle 166 = .ok (.lload 9, 2) := by decide +kernel
theorem d_Ca_settle_168 : decode c_Ca_settle 168 = .ok (.ldiv, 1) := by decide +kernel
theorem d_Ca_settle_169 : decode c_Ca_settle 169 = .ok (.ladd, 1) := by decide +kernel
theorem d_Ca_settle_170 : decode c_Ca_settle 170 = .ok (.lastore, 1) := by decide +kernel
theorem d_Ca_settle_171 : decode c_Ca_settle 171 = .ok (.iinc 11 1, 3) := by decide +kernel
theorem d_Ca_settle_174 : decode c_Ca_settle 174 = .ok (.goto (-46), 3) := by decide +kernel
theorem d_Ca_settle_177 : decode c_Ca_settle 177 = .ok (.aload_n 1, 1) := by decide +kernel
theorem d_Ca_settle_178 : decode c_Ca_settle 178 = .ok (.iload_n 2, 1) := by decide +kernel
theorem d_Ca_settle_179 : decode c_Ca_settle 179 = .ok (.putfield 37, 3) := by decide +kernel
theorem d_Ca_settle_182 : decode c_Ca_settle 182 = .ok (.aload_n 1, 1) := by decide +kernel
theorem d_Ca_settle_183 : decode c_Ca_settle 183 = .ok (.iload 6, 2) := by decide +kernel
theorem d_Ca_settle_185 : decode c_Ca_settle 185 = .ok (.putfield 64, 3) := by decide +kernel
theorem d_Ca_settle_188 : decode c_Ca_settle 188 = .ok (.aload_n 1, 1) := by decide +kernel
theorem d_Ca_settle_189 : decode c_Ca_settle 189 = .ok (.aload_n 0, 1) := by decide +kernel
theorem d_Ca_settle_190 : decode c_Ca_settle 190 = .ok (.getfield 25, 3) := by decide +kernel
theorem d_Ca_settle_193 : decode c_Ca_settle 193 = .ok (.invokevirtual 138, 3) := by decide +kernel
theorem d_Ca_settle_196 : decode c_Ca_settle 196 = .ok (.return_, 1) := by decide +kernel
theorem d_Ca_wideAt_0 : decode c_Ca_wideAt 0 = .ok (.iload_n 1, 1) := by decide +kernel
theorem d_Ca_wideAt_1 : decode c_Ca_wideAt 1 = .ok (.ifCond .lt 9, 3) := by decide +kernel
theorem d_Ca_wideAt_4 : decode c_Ca_wideAt 4 = .ok (.iload_n 1, 1) := by decide +kernel
theorem d_Ca_wideAt_5 : decode c_Ca_wideAt 5 = .ok (.bipush 30, 2) := by decide +kernel
theorem d_Ca_wideAt_7 : decode c_Ca_wideAt 7 = .ok (.if_icmp .lt 7, 3) := by decide +kernel
theorem d_Ca_wideAt_10 : decode c_Ca_wideAt 10 = .ok (.lconst 0, 1) := by decide +kernel
theorem d_Ca_wideAt_11 : decode c_Ca_wideAt 11 = .ok (.goto 9, 3) := by decide +kernel
theorem d_Ca_wideAt_14 : decode c_Ca_wideAt 14 = .ok (.aload_n 0, 1) := by decide +kernel
theorem d_Ca_wideAt_15 : decode c_Ca_wideAt 15 = .ok (.getfield 11, 3) := by decide +kernel
theorem d_Ca_wideAt_18 : decode c_Ca_wideAt 18 = .ok (.iload_n 1, 1) := by decide +kernel
theorem d_Ca_wideAt_19 : decode c_Ca_wideAt 19 = .ok (.laload, 1) := by decide +kernel
theorem d_Ca_wideAt_20 : decode c_Ca_wideAt 20 = .ok (.lreturn, 1) := by decide +kernel
theorem d_Ca_divide_0 : decode c_Ca_divide 0 = .ok (.aload_n 1, 1) := by decide +kernel
theorem d_Ca_divide_1 : decode c_Ca_divide 1 = .ok (.aload_n 2, 1) := by decide +kernel
theorem d_Ca_divide_2 : decode c_Ca_divide 2 = .ok (.aload_n 3, 1) := by decide +kernel
theorem d_Ca_divide_3 : decode c_Ca_divide 3 = .ok (.invokestatic 33, 3) := by decide +kernel
theorem d_Ca_divide_6 : decode c_Ca_divide 6 = .ok (.ifCond .eq 4, 3) := by decide +kernel
theorem d_Ca_divide_9 : decode c_Ca_divide 9 = .ok (.return_, 1) := by decide +kernel
theorem d_Ca_divide_10 : decode c_Ca_divide 10 = .ok (.aload_n 3, 1) := by decide +kernel
theorem d_Ca_divide_11 : decode c_Ca_divide 11 = .ok (.getfield 37, 3) := by decide +kernel
theorem d_Ca_divide_14 : decode c_Ca_divide 14 = .ok (.ifCond .ne 9, 3) := by decide +kernel
theorem d_Ca_divide_17 : decode c_Ca_divide 17 = .ok (.aload_n 1, 1) := by decide +kernel
theorem d_Ca_divide_18 : decode c_Ca_divide 18 = .ok (.iconst 2, 1) := by decide +kernel
theorem d_Ca_divide_19 : decode c_Ca_divide 19 = .ok (.invokevirtual 67, 3) := by decide +kernel
theorem d_Ca_divide_22 : decode c_Ca_divide 22 = .ok (.return_, 1) := by decide +kernel
theorem d_Ca_divide_23 : decode c_Ca_divide 23 = .ok (.aload_n 0, 1) := by decide +kernel
theorem d_Ca_divide_24 : decode c_Ca_divide 24 = .ok (.getfield 11, 3) := by decide +kernel
theorem d_Ca_divide_27 : decode c_Ca_divide 27 = .ok (.lconst 0, 1) := by decide +kernel
theorem d_Ca_divide_28 : decode c_Ca_divide 28 = .ok (.invokestatic 44, 3) := by decide +kernel
theorem d_Ca_divide_31 : decode c_Ca_divide 31 = .ok (.aload_n 0, 1) := by decide +kernel
theorem d_Ca_divide_32 : decode c_Ca_divide 32 = .ok (.getfield 17, 3) := by decide +kernel
theorem d_Ca_divide_35 : decode c_Ca_divide 35 = .ok (.iconst 0, 1) := by decide +kernel
theorem d_Ca_divide_36 : decode c_Ca_divide 36 = .ok (.lconst 0, 1) := by decide +kernel
theorem d_Ca_divide_37 : decode c_Ca_divide 37 = .ok (.lastore, 1) := by decide +kernel
theorem d_Ca_divide_38 : decode c_Ca_divide 38 = .ok (.aload_n 2, 1) := by decide +kernel
theorem d_Ca_divide_39 : decode c_Ca_divide 39 = .ok (.getfield 61, 3) := by decide +kernel
theorem d_Ca_divide_42 : decode c_Ca_divide 42 = .ok (.iconst 0, 1) := by decide +kernel
theorem d_Ca_divide_43 : decode c_Ca_divide 43 = .ok (.aload_n 0, 1) := by decide +kernel
theorem d_Ca_divide_44 : decode c_Ca_divide 44 = .ok (.getfield 17, 3) := by decide +kernel
theorem d_Ca_divide_47 : decode c_Ca_divide 47 = .ok (.iconst 1, 1) := by decide +kernel
theorem d_Ca_divide_48 : decode c_Ca_divide 48 = .ok (.iconst 4, 1) := by decide +kernel
theorem d_Ca_divide_49 : decode c_Ca_divide 49 = .ok (.invokestatic 71, 3) := by decide +kernel
theorem d_Ca_divide_52 : decode c_Ca_divide 52 = .ok (.iconst 0, 1) := by decide +kernel
theorem d_Ca_divide_53 : decode c_Ca_divide 53 = .ok (.istore 4, 2) := by decide +kernel
theorem d_Ca_divide_55 : decode c_Ca_divide 55 = .ok (.iload 4, 2) := by decide +kernel
theorem d_Ca_divide_57 : decode c_Ca_divide 57 = .ok (.iconst 4, 1) := by decide +kernel
theorem d_Ca_divide_58 : decode c_Ca_divide 58 = .ok (.if_icmp .gt 42, 3) := by decide +kernel
theorem d_Ca_divide_61 : decode c_Ca_divide 61 = .ok (.aload_n 0, 1) := by decide +kernel
theorem d_Ca_divide_62 : decode c_Ca_divide 62 = .ok (.getfield 11, 3) := by decide +kernel
theorem d_Ca_divide_65 : decode c_Ca_divide 65 = .ok (.iload 4, 2) := by decide +kernel
theorem d_Ca_divide_67 : decode c_Ca_divide 67 = .ok (.aload_n 0, 1) := by decide +kernel
theorem d_Ca_divide_68 : decode c_Ca_divide 68 = .ok (.aload_n 3, 1) := by decide +kernel
theorem d_Ca_divide_69 : decode c_Ca_divide 69 = .ok (.invokevirtual 77, 3) := by decide +kernel
theorem d_Ca_divide_72 : decode c_Ca_divide 72 = .ok (.lastore, 1) := by decide +kernel
theorem d_Ca_divide_73 : decode c_Ca_divide 73 = .ok (.aload_n 0, 1) := by decide +kernel
theorem d_Ca_divide_74 : decode c_Ca_divide 74 = .ok (.getfield 17, 3) := by decide +kernel
theorem d_Ca_divide_77 : decode c_Ca_divide 77 = .ok (.iconst 1, 1) := by decide +kernel
theorem d_Ca_divide_78 : decode c_Ca_divide 78 = .ok (.aload_n 0, 1) := by decide +kernel
theorem d_Ca_divide_79 : decode c_Ca_divide 79 = .ok (.getfield 17, 3) := by decide +kernel
theorem d_Ca_divide_82 : decode c_Ca_divide 82 = .ok (.iconst 0, 1) := by decide +kernel
theorem d_Ca_divide_83 : decode c_Ca_divide 83 = .ok (.iconst 4, 1) := by decide +kernel
theorem d_Ca_divide_84 : decode c_Ca_divide 84 = .ok (.invokestatic 71, 3) := by decide +kernel
theorem d_Ca_divide_87 : decode c_Ca_divide 87 = .ok (.aload_n 0, 1) := by decide +kernel
theorem d_Ca_divide_88 : decode c_Ca_divide 88 = .ok (.getfield 17, 3) := by decide +kernel
theorem d_Ca_divide_91 : decode c_Ca_divide 91 = .ok (.iconst 4, 1) := by decide +kernel
theorem d_Ca_divide_92 : decode c_Ca_divide 92 = .ok (.lconst 0, 1) := by decide +kernel
theorem d_Ca_divide_93 : decode c_Ca_divide 93 = .ok (.lastore, 1) := by decide +kernel
theorem d_Ca_divide_94 : decode c_Ca_divide 94 = .ok (.iinc 4 1, 3) := by decide +kernel
theorem d_Ca_divide_97 : decode c_Ca_divide 97 = .ok (.goto (-42), 3) := by decide +kernel
theorem d_Ca_divide_100 : decode c_Ca_divide 100 = .ok (.aload_n 0, 1) := by decide +kernel
theorem d_Ca_divide_101 : decode c_Ca_divide 101 = .ok (.aload_n 1, 1) := by decide +kernel
theorem d_Ca_divide_102 : decode c_Ca_divide 102 = .ok (.aload_n 2, 1) := by decide +kernel
theorem d_Ca_divide_103 : decode c_Ca_divide 103 = .ok (.getfield 37, 3) := by decide +kernel
theorem d_Ca_divide_106 : decode c_Ca_divide 106 = .ok (.aload_n 3, 1) := by decide +kernel
theorem d_Ca_divide_107 : decode c_Ca_divide 107 = .ok (.getfield 37, 3) := by decide +kernel
theorem d_Ca_divide_110 : decode c_Ca_divide 110 = .ok (.imul, 1) := by decide +kernel
theorem d_Ca_divide_111 : decode c_Ca_divide 111 = .ok (.aload_n 2, 1) := by decide +kernel
theorem d_Ca_divide_112 : decode c_Ca_divide 112 = .ok (.getfield 64, 3) := by decide +kernel
theorem d_Ca_divide_115 : decode c_Ca_divide 115 = .ok (.aload_n 3, 1) := by decide +kernel
theorem d_Ca_divide_116 : decode c_Ca_divide 116 = .ok (.getfield 64, 3) := by decide +kernel
theorem d_Ca_divide_119 : decode c_Ca_divide 119 = .ok (.isub, 1) := by decide +kernel
theorem d_Ca_divide_120 : decode c_Ca_divide 120 = .ok (.bipush 8, 2) := by decide +kernel
theorem d_Ca_divide_122 : decode c_Ca_divide 122 = .ok (.iadd, 1) := by decide +kernel
theorem d_Ca_divide_123 : decode c_Ca_divide 123 = .ok (.iconst 1, 1) := by decide +kernel
theorem d_Ca_divide_124 : decode c_Ca_divide 124 = .ok (.isub, 1) := by decide +kernel
theorem d_Ca_divide_125 : decode c_Ca_divide 125 = .ok (.invokevirtual 57, 3) := by decide +kernel
theorem d_Ca_divide_128 : decode c_Ca_divide 128 = .ok (.return_, 1) := by decide +kernel
theorem d_Ca_takeOut_0 : decode c_Ca_takeOut 0 = .ok (.lconst 1, 1) := by decide +kernel
theorem d_Ca_takeOut_1 : decode c_Ca_takeOut 1 = .ok (.aload_n 1, 1) := by decide +kernel
theorem d_Ca_takeOut_2 : decode c_Ca_takeOut 2 = .ok (.getfield 61, 3) := by decide +kernel
theorem d_Ca_takeOut_5 : decode c_Ca_takeOut 5 = .ok (.iconst 0, 1) := by decide +kernel
theorem d_Ca_takeOut_6 : decode c_Ca_takeOut 6 = .ok (.laload, 1) := by decide +kernel
theorem d_Ca_takeOut_7 : decode c_Ca_takeOut 7 = .ok (.lconst 1, 1) := by decide +kernel
theorem d_Ca_takeOut_8 : decode c_Ca_takeOut 8 = .ok (.ladd, 1) := by decide +kernel
theorem d_Ca_takeOut_9 : decode c_Ca_takeOut 9 = .ok (.invokestatic 121, 3) := by decide +kernel
theorem d_Ca_takeOut_12 : decode c_Ca_takeOut 12 = .ok (.lstore_n 2, 1) := by decide +kernel
theorem d_Ca_takeOut_13 : decode c_Ca_takeOut 13 = .ok (.lconst 0, 1) := by decide +kernel
theorem d_Ca_takeOut_14 : decode c_Ca_takeOut 14 = .ok (.lstore 4, 2) := by decide +kernel
theorem d_Ca_takeOut_16 : decode c_Ca_takeOut 16 = .ok (.iconst 0, 1) := by decide +kernel
theorem d_Ca_takeOut_17 : decode c_Ca_takeOut 17 = .ok (.istore 6, 2) := by decide +kernel
theorem d_Ca_takeOut_19 : decode c_Ca_takeOut 19 = .ok (.iload 6, 2) := by decide +kernel
theorem d_Ca_takeOut_21 : decode c_Ca_takeOut 21 = .ok (.bipush 20, 2) := by decide +kernel
theorem d_Ca_takeOut_23 : decode c_Ca_takeOut 23 = .ok (.if_icmp .ge 56, 3) := by decide +kernel
theorem d_Ca_takeOut_26 : decode c_Ca_takeOut 26 = .ok (.aload_n 0, 1) := by decide +kernel
theorem d_Ca_takeOut_27 : decode c_Ca_takeOut 27 = .ok (.aload_n 1, 1) := by decide +kernel
theorem d_Ca_takeOut_28 : decode c_Ca_takeOut 28 = .ok (.invokevirtual 124, 3) := by decide +kernel
theorem d_Ca_takeOut_31 : decode c_Ca_takeOut 31 = .ok (.ifCond .eq 48, 3) := by decide +kernel
theorem d_Ca_takeOut_34 : decode c_Ca_takeOut 34 = .ok (.lconst 1, 1) := by decide +kernel
theorem d_Ca_takeOut_35 : decode c_Ca_takeOut 35 = .ok (.aload_n 0, 1) := by decide +kernel
theorem d_Ca_takeOut_36 : decode c_Ca_takeOut 36 = .ok (.getfield 17, 3) := by decide +kernel
theorem d_Ca_takeOut_39 : decode c_Ca_takeOut 39 = .ok (.iconst 0, 1) := by decide +kernel
theorem d_Ca_takeOut_40 : decode c_Ca_takeOut 40 = .ok (.laload, 1) := by decide +kernel
theorem d_Ca_takeOut_41 : decode c_Ca_takeOut 41 = .ok (.ldc2_w 115, 3) := by decide +kernel
theorem d_Ca_takeOut_44 : decode c_Ca_takeOut 44 = .ok (.lmul, 1) := by decide +kernel
theorem d_Ca_takeOut_45 : decode c_Ca_takeOut 45 = .ok (.aload_n 0, 1) := by decide +kernel
theorem d_Ca_takeOut_46 : decode c_Ca_takeOut 46 = .ok (.getfield 17, 3) := by decide +kernel
theorem d_Ca_takeOut_49 : decode c_Ca_takeOut 49 = .ok (.iconst 1, 1) := by decide +kernel
theorem d_Ca_takeOut_50 : decode c_Ca_takeOut 50 = .ok (.laload, 1) := by decide +kernel
theorem d_Ca_takeOut_51 : decode c_Ca_takeOut 51 = .ok (.ladd, 1) := by decide +kernel
theorem d_Ca_takeOut_52 : decode c_Ca_takeOut 52 = .ok (.lload_n 2, 1) := by decide +kernel
theorem d_Ca_takeOut_53 : decode c_Ca_takeOut 53 = .ok (.ldiv, 1) := by decide +kernel
theorem d_Ca_takeOut_54 : decode c_Ca_takeOut 54 = .ok (.invokestatic 121, 3) := by decide +kernel
theorem d_Ca_takeOut_57 : decode c_Ca_takeOut 57 = .ok (.lstore 7, 2) := by decide +kernel
theorem d_Ca_takeOut_59 : decode c_Ca_takeOut 59 = .ok (.aload_n 0, 1) := by decide +kernel
theorem d_Ca_takeOut_60 : decode c_Ca_takeOut 60 = .ok (.aload_n 1, 1) := by decide +kernel
theorem d_Ca_takeOut_61 : decode c_Ca_takeOut 61 = .ok (.lload 7, 2) := by decide +kernel
theorem d_Ca_takeOut_63 : decode c_Ca_takeOut 63 = .ok (.invokevirtual 128, 3) := by decide +kernel
theorem d_Ca_takeOut_66 : decode c_Ca_takeOut 66 = .ok (.lload 4, 2) := by decide +kernel
theorem d_Ca_takeOut_68 : decode c_Ca_takeOut 68 = .ok (.lload 7, 2) := by decide +kernel
theorem d_Ca_takeOut_70 : decode c_Ca_takeOut 70 = .ok (.ladd, 1) := by decide +kernel
theorem d_Ca_takeOut_71 : decode c_Ca_takeOut 71 = .ok (.lstore 4, 2) := by decide +kernel
theorem d_Ca_takeOut_73 : decode c_Ca_takeOut 73 = .ok (.iinc 6 1, 3) := by decide +kernel
theorem d_Ca_takeOut_76 : decode c_Ca_takeOut 76 = .ok (.goto (-57), 3) := by decide +kernel
theorem d_Ca_takeOut_79 : decode c_Ca_takeOut 79 = .ok (.lload 4, 2) := by decide +kernel
theorem d_Ca_takeOut_81 : decode c_Ca_takeOut 81 = .ok (.lreturn, 1) := by decide +kernel
theorem d_Ca_reaches_0 : decode c_Ca_reaches 0 = .ok (.aload_n 0, 1) := by decide +kernel
theorem d_Ca_reaches_1 : decode c_Ca_reaches 1 = .ok (.getfield 17, 3) := by decide +kernel
theorem d_Ca_reaches_4 : decode c_Ca_reaches 4 = .ok (.iconst 0, 1) := by decide +kernel
theorem d_Ca_reaches_5 : decode c_Ca_reaches 5 = .ok (.laload, 1) := by decide +kernel
theorem d_Ca_reaches_6 : decode c_Ca_reaches 6 = .ok (.lconst 0, 1) := by decide +kernel
theorem d_Ca_reaches_7 : decode c_Ca_reaches 7 = .ok (.lcmp, 1) := by decide +kernel
theorem d_Ca_reaches_8 : decode c_Ca_reaches 8 = .ok (.ifCond .eq 5, 3) := by decide +kernel
theorem d_Ca_reaches_11 : decode c_Ca_reaches 11 = .ok (.iconst 1, 1) := by decide +kernel
theorem d_Ca_reaches_12 : decode c_Ca_reaches 12 = .ok (.ireturn, 1) := by decide +kernel
theorem d_Ca_reaches_13 : decode c_Ca_reaches 13 = .ok (.iconst 0, 1) := by decide +kernel
theorem d_Ca_reaches_14 : decode c_Ca_reaches 14 = .ok (.istore_n 2, 1) := by decide +kernel
theorem d_Ca_reaches_15 : decode c_Ca_reaches 15 = .ok (.iload_n 2, 1) := by decide +kernel
theorem d_Ca_reaches_16 : decode c_Ca_reaches 16 = .ok (.iconst 4, 1) := by decide +kernel
theorem d_Ca_reaches_17 : decode c_Ca_reaches 17 = .ok (.if_icmp .ge 51, 3) := by decide +kernel
theorem d_Ca_reaches_20 : decode c_Ca_reaches 20 = .ok (.aload_n 0, 1) := by decide +kernel
theorem d_Ca_reaches_21 : decode c_Ca_reaches 21 = .ok (.getfield 17, 3) := by decide +kernel
theorem d_Ca_reaches_24 : decode c_Ca_reaches 24 = .ok (.iload_n 2, 1) := by decide +kernel
theorem d_Ca_reaches_25 : decode c_Ca_reaches 25 = .ok (.iconst 1, 1) := by decide +kernel
theorem d_Ca_reaches_26 : decode c_Ca_reaches 26 = .ok (.iadd, 1) := by decide +kernel
theorem d_Ca_reaches_27 : decode c_Ca_reaches 27 = .ok (.laload, 1) := by decide +kernel
theorem d_Ca_reaches_28 : decode c_Ca_reaches 28 = .ok (.aload_n 1, 1) := by decide +kernel
theorem d_Ca_reaches_29 : decode c_Ca_reaches 29 = .ok (.getfield 61, 3) := by decide +kernel
theorem d_Ca_reaches_32 : decode c_Ca_reaches 32 = .ok (.iload_n 2, 1) := by decide +kernel
theorem d_Ca_reaches_33 : decode c_Ca_reaches 33 = .ok (.laload, 1) := by decide +kernel
theorem d_Ca_reaches_34 : decode c_Ca_reaches 34 = .ok (.lcmp, 1) := by decide +kernel
theorem d_Ca_reaches_35 : decode c_Ca_reaches 35 = .ok (.ifCond .eq 27, 3) := by decide +kernel
theorem d_Ca_reaches_38 : decode c_Ca_reaches 38 = .ok (.aload_n 0, 1) := by decide +kernel
theorem d_Ca_reaches_39 : decode c_Ca_reaches 39 = .ok (.getfield 17, 3) := by decide +kernel
theorem d_Ca_reaches_42 : decode c_Ca_reaches 42 = .ok (.iload_n 2, 1) := by decide +kernel
theorem d_Ca_reaches_43 : decode c_Ca_reaches 43 = .ok (.iconst 1, 1) := by decide +kernel
theorem d_Ca_reaches_44 : decode c_Ca_reaches 44 = .ok (.iadd, 1) := by decide +kernel
theorem d_Ca_reaches_45 : decode c_Ca_reaches 45 = .ok (.laload, 1) := by decide +kernel
theorem d_Ca_reaches_46 : decode c_Ca_reaches 46 = .ok (.aload_n 1, 1) := by decide +kernel
theorem d_Ca_reaches_47 : decode c_Ca_reaches 47 = .ok (.getfield 61, 3) := by decide +kernel
theorem d_Ca_reaches_50 : decode c_Ca_reaches 50 = .ok (.iload_n 2, 1) := by decide +kernel
theorem d_Ca_reaches_51 : decode c_Ca_reaches 51 = .ok (.laload, 1) := by decide +kernel
theorem d_Ca_reaches_52 : decode c_Ca_reaches 52 = .ok (.lcmp, 1) := by decide +kernel
theorem d_Ca_reaches_53 : decode c_Ca_reaches 53 = .ok (.ifCond .le 7, 3) := by decide +kernel
theorem d_Ca_reaches_56 : decode c_Ca_reaches 56 = .ok (.iconst 1, 1) := by decide +kernel
theorem d_Ca_reaches_57 : decode c_Ca_reaches 57 = .ok (.goto 4, 3) := by decide +kernel
theorem d_Ca_reaches_60 : decode c_Ca_reaches 60 = .ok (.iconst 0, 1) := by decide +kernel
theorem d_Ca_reaches_61 : decode c_Ca_reaches 61 = .ok (.ireturn, 1) := by decide +kernel
theorem d_Ca_reaches_62 : decode c_Ca_reaches 62 = .ok (.iinc 2 1, 3) := by decide +kernel
theorem d_Ca_reaches_65 : decode c_Ca_reaches 65 = .ok (.goto (-50), 3) := by decide +kernel
theorem d_Ca_reaches_68 : decode c_Ca_reaches 68 = .ok (.iconst 1, 1) := by decide +kernel
theorem d_Ca_reaches_69 : decode c_Ca_reaches 69 = .ok (.ireturn, 1) := by decide +kernel
theorem d_Ca_reduce_0 : decode c_Ca_reduce 0 = .ok (.lconst 0, 1) := by decide +kernel
theorem d_Ca_reduce_1 : decode c_Ca_reduce 1 = .ok (.lstore 4, 2) := by decide +kernel
theorem d_Ca_reduce_3 : decode c_Ca_reduce 3 = .ok (.iconst 3, 1) := by decide +kernel
theorem d_Ca_reduce_4 : decode c_Ca_reduce 4 = .ok (.istore 6, 2) := by decide +kernel
theorem d_Ca_reduce_6 : decode c_Ca_reduce 6 = .ok (.iload 6, 2) := by decide +kernel
theorem d_Ca_reduce_8 : decode c_Ca_reduce 8 = .ok (.ifCond .lt 61, 3) := by decide +kernel
theorem d_Ca_reduce_11 : decode c_Ca_reduce 11 = .ok (.aload_n 0, 1) := by decide +kernel
theorem d_Ca_reduce_12 : decode c_Ca_reduce 12 = .ok (.getfield 17, 3) := by decide +kernel
theorem d_Ca_reduce_15 : decode c_Ca_reduce 15 = .ok (.iload 6, 2) := by decide +kernel
theorem d_Ca_reduce_17 : decode c_Ca_reduce 17 = .ok (.iconst 1, 1) := by decide +kernel
theorem d_Ca_reduce_18 : decode c_Ca_reduce 18 = .ok (.iadd, 1) := by decide +kernel
theorem d_Ca_reduce_19 : decode c_Ca_reduce 19 = .ok (.laload, 1) := by decide +kernel
theorem d_Ca_reduce_20 : decode c_Ca_reduce 20 = .ok (.lload_n 2, 1) := by decide +kernel
theorem d_Ca_reduce_21 : decode c_Ca_reduce 21 = .ok (.aload_n 1, 1) := by decide +kernel
theorem d_Ca_reduce_22 : decode c_Ca_reduce 22 = .ok (.getfield 61, 3) := by decide +kernel
theorem d_Ca_reduce_25 : decode c_Ca_reduce 25 = .ok (.iload 6, 2) := by decide +kernel
theorem d_Ca_reduce_27 : decode c_Ca_reduce 27 = .ok (.laload, 1) := by decide +kernel
theorem d_Ca_reduce_28 : decode c_Ca_reduce 28 = .ok (.lmul, 1) := by decide +kernel
theorem d_Ca_reduce_29 : decode c_Ca_reduce 29 = .ok (.lsub, 1) := by decide +kernel
theorem d_Ca_reduce_30 : decode c_Ca_reduce 30 = .ok (.lload 4, 2) := by decide +kernel
theorem d_Ca_reduce_32 : decode c_Ca_reduce 32 = .ok (.ladd, 1) := by decide +kernel
theorem d_Ca_reduce_33 : decode c_Ca_reduce 33 = .ok (.lstore 7, 2) := by decide +kernel
theorem d_Ca_reduce_35 : decode c_Ca_reduce 35 = .ok (.lload 7, 2) := by decide +kernel
theorem d_Ca_reduce_37 : decode c_Ca_reduce 37 = .ok (.ldc2_w 115, 3) := by decide +kernel
theorem d_Ca_reduce_40 : decode c_Ca_reduce 40 = .ok (.invokestatic 117, 3) := by decide +kernel
theorem d_Ca_reduce_43 : decode c_Ca_reduce 43 = .ok (.lstore 4, 2) := by decide +kernel
theorem d_Ca_reduce_45 : decode c_Ca_reduce 45 = .ok (.aload_n 0, 1) := by decide +kernel
theorem d_Ca_reduce_46 : decode c_Ca_reduce 46 = .ok (.getfield 17, 3) := by decide +kernel
theorem d_Ca_reduce_49 : decode c_Ca_reduce 49 = .ok (.iload 6, 2) := by decide +kernel
theorem d_Ca_reduce_51 : decode c_Ca_reduce 51 = .ok (.iconst 1, 1) := by decide +kernel
theorem d_Ca_reduce_52 : decode c_Ca_reduce 52 = .ok (.iadd, 1) := by decide +kernel
theorem d_Ca_reduce_53 : decode c_Ca_reduce 53 = .ok (.lload 7, 2) := by decide +kernel
theorem d_Ca_reduce_55 : decode c_Ca_reduce 55 = .ok (.lload 4, 2) := by decide +kernel
theorem d_Ca_reduce_57 : decode c_Ca_reduce 57 = .ok (.ldc2_w 115, 3) := by decide +kernel
theorem d_Ca_reduce_60 : decode c_Ca_reduce 60 = .ok (.lmul, 1) := by decide +kernel
theorem d_Ca_reduce_61 : decode c_Ca_reduce 61 = .ok (.lsub, 1) := by decide +kernel
theorem d_Ca_reduce_62 : decode c_Ca_reduce 62 = .ok (.lastore, 1) := by decide +kernel
theorem d_Ca_reduce_63 : decode c_Ca_reduce 63 = .ok (.iinc 6 (-1), 3) := by decide +kernel
theorem d_Ca_reduce_66 : decode c_Ca_reduce 66 = .ok (.goto (-60), 3) := by decide +kernel
theorem d_Ca_reduce_69 : decode c_Ca_reduce 69 = .ok (.aload_n 0, 1) := by decide +kernel
theorem d_Ca_reduce_70 : decode c_Ca_reduce 70 = .ok (.getfield 17, 3) := by decide +kernel
theorem d_Ca_reduce_73 : decode c_Ca_reduce 73 = .ok (.iconst 0, 1) := by decide +kernel
theorem d_Ca_reduce_74 : decode c_Ca_reduce 74 = .ok (.dup2, 1) := by decide +kernel
theorem d_Ca_reduce_75 : decode c_Ca_reduce 75 = .ok (.laload, 1) := by decide +kernel
theorem d_Ca_reduce_76 : decode c_Ca_reduce 76 = .ok (.lload 4, 2) := by decide +kernel
theorem d_Ca_reduce_78 : decode c_Ca_reduce 78 = .ok (.ladd, 1) := by decide +kernel
theorem d_Ca_reduce_79 : decode c_Ca_reduce 79 = .ok (.lastore, 1) := by decide +kernel
theorem d_Ca_reduce_80 : decode c_Ca_reduce 80 = .ok (.return_, 1) := by decide +kernel
theorem d_Ca_add_0 : decode c_Ca_add 0 = .ok (.aload_n 1, 1) := by decide +kernel
theorem d_Ca_add_1 : decode c_Ca_add 1 = .ok (.aload_n 2, 1) := by decide +kernel
theorem d_Ca_add_2 : decode c_Ca_add 2 = .ok (.aload_n 3, 1) := by decide +kernel
theorem d_Ca_add_3 : decode c_Ca_add 3 = .ok (.invokestatic 33, 3) := by decide +kernel
theorem d_Ca_add_6 : decode c_Ca_add 6 = .ok (.ifCond .eq 4, 3) := by decide +kernel
theorem d_Ca_add_9 : decode c_Ca_add 9 = .ok (.return_, 1) := by decide +kernel
theorem d_Ca_add_10 : decode c_Ca_add 10 = .ok (.aload_n 3, 1) := by decide +kernel
theorem d_Ca_add_11 : decode c_Ca_add 11 = .ok (.getfield 37, 3) := by decide +kernel
theorem d_Ca_add_14 : decode c_Ca_add 14 = .ok (.iload 4, 2) := by decide +kernel
theorem d_Ca_add_16 : decode c_Ca_add 16 = .ok (.imul, 1) := by decide +kernel
theorem d_Ca_add_17 : decode c_Ca_add 17 = .ok (.istore 5, 2) := by decide +kernel
theorem d_Ca_add_19 : decode c_Ca_add 19 = .ok (.aload_n 2, 1) := by decide +kernel
theorem d_Ca_add_20 : decode c_Ca_add 20 = .ok (.aload_n 3, 1) := by decide +kernel
theorem d_Ca_add_21 : decode c_Ca_add 21 = .ok (.invokevirtual 40, 3) := by decide +kernel
theorem d_Ca_add_24 : decode c_Ca_add 24 = .ok (.ifCond .ge 7, 3) := by decide +kernel
theorem d_Ca_add_27 : decode c_Ca_add 27 = .ok (.iconst 1, 1) := by decide +kernel
theorem d_Ca_add_28 : decode c_Ca_add 28 = .ok (.goto 4, 3) := by decide +kernel
theorem d_Ca_add_31 : decode c_Ca_add 31 = .ok (.iconst 0, 1) := by decide +kernel
theorem d_Ca_add_32 : decode c_Ca_add 32 = .ok (.istore 6, 2) := by decide +kernel
theorem d_Ca_add_34 : decode c_Ca_add 34 = .ok (.aload_n 0, 1) := by decide +kernel
theorem d_Ca_add_35 : decode c_Ca_add 35 = .ok (.getfield 11, 3) := by decide +kernel
theorem d_Ca_add_38 : decode c_Ca_add 38 = .ok (.lconst 0, 1) := by decide +kernel
theorem d_Ca_add_39 : decode c_Ca_add 39 = .ok (.invokestatic 44, 3) := by decide +kernel
theorem d_Ca_add_42 : decode c_Ca_add 42 = .ok (.aload_n 0, 1) := by decide +kernel
theorem d_Ca_add_43 : decode c_Ca_add 43 = .ok (.iload 6, 2) := by decide +kernel
theorem d_Ca_add_45 : decode c_Ca_add 45 = .ok (.ifCond .eq 7, 3) := by decide +kernel
theorem d_Ca_add_48 : decode c_Ca_add 48 = .ok (.aload_n 3, 1) := by decide +kernel
theorem d_Ca_add_49 : decode c_Ca_add 49 = .ok (.goto 4, 3) := by decide +kernel
theorem d_Ca_add_52 : decode c_Ca_add 52 = .ok (.aload_n 2, 1) := by decide +kernel
theorem d_Ca_add_53 : decode c_Ca_add 53 = .ok (.iconst 1, 1) := by decide +kernel
theorem d_Ca_add_54 : decode c_Ca_add 54 = .ok (.invokevirtual 50, 3) := by decide +kernel
theorem d_Ca_add_57 : decode c_Ca_add 57 = .ok (.aload_n 0, 1) := by decide +kernel
theorem d_Ca_add_58 : decode c_Ca_add 58 = .ok (.iload 6, 2) := by decide +kernel
theorem d_Ca_add_60 : decode c_Ca_add 60 = .ok (.ifCond .eq 7, 3) := by decide +kernel
theorem d_Ca_add_63 : decode c_Ca_add 63 = .ok (.aload_n 2, 1) := by decide +kernel
theorem d_Ca_add_64 : decode c_Ca_add 64 = .ok (.goto 4, 3) := by decide +kernel
theorem d_Ca_add_67 : decode c_Ca_add 67 = .ok (.aload_n 3, 1) := by decide +kernel
theorem d_Ca_add_68 : decode c_Ca_add 68 = .ok (.aload_n 2, 1) := by decide +kernel
theorem d_Ca_add_69 : decode c_Ca_add 69 = .ok (.getfield 37, 3) := by decide +kernel
theorem d_Ca_add_72 : decode c_Ca_add 72 = .ok (.iload 5, 2) := by decide +kernel
theorem d_Ca_add_74 : decode c_Ca_add 74 = .ok (.if_icmp .ne 7, 3) := by decide +kernel
theorem d_Ca_add_77 : decode c_Ca_add 77 = .ok (.iconst 1, 1) := by decide +kernel
theorem d_Ca_add_78 : decode c_Ca_add 78 = .ok (.goto 4, 3) := by decide +kernel
theorem d_Ca_add_81 : decode c_Ca_add 81 = .ok (.iconst (-1), 1) := by decide +kernel
theorem d_Ca_add_82 : decode c_Ca_add 82 = .ok (.invokevirtual 50, 3) := by decide +kernel
theorem d_Ca_add_85 : decode c_Ca_add 85 = .ok (.aload_n 0, 1) := by decide +kernel
theorem d_Ca_add_86 : decode c_Ca_add 86 = .ok (.invokevirtual 54, 3) := by decide +kernel
theorem d_Ca_add_89 : decode c_Ca_add 89 = .ok (.aload_n 0, 1) := by decide +kernel
theorem d_Ca_add_90 : decode c_Ca_add 90 = .ok (.aload_n 1, 1) := by decide +kernel
theorem d_Ca_add_91 : decode c_Ca_add 91 = .ok (.iload 6, 2) := by decide +kernel
theorem d_Ca_add_93 : decode c_Ca_add 93 = .ok (.ifCond .eq 8, 3) := by decide +kernel
theorem d_Ca_add_96 : decode c_Ca_add 96 = .ok (.iload 5, 2) := by decide +kernel
theorem d_Ca_add_98 : decode c_Ca_add 98 = .ok (.goto 7, 3) := by decide +kernel
theorem d_Ca_add_101 : decode c_Ca_add 101 = .ok (.aload_n 2, 1) := by decide +kernel
theorem d_Ca_add_102 : decode c_Ca_add 102 = .ok (.getfield 37, 3) := by decide +kernel
theorem d_Ca_add_105 : decode c_Ca_add 105 = .ok (.bipush 103, 2) := by decide +kernel
theorem d_Ca_add_107 : decode c_Ca_add 107 = .ok (.invokevirtual 57, 3) := by decide +kernel
theorem d_Ca_add_110 : decode c_Ca_add 110 = .ok (.return_, 1) := by decide +kernel
theorem d_Ca_place_0 : decode c_Ca_place 0 = .ok (.bipush 103, 2) := by decide +kernel
theorem d_Ca_place_2 : decode c_Ca_place 2 = .ok (.aload_n 1, 1) := by decide +kernel
theorem d_Ca_place_3 : decode c_Ca_place 3 = .ok (.getfield 64, 3) := by decide +kernel
theorem d_Ca_place_6 : decode c_Ca_place 6 = .ok (.isub, 1) := by decide +kernel
theorem d_Ca_place_7 : decode c_Ca_place 7 = .ok (.istore_n 3, 1) := by decide +kernel
theorem d_Ca_place_8 : decode c_Ca_place 8 = .ok (.iload_n 3, 1) := by decide +kernel
theorem d_Ca_place_9 : decode c_Ca_place 9 = .ok (.bipush 8, 2) := by decide +kernel
theorem d_Ca_place_11 : decode c_Ca_place 11 = .ok (.idiv, 1) := by decide +kernel
theorem d_Ca_place_12 : decode c_Ca_place 12 = .ok (.istore 4, 2) := by decide +kernel
theorem d_Ca_place_14 : decode c_Ca_place 14 = .ok (.iload_n 3, 1) := by decide +kernel
theorem d_Ca_place_15 : decode c_Ca_place 15 = .ok (.ifCond .lt 12, 3) := by decide +kernel
theorem d_Ca_place_18 : decode c_Ca_place 18 = .ok (.iload 4, 2) := by decide +kernel
theorem d_Ca_place_20 : decode c_Ca_place 20 = .ok (.iconst 4, 1) := by decide +kernel
theorem d_Ca_place_21 : decode c_Ca_place 21 = .ok (.iadd, 1) := by decide +kernel
theorem d_Ca_place_22 : decode c_Ca_place 22 = .ok (.bipush 30, 2) := by decide +kernel
theorem d_Ca_place_24 : decode c_Ca_place 24 = .ok (.if_icmp .lt 4, 3) := by decide +kernel
theorem d_Ca_place_27 : decode c_Ca_place 27 = .ok (.return_, 1) := by decide +kernel
theorem d_Ca_place_28 : decode c_Ca_place 28 = .ok (.iload_n 3, 1) := by decide +kernel
theorem d_Ca_place_29 : decode c_Ca_place 29 = .ok (.bipush 8, 2) := by decide +kernel
theorem d_Ca_place_31 : decode c_Ca_place 31 = .ok (.irem, 1) := by decide +kernel
theorem d_Ca_place_32 : decode c_Ca_place 32 = .ok (.invokestatic 112, 3) := by decide +kernel
theorem d_Ca_place_35 : decode c_Ca_place 35 = .ok (.lstore 5, 2) := by decide +kernel
theorem d_Ca_place_37 : decode c_Ca_place 37 = .ok (.ldc2_w 115, 3) := by decide +kernel
theorem d_Ca_place_40 : decode c_Ca_place 40 = .ok (.lload 5, 2) := by decide +kernel
theorem d_Ca_place_42 : decode c_Ca_place 42 = .ok (.ldiv, 1) := by decide +kernel
theorem d_Ca_place_43 : decode c_Ca_place 43 = .ok (.lstore 7, 2) := by decide +kernel
theorem d_Ca_place_45 : decode c_Ca_place 45 = .ok (.iconst 0, 1) := by decide +kernel
theorem d_Ca_place_46 : decode c_Ca_place 46 = .ok (.istore 9, 2) := by decide +kernel
theorem d_Ca_place_48 : decode c_Ca_place 48 = .ok (.iload 9, 2) := by decide +kernel
theorem d_Ca_place_50 : decode c_Ca_place 50 = .ok (.iconst 4, 1) := by decide +kernel
theorem d_Ca_place_51 : decode c_Ca_place 51 = .ok (.if_icmp .ge 66, 3) := by decide +kernel
theorem d_Ca_place_54 : decode c_Ca_place 54 = .ok (.aload_n 0, 1) := by decide +kernel
theorem d_Ca_place_55 : decode c_Ca_place 55 = .ok (.getfield 11, 3) := by decide +kernel
theorem d_Ca_place_58 : decode c_Ca_place 58 = .ok (.iload 4, 2) := by decide +kernel
theorem d_Ca_place_60 : decode c_Ca_place 60 = .ok (.iload 9, 2) := by decide +kernel
theorem d_Ca_place_62 : decode c_Ca_place 62 = .ok (.iadd, 1) := by decide +kernel
theorem d_Ca_place_63 : decode c_Ca_place 63 = .ok (.dup2, 1) := by decide +kernel
theorem d_Ca_place_64 : decode c_Ca_place 64 = .ok (.laload, 1) := by decide +kernel
theorem d_Ca_place_65 : decode c_Ca_place 65 = .ok (.iload_n 2, 1) := by decide +kernel
theorem d_Ca_place_66 : decode c_Ca_place 66 = .ok (.i2l, 1) := by decide +kernel
theorem d_Ca_place_67 : decode c_Ca_place 67 = .ok (.aload_n 1, 1) := by decide +kernel
theorem d_Ca_place_68 : decode c_Ca_place 68 = .ok (.getfield 61, 3) := by decide +kernel
theorem d_Ca_place_71 : decode c_Ca_place 71 = .ok (.iload 9, 2) := by decide +kernel
theorem d_Ca_place_73 : decode c_Ca_place 73 = .ok (.laload, 1) := by decide +kernel
theorem d_Ca_place_74 : decode c_Ca_place 74 = .ok (.lload 5, 2) := by decide +kernel
theorem d_Ca_place_76 : decode c_Ca_place 76 = .ok (.ldiv, 1) := by decide +kernel
theorem d_Ca_place_77 : decode c_Ca_place 77 = .ok (.lmul, 1) := by decide +kernel
theorem d_Ca_place_78 : decode c_Ca_place 78 = .ok (.ladd, 1) := by decide +kernel
theorem d_Ca_place_79 : decode c_Ca_place 79 = .ok (.lastore, 1) := by decide +kernel
theorem d_Ca_place_80 : decode c_Ca_place 80 = .ok (.aload_n 0, 1) := by decide +kernel
theorem d_Ca_place_81 : decode c_Ca_place 81 = .ok (.getfield 11, 3) := by decide +kernel
theorem d_Ca_place_84 : decode c_Ca_place 84 = .ok (.iload 4, 2) := by decide +kernel
theorem d_Ca_place_86 : decode c_Ca_place 86 = .ok (.iload 9, 2) := by decide +kernel
theorem d_Ca_place_88 : decode c_Ca_place 88 = .ok (.iadd, 1) := by decide +kernel
theorem d_Ca_place_89 : decode c_Ca_place 89 = .ok (.iconst 1, 1) := by decide +kernel
theorem d_Ca_place_90 : decode c_Ca_place 90 = .ok (.iadd, 1) := by decide +kernel
theorem d_Ca_place_91 : decode c_Ca_place 91 = .ok (.dup2, 1) := by decide +kernel
theorem d_Ca_place_92 : decode c_Ca_place 92 = .ok (.laload, 1) := by decide +kernel
theorem d_Ca_place_93 : decode c_Ca_place 93 = .ok (.iload_n 2, 1) := by decide +kernel
theorem d_Ca_place_94 : decode c_Ca_place 94 = .ok (.i2l, 1) := by decide +kernel
theorem d_Ca_place_95 : decode c_Ca_place 95 = .ok (.aload_n 1, 1) := by decide +kernel
theorem d_Ca_place_96 : decode c_Ca_place 96 = .ok (.getfield 61, 3) := by decide +kernel
theorem d_Ca_place_99 : decode c_Ca_place 99 = .ok (.iload 9, 2) := by decide +kernel
theorem d_Ca_place_101 : decode c_Ca_place 101 = .ok (.laload, 1) := by decide +kernel
theorem d_Ca_place_102 : decode c_Ca_place 102 = .ok (.lload 5, 2) := by decide +kernel
theorem d_Ca_place_104 : decode c_Ca_place 104 = .ok (.lrem, 1) := by decide +kernel
theorem d_Ca_place_105 : decode c_Ca_place 105 = .ok (.lload 7, 2) := by decide +kernel
theorem d_Ca_place_107 : decode c_Ca_place 107 = .ok (.lmul, 1) := by decide +kernel
theorem d_Ca_place_108 : decode c_Ca_place 108 = .ok (.lmul, 1) := by decide +kernel
theorem d_Ca_place_109 : decode c_Ca_place 109 = .ok (.ladd, 1) := by decide +kernel
theorem d_Ca_place_110 : decode c_Ca_place 110 = .ok (.lastore, 1) := by decide +kernel
theorem d_Ca_place_111 : decode c_Ca_place 111 = .ok (.iinc 9 1, 3) := by decide +kernel
theorem d_Ca_place_114 : decode c_Ca_place 114 = .ok (.goto (-66), 3) := by decide +kernel
theorem d_Ca_place_117 : decode c_Ca_place 117 = .ok (.return_, 1) := by decide +kernel
end
section
theorem d_Lw_cell_0 : decode c_Lw_cell 0 = .ok (.iload_n 1, 1) := by decide +kernel
theorem d_Lw_cell_1 : decode c_Lw_cell 1 = .ok (.aload_n 0, 1) := by decide +kernel
theorem d_Lw_cell_2 : decode c_Lw_cell 2 = .ok (.arraylength, 1) := by decide +kernel
theorem d_Lw_cell_3 : decode c_Lw_cell 3 = .ok (.if_icmp .ge 9, 3) := by decide +kernel
theorem d_Lw_cell_6 : decode c_Lw_cell 6 = .ok (.aload_n 0, 1) := by decide +kernel
theorem d_Lw_cell_7 : decode c_Lw_cell 7 = .ok (.iload_n 1, 1) := by decide +kernel
theorem d_Lw_cell_8 : decode c_Lw_cell 8 = .ok (.iaload, 1) := by decide +kernel
theorem d_Lw_cell_9 : decode c_Lw_cell 9 = .ok (.goto 4, 3) := by decide +kernel
theorem d_Lw_cell_12 : decode c_Lw_cell 12 = .ok (.iconst 0, 1) := by decide +kernel
theorem d_Lw_cell_13 : decode c_Lw_cell 13 = .ok (.ireturn, 1) := by decide +kernel
theorem d_Ar_fill_0 : decode c_Ar_fill 0 = .ok (.iconst 0, 1) := by decide +kernel
theorem d_Ar_fill_1 : decode c_Ar_fill 1 = .ok (.istore_n 3, 1) := by decide +kernel
theorem d_Ar_fill_2 : decode c_Ar_fill 2 = .ok (.aload_n 0, 1) := by decide +kernel
theorem d_Ar_fill_3 : decode c_Ar_fill 3 = .ok (.arraylength, 1) := by decide +kernel
theorem d_Ar_fill_4 : decode c_Ar_fill 4 = .ok (.istore 4, 2) := by decide +kernel
theorem d_Ar_fill_6 : decode c_Ar_fill 6 = .ok (.iload_n 3, 1) := by decide +kernel
theorem d_Ar_fill_7 : decode c_Ar_fill 7 = .ok (.iload 4, 2) := by decide +kernel
theorem d_Ar_fill_9 : decode c_Ar_fill 9 = .ok (.if_icmp .ge 13, 3) := by decide +kernel
theorem d_Ar_fill_12 : decode c_Ar_fill 12 = .ok (.aload_n 0, 1) := by decide +kernel
theorem d_Ar_fill_13 : decode c_Ar_fill 13 = .ok (.iload_n 3, 1) := by decide +kernel
theorem d_Ar_fill_14 : decode c_Ar_fill 14 = .ok (.lload_n 1, 1) := by decide +kernel
theorem d_Ar_fill_15 : decode c_Ar_fill 15 = .ok (.lastore, 1) := by decide +kernel
theorem d_Ar_fill_16 : decode c_Ar_fill 16 = .ok (.iinc 3 1, 3) := by decide +kernel
theorem d_Ar_fill_19 : decode c_Ar_fill 19 = .ok (.goto (-13), 3) := by decide +kernel
theorem d_Ar_fill_22 : decode c_Ar_fill 22 = .ok (.return_, 1) := by decide +kernel
theorem d_In_compare_0 : decode c_In_compare 0 = .ok (.iload_n 0, 1) := by decide +kernel
theorem d_In_compare_1 : decode c_In_compare 1 = .ok (.iload_n 1, 1) := by decide +kernel
theorem d_In_compare_2 : decode c_In_compare 2 = .ok (.if_icmp .ge 7, 3) := by decide +kernel
theorem d_In_compare_5 : decode c_In_compare 5 = .ok (.iconst (-1), 1) := by decide +kernel
theorem d_In_compare_6 : decode c_In_compare 6 = .ok (.goto 13, 3) := by decide +kernel
theorem d_In_compare_9 : decode c_In_compare 9 = .ok (.iload_n 0, 1) := by decide +kernel
theorem d_In_compare_10 : decode c_In_compare 10 = .ok (.iload_n 1, 1) := by decide +kernel
theorem d_In_compare_11 : decode c_In_compare 11 = .ok (.if_icmp .ne 7, 3) := by decide +kernel
theorem d_In_compare_14 : decode c_In_compare 14 = .ok (.iconst 0, 1) := by decide +kernel
theorem d_In_compare_15 : decode c_In_compare 15 = .ok (.goto 4, 3) := by decide +kernel
theorem d_In_compare_18 : decode c_In_compare 18 = .ok (.iconst 1, 1) := by decide +kernel
theorem d_In_compare_19 : decode c_In_compare 19 = .ok (.ireturn, 1) := by decide +kernel
theorem d_Lo_compare_0 : decode c_Lo_compare 0 = .ok (.lload_n 0, 1) := by decide +kernel
theorem d_Lo_compare_1 : decode c_Lo_compare 1 = .ok (.lload_n 2, 1) := by decide +kernel
theorem d_Lo_compare_2 : decode c_Lo_compare 2 = .ok (.lcmp, 1) := by decide +kernel
theorem d_Lo_compare_3 : decode c_Lo_compare 3 = .ok (.ifCond .ge 7, 3) := by decide +kernel
theorem d_Lo_compare_6 : decode c_Lo_compare 6 = .ok (.iconst (-1), 1) := by decide +kernel
theorem d_Lo_compare_7 : decode c_Lo_compare 7 = .ok (.goto 14, 3) := by decide +kernel
theorem d_Lo_compare_10 : decode c_Lo_compare 10 = .ok (.lload_n 0, 1) := by decide +kernel
theorem d_Lo_compare_11 : decode c_Lo_compare 11 = .ok (.lload_n 2, 1) := by decide +kernel
theorem d_Lo_compare_12 : decode c_Lo_compare 12 = .ok (.lcmp, 1) := by decide +kernel
theorem d_Lo_compare_13 : decode c_Lo_compare 13 = .ok (.ifCond .ne 7, 3) := by decide +kernel
theorem d_Lo_compare_16 : decode c_Lo_compare 16 = .ok (.iconst 0, 1) := by decide +kernel
theorem d_Lo_compare_17 : decode c_Lo_compare 17 = .ok (.goto 4, 3) := by decide +kernel
theorem d_Lo_compare_20 : decode c_Lo_compare 20 = .ok (.iconst 1, 1) := by decide +kernel
theorem d_Lo_compare_21 : decode c_Lo_compare 21 = .ok (.ireturn, 1) := by decide +kernel
theorem d_Ma_min_0 : decode c_Ma_min 0 = .ok (.iload_n 0, 1) := by decide +kernel
theorem d_Ma_min_1 : decode c_Ma_min 1 = .ok (.iload_n 1, 1) := by decide +kernel
theorem d_Ma_min_2 : decode c_Ma_min 2 = .ok (.if_icmp .gt 7, 3) := by decide +kernel
theorem d_Ma_min_5 : decode c_Ma_min 5 = .ok (.iload_n 0, 1) := by decide +kernel
theorem d_Ma_min_6 : decode c_Ma_min 6 = .ok (.goto 4, 3) := by decide +kernel
theorem d_Ma_min_9 : decode c_Ma_min 9 = .ok (.iload_n 1, 1) := by decide +kernel
theorem d_Ma_min_10 : decode c_Ma_min 10 = .ok (.ireturn, 1) := by decide +kernel
theorem d_Ma_max_0 : decode c_Ma_max 0 = .ok (.iload_n 0, 1) := by decide +kernel
theorem d_Ma_max_1 : decode c_Ma_max 1 = .ok (.iload_n 1, 1) := by decide +kernel
theorem d_Ma_max_2 : decode c_Ma_max 2 = .ok (.if_icmp .lt 7, 3) := by decide +kernel
theorem d_Ma_max_5 : decode c_Ma_max 5 = .ok (.iload_n 0, 1) := by decide +kernel
theorem d_Ma_max_6 : decode c_Ma_max 6 = .ok (.goto 4, 3) := by decide +kernel
theorem d_Ma_max_9 : decode c_Ma_max 9 = .ok (.iload_n 1, 1) := by decide +kernel
theorem d_Ma_max_10 : decode c_Ma_max 10 = .ok (.ireturn, 1) := by decide +kernel
theorem d_Ma_abs_0 : decode c_Ma_abs 0 = .ok (.lload_n 0, 1) := by decide +kernel
theorem d_Ma_abs_1 : decode c_Ma_abs 1 = .ok (.lconst 0, 1) := by decide +kernel
theorem d_Ma_abs_2 : decode c_Ma_abs 2 = .ok (.lcmp, 1) := by decide +kernel
theorem d_Ma_abs_3 : decode c_Ma_abs 3 = .ok (.ifCond .ge 8, 3) := by decide +kernel
theorem d_Ma_abs_6 : decode c_Ma_abs 6 = .ok (.lload_n 0, 1) := by decide +kernel
theorem d_Ma_abs_7 : decode c_Ma_abs 7 = .ok (.lneg, 1) := by decide +kernel
theorem d_Ma_abs_8 : decode c_Ma_abs 8 = .ok (.goto 4, 3) := by decide +kernel
theorem d_Ma_abs_11 : decode c_Ma_abs 11 = .ok (.lload_n 0, 1) := by decide +kernel
theorem d_Ma_abs_12 : decode c_Ma_abs 12 = .ok (.lreturn, 1) := by decide +kernel
theorem d_Ma_abs2_0 : decode c_Ma_abs2 0 = .ok (.iload_n 0, 1) := by decide +kernel
theorem d_Ma_abs2_1 : decode c_Ma_abs2 1 = .ok (.ifCond .ge 8, 3) := by decide +kernel
theorem d_Ma_abs2_4 : decode c_Ma_abs2 4 = .ok (.iload_n 0, 1) := by decide +kernel
theorem d_Ma_abs2_5 : decode c_Ma_abs2 5 = .ok (.ineg, 1) := by decide +kernel
theorem d_Ma_abs2_6 : decode c_Ma_abs2 6 = .ok (.goto 4, 3) := by decide +kernel
theorem d_Ma_abs2_9 : decode c_Ma_abs2 9 = .ok (.iload_n 0, 1) := by decide +kernel
theorem d_Ma_abs2_10 : decode c_Ma_abs2 10 = .ok (.ireturn, 1) := by decide +kernel
theorem d_Ma_floorDiv_0 : decode c_Ma_floorDiv 0 = .ok (.lload_n 0, 1) := by decide +kernel
theorem d_Ma_floorDiv_1 : decode c_Ma_floorDiv 1 = .ok (.lload_n 2, 1) := by decide +kernel
theorem d_Ma_floorDiv_2 : decode c_Ma_floorDiv 2 = .ok (.ldiv, 1) := by decide +kernel
theorem d_Ma_floorDiv_3 : decode c_Ma_floorDiv 3 = .ok (.lstore 4, 2) := by decide +kernel
theorem d_Ma_floorDiv_5 : decode c_Ma_floorDiv 5 = .ok (.lload_n 0, 1) := by decide +kernel
theorem d_Ma_floorDiv_6 : decode c_Ma_floorDiv 6 = .ok (.lload_n 2, 1) := by decide +kernel
theorem d_Ma_floorDiv_7 : decode c_Ma_floorDiv 7 = .ok (.lxor, 1) := by decide +kernel
theorem d_Ma_floorDiv_8 : decode c_Ma_floorDiv 8 = .ok (.lconst 0, 1) := by decide +kernel
theorem d_Ma_floorDiv_9 : decode c_Ma_floorDiv 9 = .ok (.lcmp, 1) := by decide +kernel
theorem d_Ma_floorDiv_10 : decode c_Ma_floorDiv 10 = .ok (.ifCond .ge 17, 3) := by decide +kernel
theorem d_Ma_floorDiv_13 : decode c_Ma_floorDiv 13 = .ok (.lload 4, 2) := by decide +kernel
theorem d_Ma_floorDiv_15 : decode c_Ma_floorDiv 15 = .ok (.lload_n 2, 1) := by decide +kernel
theorem d_Ma_floorDiv_16 : decode c_Ma_floorDiv 16 = .ok (.lmul, 1) := by decide +kernel
theorem d_Ma_floorDiv_17 : decode c_Ma_floorDiv 17 = .ok (.lload_n 0, 1) := by decide +kernel
theorem d_Ma_floorDiv_18 : decode c_Ma_floorDiv 18 = .ok (.lcmp, 1) := by decide +kernel
theorem d_Ma_floorDiv_19 : decode c_Ma_floorDiv 19 = .ok (.ifCond .eq 8, 3) := by decide +kernel
theorem d_Ma_floorDiv_22 : decode c_Ma_floorDiv 22 = .ok (.lload 4, 2) := by decide +kernel
theorem d_Ma_floorDiv_24 : decode c_Ma_floorDiv 24 = .ok (.lconst 1, 1) := by decide +kernel
theorem d_Ma_floorDiv_25 : decode c_Ma_floorDiv 25 = .ok (.lsub, 1) := by decide +kernel
theorem d_Ma_floorDiv_26 : decode c_Ma_floorDiv 26 = .ok (.lreturn, 1) := by decide +kernel
theorem d_Ma_floorDiv_27 : decode c_Ma_floorDiv 27 = .ok (.lload 4, 2) := by decide +kernel
theorem d_Ma_floorDiv_29 : decode c_Ma_floorDiv 29 = .ok (.lreturn, 1) := by decide +kernel
theorem d_Ma_max2_0 : decode c_Ma_max2 0 = .ok (.lload_n 0, 1) := by decide +kernel
theorem d_Ma_max2_1 : decode c_Ma_max2 1 = .ok (.lload_n 2, 1) := by decide +kernel
theorem d_Ma_max2_2 : decode c_Ma_max2 2 = .ok (.lcmp, 1) := by decide +kernel
theorem d_Ma_max2_3 : decode c_Ma_max2 3 = .ok (.ifCond .lt 7, 3) := by decide +kernel
theorem d_Ma_max2_6 : decode c_Ma_max2 6 = .ok (.lload_n 0, 1) := by decide +kernel
theorem d_Ma_max2_7 : decode c_Ma_max2 7 = .ok (.goto 4, 3) := by decide +kernel
theorem d_Ma_max2_10 : decode c_Ma_max2 10 = .ok (.lload_n 2, 1) := by decide +kernel
theorem d_Ma_max2_11 : decode c_Ma_max2 11 = .ok (.lreturn, 1) := by decide +kernel
end
section
-- THE REFERENCE'S STATE (own work): scalars V by the field's number, arrays M by the array's number, at addresses ad 0 (the object), ad 1 .. ad 16
abbrev tysA (cs : Nat → ClassId) : List (ClassId × FieldType) := [(cs 0, .int), (cs 1, .long), (cs 2, .boolean), (cs 3, .object "ArithmeticForms$Decimal"), (cs 4, .object "ArithmeticForms$Receiver")]
def moLen (k : Nat) : Nat := match k with
  | 1 => 2240
  | 2 => 7
  | 3 => 7
  | 4 => 7
  | 5 => 40
  | 6 => 3131
  | 7 => 101
  | 8 => 101
  | 9 => 101
  | 10 => 101
  | _ => 21
theorem moLen_lt (k : Nat) : moLen k < 2147483648 := by unfold moLen; split <;> decide
abbrev moCell (ad : Nat → Nat) (V : Nat → Int) : va_E := oE 4 [.int (iN (V 0)), .int (iN (V 1)), .ref (ad 1), .ref (ad 2), .ref (ad 3), .ref (ad 4), .ref (ad 5), .ref (ad 6), .ref (ad 7), .ref (ad 8), .ref (ad 9), .ref (ad 10), .int (iN (V 12)), .int (iN (V 13)), .int (iN (V 14)), .ref (ad 11), .ref (ad 12), .ref (ad 13), .ref (ad 14), .ref (ad 15), .ref (ad 16), .long (jN (V 21)), .int (iN (V 22))]
def uI (F : Int → Int) (i x : Int) : Int → Int := fun q => if q = i then x else F q
theorem uI_s {F : Int → Int} {i x : Int} : uI F i x i = x := by simp [uI]
theorem uI_n {F : Int → Int} {i j x : Int} (h : j ≠ i) : uI F i x j = F j := by simp [uI, h]
theorem uF_I {F : Int → Int} {i x : Int} (h : 0 ≤ i) : uF (fun j : Nat => F (j : Int)) i.toNat x = fun j : Nat => uI F i x (j : Int) := by
  funext j
  unfold uF uI
  by_cases hj : j = i.toNat
  · rw [if_pos hj, if_pos (by omega)]
  · rw [if_neg hj, if_neg (by omega)]
def moArr (cs : Nat → ClassId) (k : Nat) (F : Int → Int) : va_E := if k ≤ 13 then iE (cs 0) (moLen k) (fun j => F (j : Int)) else if k ≤ 15 then jE (cs 1) (moLen k) (fun j => F (j : Int)) else iE (cs 2) (moLen k) (fun j => F (j : Int))
def moS (cs : Nat → ClassId) (μ : fm_Mu) (ad : Nat → Nat) (V : Nat → Int) (M : Nat → Int → Int) : Prop := (∀ i j, i ≤ 16 → j ≤ 16 → ad i = ad j → i = j) ∧ μ (ad 0) = some (moCell ad V) ∧ ∀ k, 1 ≤ k → k ≤ 16 → μ (ad k) = some (moArr cs k (M k))
abbrev moL (ad : Nat → Nat) : List Nat := (List.range 17).map ad
theorem moL_in {ad : Nat → Nat} {k : Nat} (h : k ≤ 16) : ad k ∈ moL ad := List.mem_map.mpr ⟨k, List.mem_range.mpr (by omega), rfl⟩
def setA (M : Nat → Int → Int) (k : Nat) (i x : Int) : Nat → Int → Int := fun j => if j = k then uI (M j) i x else M j
theorem setA_s (M : Nat → Int → Int) (k : Nat) (i x : Int) : setA M k i x k = uI (M k) i x := by simp [setA]
theorem setA_n {M : Nat → Int → Int} {k j : Nat} {i x : Int} (h : j ≠ k) : setA M k i x j = M j := by simp [setA, h]
/-- the reference's state on the way: V, M at this heap, nothing else changed since μ0 -/
def moW (D : va_G) (A : Nat → Prop) (H0 : Heap) (μ0 : fm_Mu) (cs : Nat → ClassId) (ad : Nat → Nat) (V : Nat → Int) (M : Nat → Int → Int) (H : Heap) (locs : List Loc) : Prop := ∃ μ, fm_W D clsA A H0 μ H locs ∧ moS cs μ ad V M ∧ fm_O μ0 μ (moL ad)
def moQv (D : va_G) (cs : Nat → ClassId) (ad : Nat → Nat) (μ : fm_Mu) (sz : Nat) (P : (Nat → Int) → (Nat → Int → Int) → Prop) : Array Value → State → Outcome → State → Prop := fm_Qv D clsA (tysA cs) μ sz (fun μ' => ∃ V' M', P V' M' ∧ moS cs μ' ad V' M' ∧ fm_O μ μ' (moL ad))
def moQi (D : va_G) (cs : Nat → ClassId) (ad : Nat → Nat) (μ : fm_Mu) (sz : Nat) (P : Int → (Nat → Int) → (Nat → Int → Int) → Prop) : Array Value → State → Outcome → State → Prop := fm_Qi D clsA (tysA cs) μ sz (fun x μ' => ∃ V' M', P x V' M' ∧ moS cs μ' ad V' M' ∧ fm_O μ μ' (moL ad))
def moQl (D : va_G) (cs : Nat → ClassId) (ad : Nat → Nat) (μ : fm_Mu) (sz : Nat) (P : Int → (Nat → Int) → (Nat → Int → Int) → Prop) : Array Value → State → Outcome → State → Prop := fm_Ql D clsA (tysA cs) μ sz (fun x μ' => ∃ V' M', P x V' M' ∧ moS cs μ' ad V' M' ∧ fm_O μ μ' (moL ad))
section MoRows
variable {p : Program} {l : Launch} {e : Env} {R : Room} {s : State} {m : MethodId} {args : Array Value} {below : List Frame} {meth : Method} {c : Code} {H H0 : Heap} {locs : List Loc} {cells slots : Nat} {Q : State → Prop} {cc : ByteArray} {pc nL : Nat} {ls : Array Slot} {rest st0 : List Value} {own : String} {D : va_G} {A : Nat → Prop} {μ μ0 : fm_Mu} {cs : Nat → ClassId} {ad : Nat → Nat} {V : Nat → Int} {M : Nat → Int → Int} {Z : (Nat → Prop) → State → Heap → Prop}
theorem moS.put {μ' : fm_Mu} {k : Nat} {F : Int → Int} (h : moS cs μ ad V M) (hk : 1 ≤ k ∧ k ≤ 16) (h1 : μ' (ad k) = some (moArr cs k F)) (h2 : fm_O μ μ' [ad k]) {M' : Nat → Int → Int} (hs : M' k = F) (hn : ∀ j, j ≠ k → M' j = M j) : moS cs μ' ad V M' := by
  have hne : ∀ j, j ≤ 16 → j ≠ k → ad j ∉ [ad k] := fun j hj hjk hm => hjk (h.1 j k hj hk.2 (List.mem_singleton.mp hm))
  refine ⟨h.1, h2.at (hne 0 (by omega) (by omega)) h.2.1, fun j h3 h4 => ?_⟩
  by_cases hjk : j = k
  · subst hjk
    rw [hs]
    exact h1
  · rw [hn j hjk]
    exact h2.at (hne j h4 hjk) (h.2.2 j h3 h4)
theorem moS.scal {μ' : fm_Mu} {V' : Nat → Int} (h : moS cs μ ad V M) (h1 : μ' (ad 0) = some (moCell ad V')) (h2 : fm_O μ μ' [ad 0]) : moS cs μ' ad V' M :=
  ⟨h.1, h1, fun j h3 h4 => h2.at (fun hm => absurd (h.1 j 0 h4 (by omega) (List.mem_singleton.mp hm)) (by omega)) (h.2.2 j h3 h4)⟩
theorem moO1 {k : Nat} (hk : k ≤ 16) {μ1 μ2 : fm_Mu} (h : fm_O μ0 μ1 (moL ad)) (h2 : fm_O μ1 μ2 [ad k]) : fm_O μ0 μ2 (moL ad) := h.tr (h2.mono (fun q hq => by rw [List.mem_singleton.mp hq]; exact moL_in hk))
theorem mo_get {v : Value} {index : Nat} (k : Nat) (S : CallFix p m c cc nL s args wA "ArithmeticFormsModel") (hK : va_K D clsA (tysA cs) s) (hm : moW D A H0 μ0 cs ad V M H locs) (hk : k < 23) (hlink : (Cond.fieldLink "ArithmeticFormsModel" index "ArithmeticFormsModel" (T_Mo k).2.1 (T_Mo k).2.2.1) ∈ wA) (hd : (T_Mo k).1 = "ArithmeticFormsModel") (hv : [Value.int (iN (V 0)), .int (iN (V 1)), .ref (ad 1), .ref (ad 2), .ref (ad 3), .ref (ad 4), .ref (ad 5), .ref (ad 6), .ref (ad 7), .ref (ad 8), .ref (ad 9), .ref (ad 10), .int (iN (V 12)), .int (iN (V 13)), .int (iN (V 14)), .ref (ad 11), .ref (ad 12), .ref (ad 13), .ref (ad 14), .ref (ad 15), .ref (ad 16), .long (jN (V 21)), .int (iN (V 22))][k]? = some v) (hdg : decode cc pc = .ok (.getfield index, 3)) (kk : W p l e R s m args below meth c H locs cells slots Q (F0 m (pc + 3) ls (v :: rest))) : W p l e R s m args below meth c H locs cells slots Q (F0 m pc ls (.ref (ad 0) :: rest)) := by
  obtain ⟨μ, hw, hM, hO⟩ := hm
  exact fm_get S hK hw hM.2.1 i_Mo rfl k hk (S.2.2.2.2 _ hlink) (fun x hx => by rw [hd] at hx; exact hx) hv hdg kk
theorem mo_iald {i : Int} (k : Nat) (S : CallFix p m c cc nL s args wA own) (hK : va_K D clsA (tysA cs) s) (hm : moW D A H0 μ0 cs ad V M H locs) (hk : 1 ≤ k ∧ k ≤ 13) (hi : 0 ≤ i ∧ i < (moLen k : Int)) (hdg : decode cc pc = .ok (.iaload, 1)) (kk : W p l e R s m args below meth c H locs cells slots Q (F0 m (pc + 1) ls (.int (iN (M k i)) :: rest))) : W p l e R s m args below meth c H locs cells slots Q (F0 m pc ls (.int (iN i) :: .ref (ad k) :: rest)) := by
  obtain ⟨μ, hw, hM, hO⟩ := hm
  have e := hM.2.2 k hk.1 (by omega)
  rw [moArr, if_pos hk.2] at e
  exact fm_iald S hK hw e 0 rfl ⟨hi.1, hi.2, moLen_lt k⟩ hdg (by rw [Int.toNat_of_nonneg hi.1]; exact kk)
theorem mo_iast {i x : Int} (k : Nat) (S : CallFix p m c cc nL s args wA own) (hK : va_K D clsA (tysA cs) s) (hm : moW D A H0 μ0 cs ad V M H locs) (hk : 1 ≤ k ∧ k ≤ 13) (hi : 0 ≤ i ∧ i < (moLen k : Int)) (hdg : decode cc pc = .ok (.iastore, 1)) (kk : ∀ (M' : Nat → Int → Int) (H1 : Heap) (locs1 : List Loc), M' = setA M k i x → moW D A H0 μ0 cs ad V M' H1 locs1 → W p l e R s m args below meth c H1 locs1 cells slots Q (F0 m (pc + 1) ls rest)) : W p l e R s m args below meth c H locs cells slots Q (F0 m pc ls (.int (iN x) :: .int (iN i) :: .ref (ad k) :: rest)) := by
  obtain ⟨μ, hw, hM, hO⟩ := hm
  have e := hM.2.2 k hk.1 (by omega)
  rw [moArr, if_pos hk.2] at e
  refine fm_iast S hK hw e 0 rfl ⟨hi.1, hi.2, moLen_lt k⟩ hdg (fun μ' H1 locs1 hw1 h1 h2 => ?_)
  rw [uF_I hi.1] at h1
  exact kk _ H1 locs1 rfl ⟨μ', hw1, hM.put ⟨hk.1, by omega⟩ (by rw [moArr, if_pos hk.2]; exact h1) h2 (setA_s _ _ _ _) (fun j hj => setA_n hj), moO1 (by omega) hO h2⟩
theorem mo_lald {i : Int} (k : Nat) (S : CallFix p m c cc nL s args wA own) (hK : va_K D clsA (tysA cs) s) (hm : moW D A H0 μ0 cs ad V M H locs) (hk : 14 ≤ k ∧ k ≤ 15) (hi : 0 ≤ i ∧ i < (moLen k : Int)) (hdg : decode cc pc = .ok (.laload, 1)) (kk : W p l e R s m args below meth c H locs cells slots Q (F0 m (pc + 1) ls (.long (jN (M k i)) :: rest))) : W p l e R s m args below meth c H locs cells slots Q (F0 m pc ls (.int (iN i) :: .ref (ad k) :: rest)) := by
  obtain ⟨μ, hw, hM, hO⟩ := hm
  have e := hM.2.2 k (by omega) (by omega)
  rw [moArr, if_neg (by omega), if_pos hk.2] at e
  exact fm_lald S hK hw e 1 rfl ⟨hi.1, hi.2, moLen_lt k⟩ hdg (by rw [Int.toNat_of_nonneg hi.1]; exact kk)
theorem mo_last {i x : Int} (k : Nat) (S : CallFix p m c cc nL s args wA own) (hK : va_K D clsA (tysA cs) s) (hm : moW D A H0 μ0 cs ad V M H locs) (hk : 14 ≤ k ∧ k ≤ 15) (hi : 0 ≤ i ∧ i < (moLen k : Int)) (hdg : decode cc pc = .ok (.lastore, 1)) (kk : ∀ (M' : Nat → Int → Int) (H1 : Heap) (locs1 : List Loc), M' = setA M k i x → moW D A H0 μ0 cs ad V M' H1 locs1 → W p l e R s m args below meth c H1 locs1 cells slots Q (F0 m (pc + 1) ls rest)) : W p l e R s m args below meth c H locs cells slots Q (F0 m pc ls (.long (jN x) :: .int (iN i) :: .ref (ad k) :: rest)) := by
  obtain ⟨μ, hw, hM, hO⟩ := hm
  have e := hM.2.2 k (by omega) (by omega)
  rw [moArr, if_neg (by omega), if_pos hk.2] at e
  refine fm_last S hK hw e 1 rfl ⟨hi.1, hi.2, moLen_lt k⟩ hdg (fun μ' H1 locs1 hw1 h1 h2 => ?_)
  rw [uF_I hi.1] at h1
  exact kk _ H1 locs1 rfl ⟨μ', hw1, hM.put ⟨by omega, by omega⟩ (by rw [moArr, if_neg (by omega), if_pos hk.2]; exact h1) h2 (setA_s _ _ _ _) (fun j hj => setA_n hj), moO1 (by omega) hO h2⟩
theorem mo_zald {i : Int} (S : CallFix p m c cc nL s args wA own) (hK : va_K D clsA (tysA cs) s) (hm : moW D A H0 μ0 cs ad V M H locs) (hi : 0 ≤ i ∧ i < 21) (hdg : decode cc pc = .ok (.baload, 1)) (kk : W p l e R s m args below meth c H locs cells slots Q (F0 m (pc + 1) ls (.int (iN (M 16 i)) :: rest))) : W p l e R s m args below meth c H locs cells slots Q (F0 m pc ls (.int (iN i) :: .ref (ad 16) :: rest)) := by
  obtain ⟨μ, ⟨⟨ws, h1, h2, hP, hD⟩, hS⟩, hM, hO⟩ := hm
  obtain ⟨q0, hq⟩ := h1 _ _ (hM.2.2 16 (by omega) (by omega))
  exact va_zald S.1 S.2.1 hK hP q0 2 hq rfl (iN_vin hi.1 (n := 21) hi.2 (by omega)) hdg (by rw [iN_cl hi.1 (by omega)]; dsimp only; rw [Int.toNat_of_nonneg hi.1]; exact kk)
theorem mo_zast {i x : Int} (S : CallFix p m c cc nL s args wA own) (hK : va_K D clsA (tysA cs) s) (hm : moW D A H0 μ0 cs ad V M H locs) (hx : x = 0 ∨ x = 1) (hi : 0 ≤ i ∧ i < 21) (hdg : decode cc pc = .ok (.bastore, 1)) (kk : ∀ (M' : Nat → Int → Int) (H1 : Heap) (locs1 : List Loc), M' = setA M 16 i x → moW D A H0 μ0 cs ad V M' H1 locs1 → W p l e R s m args below meth c H1 locs1 cells slots Q (F0 m (pc + 1) ls rest)) : W p l e R s m args below meth c H locs cells slots Q (F0 m pc ls (.int (iN x) :: .int (iN i) :: .ref (ad 16) :: rest)) := by
  obtain ⟨μ, ⟨⟨ws, h1, h2, hP, hD⟩, hS⟩, hM, hO⟩ := hm
  obtain ⟨q0, hq⟩ := h1 _ _ (hM.2.2 16 (by omega) (by omega))
  refine va_zast S.1 S.2.1 hK hP hD hS q0 2 hq rfl (iN_vin hi.1 (n := 21) hi.2 (by omega)) hdg (fun H1 locs1 hP1 hD1 hS1 => ?_)
  have e : vp_nar .boolean (iN x) = iN x := by rcases hx with h | h <;> subst h <;> decide
  rw [iN_cl hi.1 (by omega), e, fm_updI, uF_I hi.1] at hP1 hD1
  exact kk _ H1 locs1 rfl ⟨_, ⟨fm_M.set h1 h2 hD hq hP1 hD1, hS1⟩, hM.put ⟨by omega, by omega⟩ (fm_up_s _ _ _) (fun q hq => fm_up_n (fun h => hq (by rw [h]; exact List.mem_singleton.mpr rfl))) (setA_s _ _ _ _) (fun j hj => setA_n hj), moO1 (k := 16) (by omega) hO (fun q hq => fm_up_n (fun h => hq (by rw [h]; exact List.mem_singleton.mpr rfl)))⟩
theorem mo_puti {x : Int} {index : Nat} (k : Nat) (S : CallFix p m c cc nL s args wA "ArithmeticFormsModel") (hK : va_K D clsA (tysA cs) s) (hm : moW D A H0 μ0 cs ad V M H locs) (hk : k = 0 ∨ k = 12 ∨ k = 13 ∨ k = 14) (hlink : (Cond.fieldLink "ArithmeticFormsModel" index "ArithmeticFormsModel" (T_Mo k).2.1 (T_Mo k).2.2.1) ∈ wA) (hdg : decode cc pc = .ok (.putfield index, 3)) (kk : ∀ (V' : Nat → Int) (H1 : Heap) (locs1 : List Loc), V' = uF V k x → moW D A H0 μ0 cs ad V' M H1 locs1 → W p l e R s m args below meth c H1 locs1 cells slots Q (F0 m (pc + 3) ls rest)) : W p l e R s m args below meth c H locs cells slots Q (F0 m pc ls (.int (iN x) :: .ref (ad 0) :: rest)) := by
  obtain ⟨μ, hw, hM, hO⟩ := hm
  have go : ∀ (μ' : fm_Mu) (H1 : Heap) (locs1 : List Loc), fm_W D clsA A H0 μ' H1 locs1 → μ' (ad 0) = some (moCell ad (uF V k x)) → fm_O μ μ' [ad 0] → W p l e R s m args below meth c H1 locs1 cells slots Q (F0 m (pc + 3) ls rest) := fun μ' H1 locs1 hw1 h1 h2 => kk _ H1 locs1 rfl ⟨μ', hw1, hM.scal h1 h2, moO1 (by omega) hO h2⟩
  rcases hk with h | h | h | h <;> subst h
  · exact fm_put S hK hw hM.2.1 i_Mo rfl t_Mo t_Mo_ok n_Mo 0 (by decide) (S.2.2.2.2 _ hlink) (fun _ h => h) rfl (ty := .int) (by decide +kernel) rfl rfl (Nat.le_of_ble_eq_true rfl) hdg go
  · exact fm_put S hK hw hM.2.1 i_Mo rfl t_Mo t_Mo_ok n_Mo 12 (by decide) (S.2.2.2.2 _ hlink) (fun _ h => h) rfl (ty := .int) (by decide +kernel) rfl rfl (Nat.le_of_ble_eq_true rfl) hdg go
  · exact fm_put S hK hw hM.2.1 i_Mo rfl t_Mo t_Mo_ok n_Mo 13 (by decide) (S.2.2.2.2 _ hlink) (fun _ h => h) rfl (ty := .int) (by decide +kernel) rfl rfl (Nat.le_of_ble_eq_true rfl) hdg go
  · exact fm_put S hK hw hM.2.1 i_Mo rfl t_Mo t_Mo_ok n_Mo 14 (by decide) (S.2.2.2.2 _ hlink) (fun _ h => h) rfl (ty := .int) (by decide +kernel) rfl rfl (Nat.le_of_ble_eq_true rfl) hdg go
theorem mo_putl {x : Int} {index : Nat} (S : CallFix p m c cc nL s args wA "ArithmeticFormsModel") (hK : va_K D clsA (tysA cs) s) (hm : moW D A H0 μ0 cs ad V M H locs) (hlink : (Cond.fieldLink "ArithmeticFormsModel" index "ArithmeticFormsModel" (T_Mo 21).2.1 (T_Mo 21).2.2.1) ∈ wA) (hdg : decode cc pc = .ok (.putfield index, 3)) (kk : ∀ (V' : Nat → Int) (H1 : Heap) (locs1 : List Loc), V' = uF V 21 x → moW D A H0 μ0 cs ad V' M H1 locs1 → W p l e R s m args below meth c H1 locs1 cells slots Q (F0 m (pc + 3) ls rest)) : W p l e R s m args below meth c H locs cells slots Q (F0 m pc ls (.long (jN x) :: .ref (ad 0) :: rest)) := by
  obtain ⟨μ, hw, hM, hO⟩ := hm
  exact fm_put S hK hw hM.2.1 i_Mo rfl t_Mo t_Mo_ok n_Mo 21 (by decide) (S.2.2.2.2 _ hlink) (fun _ h => h) rfl (ty := .long) (by decide +kernel) rfl rfl (Nat.le_of_ble_eq_true rfl) hdg (fun μ' H1 locs1 hw1 h1 h2 => kk (uF V 21 x) H1 locs1 rfl ⟨μ', hw1, hM.scal h1 h2, moO1 (by omega) hO h2⟩)
theorem mo_putz {x : Int} {index : Nat} (S : CallFix p m c cc nL s args wA "ArithmeticFormsModel") (hK : va_K D clsA (tysA cs) s) (hm : moW D A H0 μ0 cs ad V M H locs) (hx : x = 0 ∨ x = 1) (hlink : (Cond.fieldLink "ArithmeticFormsModel" index "ArithmeticFormsModel" (T_Mo 22).2.1 (T_Mo 22).2.2.1) ∈ wA) (hdg : decode cc pc = .ok (.putfield index, 3)) (kk : ∀ (V' : Nat → Int) (H1 : Heap) (locs1 : List Loc), V' = uF V 22 x → moW D A H0 μ0 cs ad V' M H1 locs1 → W p l e R s m args below meth c H1 locs1 cells slots Q (F0 m (pc + 3) ls rest)) : W p l e R s m args below meth c H locs cells slots Q (F0 m pc ls (.int (iN x) :: .ref (ad 0) :: rest)) := by
  obtain ⟨μ, hw, hM, hO⟩ := hm
  exact fm_put S hK hw hM.2.1 i_Mo rfl t_Mo t_Mo_ok n_Mo 22 (by decide) (S.2.2.2.2 _ hlink) (fun _ h => h) rfl (ty := .boolean) (by decide +kernel) (by rcases hx with h | h <;> subst h <;> decide) (by rcases hx with h | h <;> subst h <;> decide) (Nat.le_of_ble_eq_true rfl) hdg (fun μ' H1 locs1 hw1 h1 h2 => kk (uF V 22 x) H1 locs1 rfl ⟨μ', hw1, hM.scal h1 h2, moO1 (by omega) hO h2⟩)
-- calls of the reference's own methods
theorem mo_cv {y : MethodName} {bytes : ByteArray} {maxL n index : Nat} {rm : Room} {As : List Value} {P : (Nat → Int) → (Nat → Int → Int) → Prop} (S : CallFix p m c cc nL s args wA own) (hK : va_K D clsA (tysA cs) s) (hZo : fm_Zok Z) (hZ : Z A s s.heap) (hA : ∀ q, s.heap.size ≤ q → A q) (hm : moW D A s.heap μ0 cs ad V M H locs) (con : ∀ (μ : fm_Mu) (sz : Nat), moS cs μ ad V M → Met l y (Cond.code y bytes maxL none :: wA) rm (fm_Pc D clsA (tysA cs) Z μ sz (.ref (ad 0) :: As)) (moQv D cs ad μ sz P) 0 0 (fm_A μ sz)) (hG : GoodIn wA (wsV own index "ArithmeticFormsModel" y (Cond.code y bytes maxL none :: wA))) (hrm : rm.cells = 0 ∧ rm.slots = 0 ∧ rm.frames + 1 ≤ R.frames ∧ 8 + (maxL + 11) + rm.locals ≤ R.locals) (hd : y.cls = "ArithmeticFormsModel" ∧ y.cls ≠ "java/lang/invoke/MethodHandle" ∧ y.cls ≠ "java/lang/invoke/VarHandle" ∧ (parseMethodDescriptor y.desc).map (fun d => d.parameters.length) = some n) (hn : As.length = n) (hsize : ls.size = nL) (hst : st0 = As.reverse ++ .ref (ad 0) :: rest) (hW : (rest.map fun v => v.category).sum ≤ 8) (hf : cells ≤ R.cells ∧ slots ≤ R.slots) (hdg : decode cc pc = .ok (.invokevirtual index, 3)) (kk : ∀ (V' : Nat → Int) (M' : Nat → Int → Int) (H1 : Heap) (locs1 : List Loc), P V' M' → moW D A s.heap μ0 cs ad V' M' H1 locs1 → W p l e R s m args below meth c H1 locs1 cells slots Q (F0 m (pc + 3) ls rest)) : W p l e R s m args below meth c H locs cells slots Q (F0 m pc ls st0) := by
  obtain ⟨μ, hw, hM, hO⟩ := hm
  exact fm_callv (va_runV (As := As) (rest := rest) S (con μ H.size hM) (cwV n S.2.2.2.2 hG rfl hrm.1 hrm.2.1 hd hrm.2.2) (fm_preV hZo hK hw hZ hA hM.2.1 rfl As) rfl hn hsize hst (lv_room hW) hdg hf) hw hA (fun μ' H1 locs1 hp hw1 => by
    obtain ⟨V', M', hp, hM', hO'⟩ := hp
    exact kk V' M' H1 locs1 hp ⟨μ', hw1, hM', hO.tr hO'⟩)
theorem mo_ci {y : MethodName} {bytes : ByteArray} {maxL n index : Nat} {rm : Room} {ret : Option FieldType} {As : List Value} {P : Int → (Nat → Int) → (Nat → Int → Int) → Prop} (S : CallFix p m c cc nL s args wA own) (hK : va_K D clsA (tysA cs) s) (hZo : fm_Zok Z) (hZ : Z A s s.heap) (hA : ∀ q, s.heap.size ≤ q → A q) (hm : moW D A s.heap μ0 cs ad V M H locs) (con : ∀ (μ : fm_Mu) (sz : Nat), moS cs μ ad V M → Met l y (Cond.code y bytes maxL ret :: wA) rm (fm_Pc D clsA (tysA cs) Z μ sz (.ref (ad 0) :: As)) (moQi D cs ad μ sz P) 0 0 (fm_A μ sz)) (hG : GoodIn wA (wsV own index "ArithmeticFormsModel" y (Cond.code y bytes maxL ret :: wA))) (hrm : rm.cells = 0 ∧ rm.slots = 0 ∧ rm.frames + 1 ≤ R.frames ∧ 8 + (maxL + 11) + rm.locals ≤ R.locals) (hd : y.cls = "ArithmeticFormsModel" ∧ y.cls ≠ "java/lang/invoke/MethodHandle" ∧ y.cls ≠ "java/lang/invoke/VarHandle" ∧ (parseMethodDescriptor y.desc).map (fun d => d.parameters.length) = some n) (hn : As.length = n) (hsize : ls.size = nL) (hst : st0 = As.reverse ++ .ref (ad 0) :: rest) (hW : (rest.map fun v => v.category).sum ≤ 8) (hf : cells ≤ R.cells ∧ slots ≤ R.slots) (hdg : decode cc pc = .ok (.invokevirtual index, 3)) (kk : ∀ (x : Int) (V' : Nat → Int) (M' : Nat → Int → Int) (H1 : Heap) (locs1 : List Loc), P x V' M' → moW D A s.heap μ0 cs ad V' M' H1 locs1 → W p l e R s m args below meth c H1 locs1 cells slots Q (F0 m (pc + 3) ls (.int (iN x) :: rest))) : W p l e R s m args below meth c H locs cells slots Q (F0 m pc ls st0) := by
  obtain ⟨μ, hw, hM, hO⟩ := hm
  exact fm_calli (va_runV (As := As) (rest := rest) S (con μ H.size hM) (cwV n S.2.2.2.2 hG rfl hrm.1 hrm.2.1 hd hrm.2.2) (fm_preV hZo hK hw hZ hA hM.2.1 rfl As) rfl hn hsize hst (lv_room hW) hdg hf) hw hA (fun x μ' H1 locs1 hp hw1 => by
    obtain ⟨V', M', hp, hM', hO'⟩ := hp
    exact kk x V' M' H1 locs1 hp ⟨μ', hw1, hM', hO.tr hO'⟩)
theorem mo_cl {y : MethodName} {bytes : ByteArray} {maxL n index : Nat} {rm : Room} {ret : Option FieldType} {As : List Value} {P : Int → (Nat → Int) → (Nat → Int → Int) → Prop} (S : CallFix p m c cc nL s args wA own) (hK : va_K D clsA (tysA cs) s) (hZo : fm_Zok Z) (hZ : Z A s s.heap) (hA : ∀ q, s.heap.size ≤ q → A q) (hm : moW D A s.heap μ0 cs ad V M H locs) (con : ∀ (μ : fm_Mu) (sz : Nat), moS cs μ ad V M → Met l y (Cond.code y bytes maxL ret :: wA) rm (fm_Pc D clsA (tysA cs) Z μ sz (.ref (ad 0) :: As)) (moQl D cs ad μ sz P) 0 0 (fm_A μ sz)) (hG : GoodIn wA (wsV own index "ArithmeticFormsModel" y (Cond.code y bytes maxL ret :: wA))) (hrm : rm.cells = 0 ∧ rm.slots = 0 ∧ rm.frames + 1 ≤ R.frames ∧ 8 + (maxL + 11) + rm.locals ≤ R.locals) (hd : y.cls = "ArithmeticFormsModel" ∧ y.cls ≠ "java/lang/invoke/MethodHandle" ∧ y.cls ≠ "java/lang/invoke/VarHandle" ∧ (parseMethodDescriptor y.desc).map (fun d => d.parameters.length) = some n) (hn : As.length = n) (hsize : ls.size = nL) (hst : st0 = As.reverse ++ .ref (ad 0) :: rest) (hW : (rest.map fun v => v.category).sum ≤ 8) (hf : cells ≤ R.cells ∧ slots ≤ R.slots) (hdg : decode cc pc = .ok (.invokevirtual index, 3)) (kk : ∀ (x : Int) (V' : Nat → Int) (M' : Nat → Int → Int) (H1 : Heap) (locs1 : List Loc), P x V' M' → moW D A s.heap μ0 cs ad V' M' H1 locs1 → W p l e R s m args below meth c H1 locs1 cells slots Q (F0 m (pc + 3) ls (.long (jN x) :: rest))) : W p l e R s m args below meth c H locs cells slots Q (F0 m pc ls st0) := by
  obtain ⟨μ, hw, hM, hO⟩ := hm
  exact fm_calll (va_runV (As := As) (rest := rest) S (con μ H.size hM) (cwV n S.2.2.2.2 hG rfl hrm.1 hrm.2.1 hd hrm.2.2) (fm_preV hZo hK hw hZ hA hM.2.1 rfl As) rfl hn hsize hst (lv_room hW) hdg hf) hw hA (fun x μ' H1 locs1 hp hw1 => by
    obtain ⟨V', M', hp, hM', hO'⟩ := hp
    exact kk x V' M' H1 locs1 hp ⟨μ', hw1, hM', hO.tr hO'⟩)
/-- a call that only reads -/
theorem mo_pi {y : MethodName} {bytes : ByteArray} {maxL n index : Nat} {rm : Room} {ret : Option FieldType} {As : List Value} {P : Int → Prop} (S : CallFix p m c cc nL s args wA own) (hK : va_K D clsA (tysA cs) s) (hZo : fm_Zok Z) (hZ : Z A s s.heap) (hA : ∀ q, s.heap.size ≤ q → A q) (hm : moW D A s.heap μ0 cs ad V M H locs) (con : ∀ (μ : fm_Mu) (sz : Nat), moS cs μ ad V M → Met l y (Cond.code y bytes maxL ret :: wA) rm (fm_Pc D clsA (tysA cs) Z μ sz (.ref (ad 0) :: As)) (fm_Si P) 0 0 (fun _ => False)) (hG : GoodIn wA (wsV own index "ArithmeticFormsModel" y (Cond.code y bytes maxL ret :: wA))) (hrm : rm.cells = 0 ∧ rm.slots = 0 ∧ rm.frames + 1 ≤ R.frames ∧ 8 + (maxL + 11) + rm.locals ≤ R.locals) (hd : y.cls = "ArithmeticFormsModel" ∧ y.cls ≠ "java/lang/invoke/MethodHandle" ∧ y.cls ≠ "java/lang/invoke/VarHandle" ∧ (parseMethodDescriptor y.desc).map (fun d => d.parameters.length) = some n) (hn : As.length = n) (hsize : ls.size = nL) (hst : st0 = As.reverse ++ .ref (ad 0) :: rest) (hW : (rest.map fun v => v.category).sum ≤ 8) (hf : cells ≤ R.cells ∧ slots ≤ R.slots) (hdg : decode cc pc = .ok (.invokevirtual index, 3)) (kk : ∀ x : Int, P x → W p l e R s m args below meth c H locs cells slots Q (F0 m (pc + 3) ls (.int (iN x) :: rest))) : W p l e R s m args below meth c H locs cells slots Q (F0 m pc ls st0) := by
  obtain ⟨μ, hw, hM, hO⟩ := hm
  exact fm_callSi (va_runV (As := As) (rest := rest) S (con μ H.size hM) (cwV n S.2.2.2.2 hG rfl hrm.1 hrm.2.1 hd hrm.2.2) (fm_preV hZo hK hw hZ hA hM.2.1 rfl As) rfl hn hsize hst (lv_room hW) hdg hf) kk
/-- the reference's static ten -/
theorem mo_sl {y : MethodName} {bytes : ByteArray} {maxL n index : Nat} {rm : Room} {ret : Option FieldType} {As : List Value} {P : Int → Prop} (S : CallFix p m c cc nL s args wA own) (hK : va_K D clsA (tysA cs) s) (hZo : fm_Zok Z) (hZ : Z A s s.heap) (hA : ∀ q, s.heap.size ≤ q → A q) (hm : moW D A s.heap μ0 cs ad V M H locs) (con : ∀ (μ : fm_Mu) (sz : Nat), Met l y (Cond.code y bytes maxL ret :: wA) rm (fm_Pc D clsA (tysA cs) Z μ sz As) (fm_Sl P) 0 0 (fun _ => False)) (hG : GoodIn wA (va_wsS own index y (Cond.code y bytes maxL ret :: wA))) (hrm : rm.cells = 0 ∧ rm.slots = 0 ∧ rm.frames + 1 ≤ R.frames ∧ 8 + (maxL + 11) + rm.locals ≤ R.locals) (hd : y.cls ≠ "java/lang/invoke/MethodHandle" ∧ y.cls ≠ "java/lang/invoke/VarHandle" ∧ (parseMethodDescriptor y.desc).map (fun d => d.parameters.length) = some n) (hn : As.length = n) (hsize : ls.size = nL) (hst : st0 = As.reverse ++ rest) (hW : (rest.map fun v => v.category).sum ≤ 8) (hf : cells ≤ R.cells ∧ slots ≤ R.slots) (hdg : decode cc pc = .ok (.invokestatic index, 3)) (kk : ∀ x : Int, P x → W p l e R s m args below meth c H locs cells slots Q (F0 m (pc + 3) ls (.long (jN x) :: rest))) : W p l e R s m args below meth c H locs cells slots Q (F0 m pc ls st0) := by
  obtain ⟨μ, hw, hM, hO⟩ := hm
  exact fm_callSl (va_runS (As := As) (rest := rest) S (con μ H.size) (va_cwS n S.2.2.2.2 hG rfl hrm.1 hrm.2.1 hd hrm.2.2) (fm_pre hZo hK hw hZ hA As) rfl hn hsize hst (lv_room hW) hdg hf) kk
-- returns
theorem mo_vret {P : (Nat → Int) → (Nat → Int → Int) → Prop} (S : CallFix p m c cc nL s args wA own) (hr : meth.sig.returnType = none) (hlocks : meth.locks = false) (hK : va_K D clsA (tysA cs) s) (hm : moW D (fm_A μ0 s.heap.size) s.heap μ0 cs ad V M H locs) (hdg : decode cc pc = .ok (.return_, 1)) (hp : P V M) : W p l e R s m args below meth c H locs cells slots (MQ below (moQv D cs ad μ0 s.heap.size P) args s cells slots (fm_A μ0 s.heap.size)) (F0 m pc ls []) := by
  obtain ⟨μ, hw, hM, hO⟩ := hm
  exact fm_vret S hr hlocks hK hw hdg ⟨V, M, hp, hM, hO⟩
theorem mo_iret {P : Int → (Nat → Int) → (Nat → Int → Int) → Prop} {X : Int} (S : CallFix p m c cc nL s args wA own) (hr : meth.sig.returnType = some .int) (hlocks : meth.locks = false) (hK : va_K D clsA (tysA cs) s) (hm : moW D (fm_A μ0 s.heap.size) s.heap μ0 cs ad V M H locs) (hdg : decode cc pc = .ok (.ireturn, 1)) (hp : P X V M) : W p l e R s m args below meth c H locs cells slots (MQ below (moQi D cs ad μ0 s.heap.size P) args s cells slots (fm_A μ0 s.heap.size)) (F0 m pc ls [.int (iN X)]) := by
  obtain ⟨μ, hw, hM, hO⟩ := hm
  exact fm_iret S hr hlocks hK hw hdg ⟨V, M, hp, hM, hO⟩
theorem mo_zret {P : Int → (Nat → Int) → (Nat → Int → Int) → Prop} {X : Int} (S : CallFix p m c cc nL s args wA own) (hr : meth.sig.returnType = some .boolean) (hlocks : meth.locks = false) (hK : va_K D clsA (tysA cs) s) (hm : moW D (fm_A μ0 s.heap.size) s.heap μ0 cs ad V M H locs) (hX : X = 0 ∨ X = 1) (hdg : decode cc pc = .ok (.ireturn, 1)) (hp : P X V M) : W p l e R s m args below meth c H locs cells slots (MQ below (moQi D cs ad μ0 s.heap.size P) args s cells slots (fm_A μ0 s.heap.size)) (F0 m pc ls [.int (iN X)]) := by
  obtain ⟨μ, hw, hM, hO⟩ := hm
  exact fm_zret S hr hlocks hK hw hX hdg ⟨V, M, hp, hM, hO⟩
theorem mo_lret {P : Int → (Nat → Int) → (Nat → Int → Int) → Prop} {X : Int} (S : CallFix p m c cc nL s args wA own) (hr : meth.sig.returnType = some .long) (hlocks : meth.locks = false) (hK : va_K D clsA (tysA cs) s) (hm : moW D (fm_A μ0 s.heap.size) s.heap μ0 cs ad V M H locs) (hdg : decode cc pc = .ok (.lreturn, 1)) (hp : P X V M) : W p l e R s m args below meth c H locs cells slots (MQ below (moQl D cs ad μ0 s.heap.size P) args s cells slots (fm_A μ0 s.heap.size)) (F0 m pc ls [.long (jN X)]) := by
  obtain ⟨μ, hw, hM, hO⟩ := hm
  exact fm_lret S hr hlocks hK hw hdg ⟨V, M, hp, hM, hO⟩
end MoRows
/-- a reference's method, from its entry -/
theorem mo_of {l : Launch} {y : MethodName} {cc : ByteArray} {maxL sz mc ms : Nat} {ret : Option FieldType} {rm : Room} {D : va_G} {cs : Nat → ClassId} {ad : Nat → Nat} {μ : fm_Mu} {V : Nat → Int} {M : Nat → Int → Int} {Z : (Nat → Prop) → State → Heap → Prop} {Qc : Array Value → State → Outcome → State → Prop} {free : Addr → Prop} {av : List Value} (hM : moS cs μ ad V M) (hy : plainName y.cls = true ∧ y.cls = "ArithmeticFormsModel") (hlen : (lg_sl av).length ≤ maxL)
    (body : ∀ (p : Program) (e : Env) (s : State) (m : MethodId) (below : List Frame) (meth : Method) (c : Code), CallFix p m c cc maxL s av.toArray wA "ArithmeticFormsModel" → meth.sig.returnType = ret → meth.locks = false → s.heap.size = sz → moW D (fm_A μ s.heap.size) s.heap μ cs ad V M s.heap [] → va_K D clsA (tysA cs) s → Z (fm_A μ s.heap.size) s s.heap → (∀ q, s.heap.size ≤ q → fm_A μ s.heap.size q) → ∀ ls : Array Slot, lv_has ls maxL (lv_args 0 av) → W p l e rm s m av.toArray below meth c s.heap [] 0 0 (MQ below Qc av.toArray s mc ms free) (F0 m 0 ls [])) : Met l y (Cond.code y cc maxL ret :: wA) rm (fm_Pc D clsA (tysA cs) Z μ sz av) Qc mc ms free := by
  refine fm_of hy.1 rfl hlen (fun p e s m below meth c S hr hl _ hsz hw hK hZ hA ls hls => ?_)
  exact body p e s m below meth c ⟨S.1, S.2.1, S.2.2.1, by rw [← hy.2]; exact S.2.2.2.1, fun w h => S.2.2.2.2 w (List.mem_cons_of_mem _ h)⟩ hr hl hsz ⟨μ, hw, hM, fm_O.rf⟩ hK hZ hA ls hls
end
section
-- calls that leave the scalars (own work)
section MoRowsS
variable {p : Program} {l : Launch} {e : Env} {R : Room} {s : State} {m : MethodId} {args : Array Value} {below : List Frame} {meth : Method} {c : Code} {H H0 : Heap} {locs : List Loc} {cells slots : Nat} {Q : State → Prop} {cc : ByteArray} {pc nL : Nat} {ls : Array Slot} {rest st0 : List Value} {own : String} {D : va_G} {A : Nat → Prop} {μ μ0 : fm_Mu} {cs : Nat → ClassId} {ad : Nat → Nat} {V : Nat → Int} {M : Nat → Int → Int} {Z : (Nat → Prop) → State → Heap → Prop}
theorem mo_cvS {y : MethodName} {bytes : ByteArray} {maxL n index : Nat} {rm : Room} {As : List Value} {P : (Nat → Int → Int) → Prop} (S : CallFix p m c cc nL s args wA own) (hK : va_K D clsA (tysA cs) s) (hZo : fm_Zok Z) (hZ : Z A s s.heap) (hA : ∀ q, s.heap.size ≤ q → A q) (hm : moW D A s.heap μ0 cs ad V M H locs) (con : ∀ (μ : fm_Mu) (sz : Nat), moS cs μ ad V M → Met l y (Cond.code y bytes maxL none :: wA) rm (fm_Pc D clsA (tysA cs) Z μ sz (.ref (ad 0) :: As)) (moQv D cs ad μ sz (fun V' M' => V' = V ∧ P M')) 0 0 (fm_A μ sz)) (hG : GoodIn wA (wsV own index "ArithmeticFormsModel" y (Cond.code y bytes maxL none :: wA))) (hrm : rm.cells = 0 ∧ rm.slots = 0 ∧ rm.frames + 1 ≤ R.frames ∧ 8 + (maxL + 11) + rm.locals ≤ R.locals) (hd : y.cls = "ArithmeticFormsModel" ∧ y.cls ≠ "java/lang/invoke/MethodHandle" ∧ y.cls ≠ "java/lang/invoke/VarHandle" ∧ (parseMethodDescriptor y.desc).map (fun d => d.parameters.length) = some n) (hn : As.length = n) (hsize : ls.size = nL) (hst : st0 = As.reverse ++ .ref (ad 0) :: rest) (hW : (rest.map fun v => v.category).sum ≤ 8) (hf : cells ≤ R.cells ∧ slots ≤ R.slots) (hdg : decode cc pc = .ok (.invokevirtual index, 3)) (kk : ∀ (M' : Nat → Int → Int) (H1 : Heap) (locs1 : List Loc), P M' → moW D A s.heap μ0 cs ad V M' H1 locs1 → W p l e R s m args below meth c H1 locs1 cells slots Q (F0 m (pc + 3) ls rest)) : W p l e R s m args below meth c H locs cells slots Q (F0 m pc ls st0) :=
  mo_cv S hK hZo hZ hA hm con hG hrm hd hn hsize hst hW hf hdg (fun V' M' H1 locs1 h hm => kk M' H1 locs1 h.2 (by rw [h.1] at hm; exact hm))
theorem mo_ciS {y : MethodName} {bytes : ByteArray} {maxL n index : Nat} {rm : Room} {ret : Option FieldType} {As : List Value} {P : Int → (Nat → Int → Int) → Prop} (S : CallFix p m c cc nL s args wA own) (hK : va_K D clsA (tysA cs) s) (hZo : fm_Zok Z) (hZ : Z A s s.heap) (hA : ∀ q, s.heap.size ≤ q → A q) (hm : moW D A s.heap μ0 cs ad V M H locs) (con : ∀ (μ : fm_Mu) (sz : Nat), moS cs μ ad V M → Met l y (Cond.code y bytes maxL ret :: wA) rm (fm_Pc D clsA (tysA cs) Z μ sz (.ref (ad 0) :: As)) (moQi D cs ad μ sz (fun x V' M' => V' = V ∧ P x M')) 0 0 (fm_A μ sz)) (hG : GoodIn wA (wsV own index "ArithmeticFormsModel" y (Cond.code y bytes maxL ret :: wA))) (hrm : rm.cells = 0 ∧ rm.slots = 0 ∧ rm.frames + 1 ≤ R.frames ∧ 8 + (maxL + 11) + rm.locals ≤ R.locals) (hd : y.cls = "ArithmeticFormsModel" ∧ y.cls ≠ "java/lang/invoke/MethodHandle" ∧ y.cls ≠ "java/lang/invoke/VarHandle" ∧ (parseMethodDescriptor y.desc).map (fun d => d.parameters.length) = some n) (hn : As.length = n) (hsize : ls.size = nL) (hst : st0 = As.reverse ++ .ref (ad 0) :: rest) (hW : (rest.map fun v => v.category).sum ≤ 8) (hf : cells ≤ R.cells ∧ slots ≤ R.slots) (hdg : decode cc pc = .ok (.invokevirtual index, 3)) (kk : ∀ (x : Int) (M' : Nat → Int → Int) (H1 : Heap) (locs1 : List Loc), P x M' → moW D A s.heap μ0 cs ad V M' H1 locs1 → W p l e R s m args below meth c H1 locs1 cells slots Q (F0 m (pc + 3) ls (.int (iN x) :: rest))) : W p l e R s m args below meth c H locs cells slots Q (F0 m pc ls st0) :=
  mo_ci S hK hZo hZ hA hm con hG hrm hd hn hsize hst hW hf hdg (fun x V' M' H1 locs1 h hm => kk x M' H1 locs1 h.2 (by rw [h.1] at hm; exact hm))
end MoRowsS
theorem mo_join {p : Program} {l : Launch} {e : Env} {R : Room} {s : State} {m : MethodId} {args : Array Value} {below : List Frame} {meth : Method} {c : Code} {H : Heap} {locs : List Loc} {cells slots : Nat} {Q : State → Prop} {P : Int → Prop} {g : Int → JFrame} {g0 : JFrame} (key : ∀ y : Int, P y → W p l e R s m args below meth c H locs cells slots Q (g y)) (k : (∀ y : Int, P y → W p l e R s m args below meth c H locs cells slots Q (g y)) → W p l e R s m args below meth c H locs cells slots Q g0) : W p l e R s m args below meth c H locs cells slots Q g0 := k key
end
section
-- NUMBERS (own work): digits and values
/-- how many decimal digits -/
def nd (n : Nat) : Nat := if h : n = 0 then 0 else nd (n / 10) + 1
termination_by n
decreasing_by omega
theorem nd_0 : nd 0 = 0 := by rw [nd]; simp
theorem nd_pos {n : Nat} (h : n ≠ 0) : nd n = nd (n / 10) + 1 := by rw [nd]; simp [h]
theorem nd_lt (n : Nat) : n < 10 ^ nd n := by
  induction n using Nat.strongRecOn with
  | _ n ih =>
    by_cases h : n = 0
    · subst h; rw [nd_0]; decide
    · rw [nd_pos h, Nat.pow_succ]
      have := ih (n / 10) (by omega)
      omega
theorem nd_ge {n : Nat} (h : n ≠ 0) : 10 ^ (nd n - 1) ≤ n := by
  induction n using Nat.strongRecOn with
  | _ n ih =>
    rw [nd_pos h, Nat.add_sub_cancel]
    by_cases h2 : n / 10 = 0
    · rw [h2, nd_0]; simp; omega
    · have h3 := ih (n / 10) (by omega) h2
      have h4 : nd (n / 10) = nd (n / 10) - 1 + 1 := by rw [nd_pos h2]; omega
      rw [h4, Nat.pow_succ]
      omega
theorem nd_uniq {n k : Nat} (h1 : 10 ^ k ≤ n) (h2 : n < 10 ^ (k + 1)) : nd n = k + 1 := by
  induction k generalizing n with
  | zero =>
    have h3 : n ≠ 0 := by simp at h1; omega
    rw [nd_pos h3]
    have h4 : n / 10 = 0 := by simp at h2; omega
    rw [h4, nd_0]
  | succ k ih =>
    have h3 : 0 < 10 ^ (k + 1) := Nat.pow_pos (by decide)
    have h5 : n ≠ 0 := by omega
    rw [nd_pos h5]
    have e1 : 10 ^ (k + 1) = 10 ^ k * 10 := Nat.pow_succ ..
    have e2 : 10 ^ (k + 1 + 1) = 10 ^ (k + 1) * 10 := Nat.pow_succ ..
    rw [ih (n := n / 10) (by omega) (by omega)]
theorem nd_le {n k : Nat} (h : n < 10 ^ k) : nd n ≤ k := by
  by_cases h0 : n = 0
  · subst h0; rw [nd_0]; omega
  · have h1 := nd_ge h0
    rcases Nat.lt_or_ge k (nd n) with h2 | h2
    · have h3 : 10 ^ k ≤ 10 ^ (nd n - 1) := Nat.pow_le_pow_right (by decide) (by omega)
      omega
    · exact h2
/-- the value of n digits from place b on -/
def dv (F : Int → Int) (b : Int) : Nat → Int
  | 0 => 0
  | n + 1 => dv F b n + F (b + n) * 10 ^ n
theorem dv_congr {F G : Int → Int} {b c : Int} {n : Nat} (h : ∀ k : Int, 0 ≤ k → k < n → F (b + k) = G (c + k)) : dv F b n = dv G c n := by
  induction n with
  | zero => rfl
  | succ n ih =>
    show dv F b n + F (b + n) * 10 ^ n = dv G c n + G (c + n) * 10 ^ n
    rw [ih (fun k h1 h2 => h k h1 (by omega)), h n (by omega) (by omega)]
/-- digits are digits -/
def dOk (F : Int → Int) (b : Int) (n : Nat) : Prop := ∀ k : Int, 0 ≤ k → k < n → 0 ≤ F (b + k) ∧ F (b + k) ≤ 9
theorem dOk.le {F : Int → Int} {b : Int} {n n' : Nat} (h : dOk F b n) (hn : n' ≤ n) : dOk F b n' := fun k h1 h2 => h k h1 (by omega)
theorem dv_lt {F : Int → Int} {b : Int} {n : Nat} (h : dOk F b n) : 0 ≤ dv F b n ∧ dv F b n < 10 ^ n := by
  induction n with
  | zero => exact ⟨Int.le_refl 0, by show (0 : Int) < 10 ^ 0; decide⟩
  | succ n ih =>
    have h1 := ih (h.le (by omega))
    have h2 := h n (by omega) (by omega)
    have h3 : (0 : Int) < 10 ^ n := Int.pow_pos (by decide)
    show 0 ≤ dv F b n + F (b + n) * 10 ^ n ∧ dv F b n + F (b + n) * 10 ^ n < 10 ^ (n + 1)
    have e : (10 : Int) ^ (n + 1) = 10 ^ n * 10 := Int.pow_succ 10 n
    have h4 : F (b + n) * 10 ^ n ≤ 9 * 10 ^ n := Int.mul_le_mul_of_nonneg_right h2.2 (by omega)
    have h5 : 0 ≤ F (b + n) * 10 ^ n := Int.mul_nonneg h2.1 (by omega)
    omega
theorem p10 (n : Nat) : (0 : Int) < 10 ^ n := Int.pow_pos (by decide)
theorem p10N (n : Nat) : 0 < 10 ^ n := Nat.pow_pos (by decide)
theorem p10c (n : Nat) : ((10 ^ n : Nat) : Int) = 10 ^ n := by simp
theorem dv_app {F : Int → Int} {b : Int} (d m : Nat) : dv F b (d + m) = dv F b d + 10 ^ d * dv F (b + d) m := by
  induction m with
  | zero => show dv F b d = dv F b d + 10 ^ d * 0; omega
  | succ m ih =>
    show dv F b (d + m) + F (b + ((d + m : Nat) : Int)) * 10 ^ (d + m) = dv F b d + 10 ^ d * (dv F (b + d) m + F (b + d + m) * 10 ^ m)
    rw [ih, Int.mul_add, Int.pow_add]
    have e : b + ((d + m : Nat) : Int) = b + d + m := by omega
    rw [e]
    have e2 : F (b + d + m) * (10 ^ d * 10 ^ m) = 10 ^ d * (F (b + d + m) * 10 ^ m) := by
      rw [← Int.mul_assoc, Int.mul_comm (F (b + d + m)) (10 ^ d), Int.mul_assoc]
    omega
theorem dv_div {F : Int → Int} {b : Int} {d m : Nat} (h : dOk F b d) : dv F b (d + m) / 10 ^ d = dv F (b + d) m := by
  have h1 := dv_lt h
  rw [dv_app, Int.add_mul_ediv_left _ _ (Int.ne_of_gt (p10 d)), Int.ediv_eq_zero_of_lt h1.1 h1.2, Int.zero_add]
theorem dv_mod {F : Int → Int} {b : Int} {d m : Nat} (h : dOk F b d) : dv F b (d + m) % 10 ^ d = dv F b d := by
  have h1 := dv_lt h
  rw [dv_app, Int.add_mul_emod_self_left, Int.emod_eq_of_lt h1.1 h1.2]
theorem dv_dig {F : Int → Int} {b : Int} {n k : Nat} (h : dOk F b n) (hk : k < n) : dv F b n / 10 ^ k % 10 = F (b + k) := by
  have e : n = k + (1 + (n - k - 1)) := by omega
  rw [e, dv_div (h.le (by omega)), dv_app]
  have e1 : dv F (b + k) 1 = F (b + k) := by show 0 + F (b + k + ((0 : Nat) : Int)) * 10 ^ 0 = _; simp
  have h2 := h k (by omega) (by omega)
  rw [e1, Int.pow_succ, Int.pow_zero, Int.one_mul, Int.add_mul_emod_self_left, Int.emod_eq_of_lt h2.1 (by omega)]
/-- trailing zeros -/
def tz (n : Nat) : Nat := if h : n = 0 then 0 else if n % 10 = 0 then tz (n / 10) + 1 else 0
termination_by n
decreasing_by omega
theorem tz_0 : tz 0 = 0 := by rw [tz]; simp
theorem tz_z {n : Nat} (h : n ≠ 0) (h2 : n % 10 = 0) : tz n = tz (n / 10) + 1 := by rw [tz]; simp [h, h2]
theorem tz_n {n : Nat} (h2 : n % 10 ≠ 0) : tz n = 0 := by rw [tz]; simp [h2]
theorem tz_uniq {t : Nat} : ∀ {n : Nat}, n % 10 ^ t = 0 → n / 10 ^ t % 10 ≠ 0 → tz n = t := by
  induction t with
  | zero => intro n _ h2; simp at h2; exact tz_n h2
  | succ t ih =>
    intro n h1 h2
    have e1 : 10 ^ (t + 1) = 10 * 10 ^ t := by rw [Nat.pow_succ, Nat.mul_comm]
    rw [e1] at h1 h2
    have h3 : n % 10 = 0 := by
      have := Nat.mod_mul_right_mod n 10 (10 ^ t)
      omega
    have h0 : n ≠ 0 := by intro h; subst h; simp at h2
    rw [tz_z h0 h3]
    have h4 : n / 10 % 10 ^ t = 0 := by
      have := Nat.mod_mul (x := n) (a := 10) (b := 10 ^ t)
      omega
    have h5 : n / 10 / 10 ^ t % 10 ≠ 0 := by rw [Nat.div_div_eq_div_mul]; exact h2
    rw [ih h4 h5]
theorem tz_spec {n : Nat} (h : n ≠ 0) : n % 10 ^ tz n = 0 ∧ n / 10 ^ tz n % 10 ≠ 0 := by
  induction n using Nat.strongRecOn with
  | _ n ih =>
    by_cases h2 : n % 10 = 0
    · have h3 := ih (n / 10) (by omega) (by omega)
      rw [tz_z h h2]
      have e1 : 10 ^ (tz (n / 10) + 1) = 10 * 10 ^ tz (n / 10) := by rw [Nat.pow_succ, Nat.mul_comm]
      rw [e1]
      refine ⟨?_, ?_⟩
      · have := Nat.mod_mul (x := n) (a := 10) (b := 10 ^ tz (n / 10))
        omega
      · rw [← Nat.div_div_eq_div_mul]; exact h3.2
    · rw [tz_n h2]; simp [h2, Nat.mod_one]
theorem nd_div {n k : Nat} : nd (n / 10 ^ k) = nd n - k := by
  induction k generalizing n with
  | zero => simp
  | succ k ih =>
    have e1 : 10 ^ (k + 1) = 10 * 10 ^ k := by rw [Nat.pow_succ, Nat.mul_comm]
    rw [e1, ← Nat.div_div_eq_div_mul, ih]
    by_cases h : n = 0
    · subst h; simp [nd_0]
    · rw [nd_pos h]; omega
theorem tz_lt {n : Nat} (h : n ≠ 0) : tz n < nd n := by
  have h1 := tz_spec h
  have h2 : n / 10 ^ tz n ≠ 0 := fun e => h1.2 (by rw [e])
  have h3 := nd_pos h2
  have h4 := nd_div (n := n) (k := tz n)
  omega
end
section
-- THE REFERENCE'S REGISTERS (own work)
/-- register r has n digits of the value N, exponent x, sign sg -/
def Rg (M : Nat → Int → Int) (r : Int) (n N : Nat) (x sg : Int) : Prop := M 2 r = n ∧ M 3 r = x ∧ M 4 r = sg ∧ dOk (M 1) (320 * r) n ∧ dv (M 1) (320 * r) n = N
/-- only register r differs -/
def Fr (M M' : Nat → Int → Int) (r : Int) : Prop := (∀ k : Nat, k = 0 ∨ 6 ≤ k → M' k = M k) ∧ (∀ q : Int, q < 320 * r ∨ 320 * r + 320 ≤ q → M' 1 q = M 1 q) ∧ (∀ q : Int, q ≠ r → M' 2 q = M 2 q ∧ M' 3 q = M 3 q ∧ M' 4 q = M 4 q)
theorem Fr.rf {M : Nat → Int → Int} {r : Int} : Fr M M r := ⟨fun _ _ => rfl, fun _ _ => rfl, fun _ _ => ⟨rfl, rfl, rfl⟩⟩
theorem Fr.tr {M M' M'' : Nat → Int → Int} {r : Int} (h1 : Fr M M' r) (h2 : Fr M' M'' r) : Fr M M'' r := ⟨fun k h => (h2.1 k h).trans (h1.1 k h), fun q h => (h2.2.1 q h).trans (h1.2.1 q h), fun q h => ⟨((h2.2.2 q h).1).trans (h1.2.2 q h).1, ((h2.2.2 q h).2.1).trans (h1.2.2 q h).2.1, ((h2.2.2 q h).2.2).trans (h1.2.2 q h).2.2⟩⟩
theorem Fr.rg {M M' : Nat → Int → Int} {r r' : Int} {n N : Nat} {x sg : Int} (h : Fr M M' r) (hne : r' ≠ r) (hn : n ≤ 320) (hg : Rg M r' n N x sg) : Rg M' r' n N x sg := by
  obtain ⟨h1, h2, h3, h4, h5⟩ := hg
  have e := h.2.2 r' hne
  have ed : ∀ k : Int, 0 ≤ k → k < n → M' 1 (320 * r' + k) = M 1 (320 * r' + k) := fun k a b => h.2.1 _ (by omega)
  refine ⟨e.1.trans h1, e.2.1.trans h2, e.2.2.trans h3, fun k a b => by rw [ed k a b]; exact h4 k a b, ?_⟩
  rw [← h5]
  exact dv_congr ed
theorem Fr.d {M M' : Nat → Int → Int} {r k x : Int} (e : M' = setA M 1 (320 * r + k) x) (hk : 0 ≤ k ∧ k < 320) : Fr M M' r := by
  subst e
  refine ⟨fun j h => setA_n (by omega), fun q h => ?_, fun q h => ⟨by rw [setA_n (by decide)], by rw [setA_n (by decide)], by rw [setA_n (by decide)]⟩⟩
  rw [setA_s, uI_n (by omega)]
theorem Fr.s {M M' : Nat → Int → Int} {r x : Int} {j : Nat} (e : M' = setA M j r x) (hj : j = 2 ∨ j = 3 ∨ j = 4) : Fr M M' r := by
  subst e
  refine ⟨fun k h => setA_n (by omega), fun q h => by rw [setA_n (by omega)], fun q h => ?_⟩
  rcases hj with rfl | rfl | rfl
  · exact ⟨by rw [setA_s, uI_n h], by rw [setA_n (by decide)], by rw [setA_n (by decide)]⟩
  · exact ⟨by rw [setA_n (by decide)], by rw [setA_s, uI_n h], by rw [setA_n (by decide)]⟩
  · exact ⟨by rw [setA_n (by decide)], by rw [setA_n (by decide)], by rw [setA_s, uI_n h]⟩
theorem Rg.lt {M : Nat → Int → Int} {r : Int} {n N : Nat} {x sg : Int} (h : Rg M r n N x sg) : N < 10 ^ n := by
  have h1 := (dv_lt h.2.2.2.1).2
  rw [h.2.2.2.2, ← p10c] at h1
  omega
/-- digit of N * 10^x at 10^p -/
def dgt (N : Nat) (x p : Int) : Int := if p < x then 0 else ((N / 10 ^ (p - x).toNat % 10 : Nat) : Int)
theorem Rg.dig {M : Nat → Int → Int} {r : Int} {n N : Nat} {x sg k : Int} (h : Rg M r n N x sg) (h0 : 0 ≤ k) (hk : k < n) : M 1 (320 * r + k) = ((N / 10 ^ k.toNat % 10 : Nat) : Int) := by
  have h1 := dv_dig h.2.2.2.1 (k := k.toNat) (by omega)
  rw [h.2.2.2.2, Int.toNat_of_nonneg h0] at h1
  rw [← h1]
  simp
theorem Rg.hi {M : Nat → Int → Int} {r : Int} {n N : Nat} {x sg : Int} (h : Rg M r n N x sg) {k : Nat} (hk : n ≤ k) : N / 10 ^ k = 0 := by
  apply Nat.div_eq_of_lt
  exact Nat.lt_of_lt_of_le h.lt (Nat.pow_le_pow_right (by decide) hk)
theorem dgt_in (N : Nat) (x p : Int) : 0 ≤ dgt N x p ∧ dgt N x p ≤ 9 := by
  unfold dgt
  split
  · decide
  · have := Nat.mod_lt (N / 10 ^ (p - x).toNat) (show 10 > 0 by decide)
    omega
theorem Rg.at {M : Nat → Int → Int} {r : Int} {n N : Nat} {x sg P : Int} (h : Rg M r n N x sg) (h0 : 0 ≤ P - x) (hk : P - x < n) : M 1 (320 * r + (P - x)) = dgt N x P := by
  rw [h.dig h0 hk, dgt, if_neg (by omega)]
theorem Rg.out {M : Nat → Int → Int} {r : Int} {n N : Nat} {x sg P : Int} (h : Rg M r n N x sg) (h0 : P - x < 0 ∨ n ≤ P - x) : dgt N x P = 0 := by
  unfold dgt
  by_cases h1 : P < x
  · rw [if_pos h1]
  · rw [if_neg h1, h.hi (by omega)]; rfl
/-- copying digits from register f to t: k of them are there -/
def CpI (M0 M : Nat → Int → Int) (f t k : Int) : Prop := Fr M0 M t ∧ (M 2 = M0 2 ∧ M 3 = M0 3 ∧ M 4 = M0 4) ∧ ∀ q : Int, 0 ≤ q → q < k → M 1 (320 * t + q) = M0 1 (320 * f + q)
theorem CpI.start (M : Nat → Int → Int) (f t : Int) : CpI M M f t 0 := ⟨Fr.rf, ⟨rfl, rfl, rfl⟩, fun q h1 h2 => by omega⟩
theorem CpI.step {M0 M M1 : Nat → Int → Int} {f t k : Int} (h : CpI M0 M f t k) (hne : f ≠ t) (hk : 0 ≤ k ∧ k < 320) (e : M1 = setA M 1 (320 * t + k) (M 1 (320 * f + k))) : CpI M0 M1 f t (k + 1) := by
  refine ⟨h.1.tr (Fr.d e hk), ?_, fun q h1 h2 => ?_⟩
  · subst e
    exact ⟨(setA_n (by decide)).trans h.2.1.1, (setA_n (by decide)).trans h.2.1.2.1, (setA_n (by decide)).trans h.2.1.2.2⟩
  · subst e
    rw [setA_s]
    by_cases hq : q = k
    · subst hq
      rw [uI_s]
      exact h.1.2.1 _ (by omega)
    · rw [uI_n (by omega)]
      exact h.2.2 q h1 (by omega)
theorem CpI.fin {M0 M M1 M2 M3 : Nat → Int → Int} {f t : Int} {n N : Nat} {x sg : Int} (h : CpI M0 M f t n) (hne : f ≠ t) (hg : Rg M0 f n N x sg) (e1 : M1 = setA M 2 t (M 2 f)) (e2 : M2 = setA M1 3 t (M1 3 f)) (e3 : M3 = setA M2 4 t (M2 4 f)) : Fr M0 M3 t ∧ Rg M3 t n N x sg := by
  have hF := h.1.tr ((Fr.s e1 (by decide)).tr ((Fr.s e2 (by decide)).tr (Fr.s e3 (by decide))))
  obtain ⟨g1, g2, g3, g4, g5⟩ := hg
  obtain ⟨s1, s2, s3⟩ := h.2.1
  have d1 : M3 1 = M 1 := by subst e3 e2 e1; simp [setA]
  refine ⟨hF, ?_, ?_, ?_, ?_, ?_⟩
  · subst e3 e2 e1; simp [setA, uI]; rw [s1]; exact g1
  · subst e3 e2 e1; simp [setA, uI]; rw [s2]; exact g2
  · subst e3 e2 e1; simp [setA, uI]; rw [s3]; exact g3
  · intro k h1 h2
    rw [d1, h.2.2 k h1 h2]; exact g4 k h1 h2
  · rw [d1, ← g5]
    exact dv_congr (fun k h1 h2 => h.2.2 k h1 h2)
/-- moving the digits of register r down by d: k of them are there -/
def DrI (M0 M : Nat → Int → Int) (r d k : Int) : Prop := Fr M0 M r ∧ (M 2 = M0 2 ∧ M 3 = M0 3 ∧ M 4 = M0 4) ∧ (∀ q : Int, 0 ≤ q → q < k → M 1 (320 * r + q) = M0 1 (320 * r + q + d)) ∧ ∀ q : Int, k ≤ q → M 1 (320 * r + q) = M0 1 (320 * r + q)
theorem DrI.start (M : Nat → Int → Int) (r d : Int) : DrI M M r d 0 := ⟨Fr.rf, ⟨rfl, rfl, rfl⟩, fun q h1 h2 => by omega, fun _ _ => rfl⟩
theorem DrI.step {M0 M M1 : Nat → Int → Int} {r d k : Int} (h : DrI M0 M r d k) (hd : 0 ≤ d) (hk : 0 ≤ k ∧ k < 320) (e : M1 = setA M 1 (320 * r + k) (M 1 (320 * r + k + d))) : DrI M0 M1 r d (k + 1) := by
  refine ⟨h.1.tr (Fr.d e hk), ?_, fun q h1 h2 => ?_, fun q h1 => ?_⟩
  · subst e
    exact ⟨(setA_n (by decide)).trans h.2.1.1, (setA_n (by decide)).trans h.2.1.2.1, (setA_n (by decide)).trans h.2.1.2.2⟩
  · subst e
    rw [setA_s]
    by_cases hq : q = k
    · subst hq
      rw [uI_s, Int.add_assoc]
      exact h.2.2.2 _ (by omega)
    · rw [uI_n (by omega)]
      exact h.2.2.1 q h1 (by omega)
  · subst e
    rw [setA_s, uI_n (by omega)]
    exact h.2.2.2 q (by omega)
theorem DrI.fin {M0 M1 M2 M : Nat → Int → Int} {r : Int} {d n N : Nat} {x sg : Int} (hd : d ≤ n) (hg : Rg M0 r n N x sg) (e1 : M1 = setA M0 2 r (M0 2 r - d)) (e2 : M2 = setA M1 3 r (M1 3 r + d)) (h : DrI M2 M r d ((n - d : Nat) : Int)) : Fr M0 M r ∧ Rg M r (n - d) (N / 10 ^ d) (x + d) sg := by
  have hF := (Fr.s e1 (by decide)).tr ((Fr.s e2 (by decide)).tr h.1)
  obtain ⟨g1, g2, g3, g4, g5⟩ := hg
  obtain ⟨s1, s2, s3⟩ := h.2.1
  have d1 : M2 1 = M0 1 := by subst e2 e1; simp [setA]
  have hdig : ∀ k : Int, 0 ≤ k → k < (n - d : Nat) → M 1 (320 * r + k) = M0 1 (320 * r + d + k) := fun k h1 h2 => by
    rw [h.2.2.1 k h1 h2, d1]; congr 1; omega
  refine ⟨hF, ?_, ?_, ?_, ?_, ?_⟩
  · rw [s1]; subst e2 e1; simp [setA, uI]; rw [g1]; omega
  · rw [s2]; subst e2 e1; simp [setA, uI]; exact g2
  · rw [s3]; subst e2 e1; simp [setA]; exact g3
  · intro k h1 h2
    rw [hdig k h1 h2]
    have := g4 (d + k) (by omega) (by omega)
    rw [← Int.add_assoc] at this
    exact this
  · rw [dv_congr (G := M0 1) (c := 320 * r + d) hdig, ← dv_div (g4.le hd), show d + (n - d) = n by omega, g5]
    simp
def sgn (v : Int) : Int := if v < 0 then -1 else if 0 < v then 1 else 0
/-- the digits of |v| into register r: j of them are there, left is what is left -/
def WhI (M0 M : Nat → Int → Int) (r v left : Int) (j : Nat) : Prop := Fr M0 M r ∧ Rg M r j (v.natAbs % 10 ^ j) 0 0 ∧ left.natAbs = v.natAbs / 10 ^ j ∧ (0 ≤ v → 0 ≤ left) ∧ (v ≤ 0 → left ≤ 0) ∧ (j = 0 ∨ 10 ^ (j - 1) ≤ v.natAbs)
theorem WhI.start {M0 M : Nat → Int → Int} {r v : Int} (h : Fr M0 M r) (hg : Rg M r 0 0 0 0) : WhI M0 M r v v 0 := ⟨h, by simpa [Nat.mod_one] using hg, by simp, id, id, Or.inl rfl⟩
theorem WhI.lt {M0 M : Nat → Int → Int} {r v left : Int} {j : Nat} (h : WhI M0 M r v left j) (hv : inJ v) (hl : left ≠ 0) : j < 19 := by
  have h1 := h.2.2.1
  rcases Nat.lt_or_ge j 19 with h2 | h2
  · exact h2
  · have h3 : 10 ^ 19 ≤ 10 ^ j := Nat.pow_le_pow_right (by decide) h2
    have h5 : v.natAbs < 10 ^ 19 := by
      have h6 : (10 : Nat) ^ 19 = 10000000000000000000 := by decide
      omega
    have h4 : v.natAbs / 10 ^ j = 0 := Nat.div_eq_of_lt (Nat.lt_of_lt_of_le h5 h3)
    omega
theorem WhI.bd {M0 M : Nat → Int → Int} {r v left : Int} {j : Nat} (h : WhI M0 M r v left j) (hv : inJ v) : inJ left := by
  have h1 := h.2.2.1
  have h2 : v.natAbs / 10 ^ j ≤ v.natAbs := Nat.div_le_self _ _
  have h3 := h.2.2.2
  rcases Int.le_total 0 v with h4 | h4
  · have := h3.1 h4; omega
  · have := h3.2.1 h4; omega
theorem WhI.step {M0 M M1 M2 : Nat → Int → Int} {r v left d : Int} {j : Nat} (h : WhI M0 M r v left j) (hj : j < 320) (hl : left ≠ 0) (hd : d = ((left.natAbs % 10 : Nat) : Int)) (e1 : M1 = setA M 1 (320 * r + M 2 r) d) (e2 : M2 = setA M1 2 r (M1 2 r + 1)) : WhI M0 M2 r v (left.tdiv 10) (j + 1) := by
  obtain ⟨hF, ⟨g1, g2, g3, g4, g5⟩, hL, hp, hn, ht⟩ := h
  rw [g1] at e1
  have hF2 := hF.tr ((Fr.d e1 (by omega)).tr (Fr.s e2 (by decide)))
  have hm : left.natAbs % 10 < 10 := Nat.mod_lt _ (by decide)
  have d1 : M2 1 = uI (M 1) (320 * r + j) d := by subst e2 e1; simp [setA]
  have hlow : ∀ k : Int, 0 ≤ k → k < j → M2 1 (320 * r + k) = M 1 (320 * r + k) := fun k a b => by rw [d1, uI_n (by omega)]
  have htop : M2 1 (320 * r + j) = d := by rw [d1, uI_s]
  have hL2 : (left.tdiv 10).natAbs = v.natAbs / 10 ^ (j + 1) := by
    rw [Int.natAbs_tdiv, hL, Nat.pow_succ, ← Nat.div_div_eq_div_mul]; rfl
  refine ⟨hF2, ⟨?_, ?_, ?_, ?_, ?_⟩, hL2, fun a => Int.tdiv_nonneg (hp a) (by decide), fun a => ?_, Or.inr ?_⟩
  · subst e2 e1; simp [setA, uI]; exact g1
  · subst e2 e1; simp [setA]; exact g2
  · subst e2 e1; simp [setA]; exact g3
  · intro k a b
    by_cases hk : k < j
    · rw [hlow k a hk]; exact g4 k a hk
    · rw [show k = j by omega, htop]; omega
  · show dv (M2 1) (320 * r) j + M2 1 (320 * r + j) * 10 ^ j = _
    rw [dv_congr hlow, g5, htop, hd, hL, Nat.pow_succ, Nat.mod_mul]
    push_cast
    rw [Int.mul_comm]
  · have h1 := hn a
    have h2 : (-left).tdiv 10 = -(left.tdiv 10) := Int.neg_tdiv ..
    have h3 : 0 ≤ (-left).tdiv 10 := Int.tdiv_nonneg (by omega) (by decide)
    omega
  · rw [Nat.add_sub_cancel]
    have h1 : v.natAbs / 10 ^ j ≠ 0 := by omega
    rcases Nat.lt_or_ge v.natAbs (10 ^ j) with h2 | h2
    · exact absurd (Nat.div_eq_of_lt h2) h1
    · exact h2
theorem WhI.fin {M0 M M1 M2 : Nat → Int → Int} {r v x ex sg : Int} {j : Nat} (h : WhI M0 M r v 0 j) (e1 : M1 = setA M 4 r sg) (e2 : M2 = setA M1 3 r x) (hs : sg = sgn v) (hx : x = if v = 0 then 0 else ex) : Fr M0 M2 r ∧ Rg M2 r (nd v.natAbs) v.natAbs (if v = 0 then 0 else ex) (sgn v) := by
  obtain ⟨hF, ⟨g1, g2, g3, g4, g5⟩, hL, hp, hn, ht⟩ := h
  have h1 : v.natAbs < 10 ^ j := by
    have h2 : v.natAbs / 10 ^ j = 0 := by rw [← hL]; rfl
    exact Nat.lt_of_div_eq_zero (p10N j) h2
  have h3 : nd v.natAbs = j := by
    rcases ht with h4 | h4
    · subst h4; simp at h1; subst h1; exact nd_0
    · cases j with
      | zero => simp at h1; subst h1; exact nd_0
      | succ j => rw [Nat.add_sub_cancel] at h4; exact nd_uniq h4 h1
  have d1 : M2 1 = M 1 := by subst e2 e1; simp [setA]
  rw [h3]
  refine ⟨hF.tr ((Fr.s e1 (by decide)).tr (Fr.s e2 (by decide))), ?_, ?_, ?_, ?_, ?_⟩
  · subst e2 e1; simp [setA]; exact g1
  · subst e2 e1; simp [setA, uI]; exact hx
  · subst e2 e1; simp [setA, uI]; exact hs
  · rw [d1]; exact g4
  · rw [d1, g5, Nat.mod_eq_of_lt h1]
/-- cut to so many digits, the zeros behind taken off -/
def cutC (most N : Nat) : Nat := N / 10 ^ (nd N - most) / 10 ^ tz (N / 10 ^ (nd N - most))
def cutX (most N : Nat) (x : Int) : Int := x + (nd N - most : Nat) + tz (N / 10 ^ (nd N - most))
/-- what a register holds behind cut, and what cut answers -/
def cutOk (M : Nat → Int → Int) (r : Int) (most N : Nat) (x sg z : Int) : Prop := ((N = 0 ∨ (nd N : Int) + x - 1 < -99) ∧ z = 0 ∧ Rg M r 0 0 0 0) ∨ (N ≠ 0 ∧ -99 ≤ (nd N : Int) + x - 1 ∧ z = (if 99 ≤ (nd N : Int) + x - 1 then 1 else 0) ∧ Rg M r (nd (cutC most N)) (cutC most N) (cutX most N x) sg)
theorem Rg.set2 {M M1 : Nat → Int → Int} {r x sg v : Int} {n n' N : Nat} (hg : Rg M r n N x sg) (e : M1 = setA M 2 r v) (hv : v = n') (hn : n' ≤ n) (hd : dv (M 1) (320 * r) n' = N) : Rg M1 r n' N x sg := by
  obtain ⟨g1, g2, g3, g4, g5⟩ := hg
  have d1 : M1 1 = M 1 := by subst e; simp [setA]
  refine ⟨?_, ?_, ?_, ?_, ?_⟩
  · subst e; simp [setA, uI]; exact hv
  · subst e; simp [setA]; exact g2
  · subst e; simp [setA]; exact g3
  · rw [d1]; exact g4.le hn
  · rw [d1]; exact hd
theorem Rg.strip {M M1 : Nat → Int → Int} {r x sg v : Int} {n N : Nat} (hg : Rg M r (n + 1) N x sg) (hz : M 1 (320 * r + n) = 0) (e : M1 = setA M 2 r v) (hv : v = n) : Rg M1 r n N x sg := by
  refine hg.set2 e hv (by omega) ?_
  have h := hg.2.2.2.2
  have h2 : dv (M 1) (320 * r) (n + 1) = dv (M 1) (320 * r) n + M 1 (320 * r + n) * 10 ^ n := rfl
  rw [h2, hz] at h
  omega
theorem Rg.ndE {M : Nat → Int → Int} {r x sg : Int} {n N : Nat} (hg : Rg M r n N x sg) (h : n = 0 ∨ M 1 (320 * r + ((n : Int) - 1)) ≠ 0) : n = nd N := by
  cases n with
  | zero => have h1 := hg.lt; simp at h1; subst h1; exact nd_0.symm
  | succ n =>
    have h1 := hg.dig (k := (n : Int)) (by omega) (by omega)
    have e : ((n + 1 : Nat) : Int) - 1 = n := by omega
    rw [e, h1, Int.toNat_natCast] at h
    have h2 := hg.lt
    have h3 : 10 ^ n ≤ N := by
      rcases Nat.lt_or_ge N (10 ^ n) with h4 | h4
      · rw [Nat.div_eq_of_lt h4] at h
        rcases h with h | h
        · omega
        · exact absurd rfl h
      · exact h4
    exact (nd_uniq h3 h2).symm
theorem dv_zero {F : Int → Int} {b : Int} {n : Nat} (h : ∀ k : Int, 0 ≤ k → k < n → F (b + k) = 0) : dv F b n = 0 := by
  induction n with
  | zero => rfl
  | succ n ih =>
    show dv F b n + F (b + n) * 10 ^ n = 0
    rw [ih (fun k h1 h2 => h k h1 (by omega)), h n (by omega) (by omega)]
    simp
theorem Rg.tzE {M : Nat → Int → Int} {r x sg k : Int} {n N : Nat} (hg : Rg M r n N x sg) (hn : n = nd N) (hz : ∀ q : Int, 0 ≤ q → q < k → M 1 (320 * r + q) = 0) (hk : 0 ≤ k ∧ k ≤ n) (he : k = n ∨ M 1 (320 * r + k) ≠ 0) : k = tz N := by
  by_cases h0 : N = 0
  · subst h0; rw [nd_0] at hn; rw [tz_0]; omega
  · obtain ⟨j, rfl⟩ : ∃ j : Nat, k = j := ⟨k.toNat, by omega⟩
    have h1 : dv (M 1) (320 * r) j = 0 := dv_zero hz
    have h2 : N % 10 ^ j = 0 := by
      have h3 := dv_mod (F := M 1) (b := 320 * r) (d := j) (m := n - j) (hg.2.2.2.1.le (by omega))
      rw [show j + (n - j) = n by omega, hg.2.2.2.2, h1, ← p10c, ← Int.natCast_emod] at h3
      omega
    have h4 : (j : Int) ≠ n := fun e => h0 (by
      have e2 : j = n := by omega
      subst e2
      have := hg.2.2.2.2
      omega)
    have h5 := hg.dig (k := (j : Int)) (by omega) (by omega)
    have h6 : N / 10 ^ j % 10 ≠ 0 := fun e => by
      rw [Int.toNat_natCast, e] at h5
      rcases he with he | he
      · exact h4 he
      · exact he h5
    rw [tz_uniq h2 h6]
theorem cut_nd {most N : Nat} {x : Int} (hm : 1 ≤ most) : (N = 0 → nd (cutC most N) = 0) ∧ (N ≠ 0 → nd (cutC most N) ≠ 0 ∧ (nd (cutC most N) : Int) + cutX most N x = nd N + x) := by
  refine ⟨fun h => by subst h; unfold cutC; simp [nd_0], fun h => ?_⟩
  have h1 : nd N ≠ 0 := by rw [nd_pos h]; omega
  have h2 := nd_div (n := N) (k := nd N - most)
  have h3 : N / 10 ^ (nd N - most) ≠ 0 := fun e => by rw [e, nd_0] at h2; omega
  have h4 := tz_lt h3
  have h5 := nd_div (n := N / 10 ^ (nd N - most)) (k := tz (N / 10 ^ (nd N - most)))
  unfold cutC cutX
  omega
theorem cut_bd (N : Nat) (x : Int) {most : Nat} (hm : 1 ≤ most) : x ≤ cutX most N x ∧ cutX most N x ≤ x + nd N ∧ nd (cutC most N) ≤ nd N := by
  have h2 := nd_div (n := N) (k := nd N - most)
  have h5 := nd_div (n := N / 10 ^ (nd N - most)) (k := tz (N / 10 ^ (nd N - most)))
  by_cases h : N / 10 ^ (nd N - most) = 0
  · have e : cutC most N = 0 := by unfold cutC; rw [h]; simp
    have e2 : cutX most N x = x + (nd N - most : Nat) := by unfold cutX; rw [h, tz_0]; simp
    rw [e, e2, nd_0]
    omega
  · have h4 := tz_lt h
    unfold cutC cutX
    omega
end
section
set_option maxHeartbeats 4000000 in
set_option maxRecDepth 100000 in
/-- thrown() -/
theorem t_Mo_thrown (l : Launch) (D : va_G) (cs : Nat → ClassId) (Z : (Nat → Prop) → State → Heap → Prop) (hZo : fm_Zok Z) (ad : Nat → Nat) (μ : fm_Mu) (V : Nat → Int) (M : Nat → Int → Int) (sz : Nat)  (hM : moS cs μ ad V M)  : Met l y_Mo_thrown (Cond.code y_Mo_thrown c_Mo_thrown 1 (some .int) :: wA) ({ frames := 0, cells := 0, slots := 0, locals := 0 }) (fm_Pc D clsA (tysA cs) Z μ sz [.ref (ad 0)]) (fm_Si (fun x => x = V 0)) 0 0 (fun _ => False) := by
  refine mo_of hM (by decide +kernel) (Nat.le_of_ble_eq_true rfl) (fun p e s m below meth c S hr hlocks hsz hm hK hZ hA ls hl => ?_)
  subst hsz
  obtain ⟨hx, hb, hml, hown, hts⟩ := id S
  have hl : lv_has ls 1 [(0, .ref (ad 0))] := hl
  refine lv_aload_n hx hb d_Mo_thrown_0 rfl (lv_at hl 0 rfl) ?_
  refine mo_get 0 S hK hm (by decide) k466 rfl rfl d_Mo_thrown_1 ?_
  refine fm_iretS S hr hlocks d_Mo_thrown_4 ?_
  rfl

set_option maxHeartbeats 4000000 in
set_option maxRecDepth 100000 in
/-- isNode(n) -/
theorem t_Mo_isNode (l : Launch) (D : va_G) (cs : Nat → ClassId) (Z : (Nat → Prop) → State → Heap → Prop) (hZo : fm_Zok Z) (ad : Nat → Nat) (μ : fm_Mu) (V : Nat → Int) (M : Nat → Int → Int) (sz : Nat) (n : Int) (hM : moS cs μ ad V M) (hn : inI n) (hV : 0 ≤ V 12 ∧ V 12 ≤ 100) : Met l y_Mo_isNode (Cond.code y_Mo_isNode c_Mo_isNode 2 (some .boolean) :: wA) ({ frames := 0, cells := 0, slots := 0, locals := 0 }) (fm_Pc D clsA (tysA cs) Z μ sz [.ref (ad 0), .int (iN (n))]) (fm_Si (fun x => (x = 1 ∧ 0 < n ∧ n ≤ V 12) ∨ (x = 0 ∧ ¬ (0 < n ∧ n ≤ V 12)))) 0 0 (fun _ => False) := by
  refine mo_of hM (by decide +kernel) (Nat.le_of_ble_eq_true rfl) (fun p e s m below meth c S hr hlocks hsz hm hK hZ hA ls hl => ?_)
  subst hsz
  obtain ⟨hx, hb, hml, hown, hts⟩ := id S
  have hl : lv_has ls 2 [(0, .ref (ad 0)), (1, .int (iN (n)))] := hl
  refine lv_iload_n hx hb d_Mo_isNode_0 rfl (lv_at hl 1 rfl) ?_
  refine fm_if_le (tgt := 16) S (by omega) d_Mo_isNode_1 (by decide) (fun c1 => ?_) (fun c1 => ?_)
  · refine fm_iconst S d_Mo_isNode_16 ?_
    refine fm_zretS S hr hlocks (by omega) d_Mo_isNode_17 ?_
    omega
  · refine lv_iload_n hx hb d_Mo_isNode_4 rfl (lv_at hl 1 rfl) ?_
    refine lv_aload_n hx hb d_Mo_isNode_5 rfl (lv_at hl 0 rfl) ?_
    refine mo_get 12 S hK hm (by decide) k478 rfl rfl d_Mo_isNode_6 ?_
    refine fm_icmp_gt (tgt := 16) S (by omega) (by omega) d_Mo_isNode_9 (by decide) (fun c2 => ?_) (fun c2 => ?_)
    · refine fm_iconst S d_Mo_isNode_16 ?_
      refine fm_zretS S hr hlocks (by omega) d_Mo_isNode_17 ?_
      omega
    · refine fm_iconst S d_Mo_isNode_12 ?_
      refine lv_goto (tgt := 17) hx hb d_Mo_isNode_13 (by decide) ?_
      refine fm_zretS S hr hlocks (by omega) d_Mo_isNode_17 ?_
      omega

set_option maxHeartbeats 4000000 in
set_option maxRecDepth 100000 in
/-- isReceiver(n) -/
theorem t_Mo_isReceiver (l : Launch) (D : va_G) (cs : Nat → ClassId) (Z : (Nat → Prop) → State → Heap → Prop) (hZo : fm_Zok Z) (ad : Nat → Nat) (μ : fm_Mu) (V : Nat → Int) (M : Nat → Int → Int) (sz : Nat) (n : Int) (hM : moS cs μ ad V M) (hn : inI n) (hV : 0 ≤ V 13 ∧ V 13 ≤ 20) : Met l y_Mo_isReceiver (Cond.code y_Mo_isReceiver c_Mo_isReceiver 2 (some .boolean) :: wA) ({ frames := 0, cells := 0, slots := 0, locals := 0 }) (fm_Pc D clsA (tysA cs) Z μ sz [.ref (ad 0), .int (iN (n))]) (fm_Si (fun x => (x = 1 ∧ 0 < n ∧ n ≤ V 13) ∨ (x = 0 ∧ ¬ (0 < n ∧ n ≤ V 13)))) 0 0 (fun _ => False) := by
  refine mo_of hM (by decide +kernel) (Nat.le_of_ble_eq_true rfl) (fun p e s m below meth c S hr hlocks hsz hm hK hZ hA ls hl => ?_)
  subst hsz
  obtain ⟨hx, hb, hml, hown, hts⟩ := id S
  have hl : lv_has ls 2 [(0, .ref (ad 0)), (1, .int (iN (n)))] := hl
  refine lv_iload_n hx hb d_Mo_isReceiver_0 rfl (lv_at hl 1 rfl) ?_
  refine fm_if_le (tgt := 16) S (by omega) d_Mo_isReceiver_1 (by decide) (fun c1 => ?_) (fun c1 => ?_)
  · refine fm_iconst S d_Mo_isReceiver_16 ?_
    refine fm_zretS S hr hlocks (by omega) d_Mo_isReceiver_17 ?_
    omega
  · refine lv_iload_n hx hb d_Mo_isReceiver_4 rfl (lv_at hl 1 rfl) ?_
    refine lv_aload_n hx hb d_Mo_isReceiver_5 rfl (lv_at hl 0 rfl) ?_
    refine mo_get 13 S hK hm (by decide) k479 rfl rfl d_Mo_isReceiver_6 ?_
    refine fm_icmp_gt (tgt := 16) S (by omega) (by omega) d_Mo_isReceiver_9 (by decide) (fun c2 => ?_) (fun c2 => ?_)
    · refine fm_iconst S d_Mo_isReceiver_16 ?_
      refine fm_zretS S hr hlocks (by omega) d_Mo_isReceiver_17 ?_
      omega
    · refine fm_iconst S d_Mo_isReceiver_12 ?_
      refine lv_goto (tgt := 17) hx hb d_Mo_isReceiver_13 (by decide) ?_
      refine fm_zretS S hr hlocks (by omega) d_Mo_isReceiver_17 ?_
      omega

set_option maxHeartbeats 4000000 in
set_option maxRecDepth 100000 in
/-- topOf(r) -/
theorem t_Mo_topOf (l : Launch) (D : va_G) (cs : Nat → ClassId) (Z : (Nat → Prop) → State → Heap → Prop) (hZo : fm_Zok Z) (ad : Nat → Nat) (μ : fm_Mu) (V : Nat → Int) (M : Nat → Int → Int) (sz : Nat) (r : Int) (hM : moS cs μ ad V M) (hr0 : 0 ≤ r ∧ r < 7) : Met l y_Mo_topOf (Cond.code y_Mo_topOf c_Mo_topOf 2 (some .int) :: wA) ({ frames := 0, cells := 0, slots := 0, locals := 0 }) (fm_Pc D clsA (tysA cs) Z μ sz [.ref (ad 0), .int (iN (r))]) (fm_Si (fun x => x = M 2 r + M 3 r)) 0 0 (fun _ => False) := by
  refine mo_of hM (by decide +kernel) (Nat.le_of_ble_eq_true rfl) (fun p e s m below meth c S hr hlocks hsz hm hK hZ hA ls hl => ?_)
  subst hsz
  obtain ⟨hx, hb, hml, hown, hts⟩ := id S
  have hl : lv_has ls 2 [(0, .ref (ad 0)), (1, .int (iN (r)))] := hl
  refine lv_aload_n hx hb d_Mo_topOf_0 rfl (lv_at hl 0 rfl) ?_
  refine mo_get 3 S hK hm (by decide) k469 rfl rfl d_Mo_topOf_1 ?_
  refine lv_iload_n hx hb d_Mo_topOf_4 rfl (lv_at hl 1 rfl) ?_
  refine mo_iald 2 S hK hm (by decide) (by simp only [moLen]; omega) d_Mo_topOf_5 ?_
  refine lv_aload_n hx hb d_Mo_topOf_6 rfl (lv_at hl 0 rfl) ?_
  refine mo_get 4 S hK hm (by decide) k470 rfl rfl d_Mo_topOf_7 ?_
  refine lv_iload_n hx hb d_Mo_topOf_10 rfl (lv_at hl 1 rfl) ?_
  refine mo_iald 3 S hK hm (by decide) (by simp only [moLen]; omega) d_Mo_topOf_11 ?_
  refine fm_iadd S d_Mo_topOf_12 ?_
  refine fm_iretS S hr hlocks d_Mo_topOf_13 ?_
  rfl
end
section
set_option maxHeartbeats 4000000 in
set_option maxRecDepth 100000 in
/-- zero(r) -/
theorem t_Mo_zero (l : Launch) (D : va_G) (cs : Nat → ClassId) (Z : (Nat → Prop) → State → Heap → Prop) (hZo : fm_Zok Z) (ad : Nat → Nat) (μ : fm_Mu) (V : Nat → Int) (M : Nat → Int → Int) (sz : Nat) (r : Int) (hM : moS cs μ ad V M) (hr0 : 0 ≤ r ∧ r < 7) : Met l y_Mo_zero (Cond.code y_Mo_zero c_Mo_zero 2 none :: wA) ({ frames := 0, cells := 0, slots := 0, locals := 0 }) (fm_Pc D clsA (tysA cs) Z μ sz [.ref (ad 0), .int (iN (r))]) (moQv D cs ad μ sz (fun V' M' => V' = V ∧ Fr M M' r ∧ Rg M' r 0 0 0 0)) 0 0 (fm_A μ sz) := by
  refine mo_of hM (by decide +kernel) (Nat.le_of_ble_eq_true rfl) (fun p e s m below meth c S hr hlocks hsz hm hK hZ hA ls hl => ?_)
  subst hsz
  obtain ⟨hx, hb, hml, hown, hts⟩ := id S
  have hl : lv_has ls 2 [(0, .ref (ad 0)), (1, .int (iN (r)))] := hl
  refine lv_aload_n hx hb d_Mo_zero_0 rfl (lv_at hl 0 rfl) ?_
  refine mo_get 3 S hK hm (by decide) k469 rfl rfl d_Mo_zero_1 ?_
  refine lv_iload_n hx hb d_Mo_zero_4 rfl (lv_at hl 1 rfl) ?_
  refine fm_iconst S d_Mo_zero_5 ?_
  refine mo_iast 2 S hK hm (by decide) (by simp only [moLen]; omega) d_Mo_zero_6 (fun M1 H locs eM1 hm => ?_)
  refine lv_aload_n hx hb d_Mo_zero_7 rfl (lv_at hl 0 rfl) ?_
  refine mo_get 4 S hK hm (by decide) k470 rfl rfl d_Mo_zero_8 ?_
  refine lv_iload_n hx hb d_Mo_zero_11 rfl (lv_at hl 1 rfl) ?_
  refine fm_iconst S d_Mo_zero_12 ?_
  refine mo_iast 3 S hK hm (by decide) (by simp only [moLen]; omega) d_Mo_zero_13 (fun M2 H locs eM2 hm => ?_)
  refine lv_aload_n hx hb d_Mo_zero_14 rfl (lv_at hl 0 rfl) ?_
  refine mo_get 5 S hK hm (by decide) k471 rfl rfl d_Mo_zero_15 ?_
  refine lv_iload_n hx hb d_Mo_zero_18 rfl (lv_at hl 1 rfl) ?_
  refine fm_iconst S d_Mo_zero_19 ?_
  refine mo_iast 4 S hK hm (by decide) (by simp only [moLen]; omega) d_Mo_zero_20 (fun M3 H locs eM3 hm => ?_)
  refine mo_vret S hr hlocks hK hm d_Mo_zero_21 ?_
  exact ⟨rfl, (Fr.s eM1 (by decide)).tr ((Fr.s eM2 (by decide)).tr (Fr.s eM3 (by decide))), by subst eM3 eM2 eM1; refine ⟨?_, ?_, ?_, fun k h1 h2 => ?_, rfl⟩ <;> first | (exfalso; omega) | (simp [setA, uI])⟩

set_option maxHeartbeats 4000000 in
set_option maxRecDepth 100000 in
/-- Mo_digitAt -/
theorem t_Mo_digitAt (l : Launch) (D : va_G) (cs : Nat → ClassId) (Z : (Nat → Prop) → State → Heap → Prop) (hZo : fm_Zok Z) (ad : Nat → Nat) (μ : fm_Mu) (V : Nat → Int) (M : Nat → Int → Int) (sz : Nat) (r : Int) (P : Int) (n : Nat) (N : Nat) (x : Int) (sg : Int) (hM : moS cs μ ad V M) (hr0 : 0 ≤ r ∧ r < 7) (hg : Rg M r n N x sg) (hb0 : n ≤ 320 ∧ -1000000 ≤ x ∧ x ≤ 1000000 ∧ -1000000 ≤ P ∧ P ≤ 1000000) : Met l y_Mo_digitAt (Cond.code y_Mo_digitAt c_Mo_digitAt 4 (some .int) :: wA) ({ frames := 0, cells := 0, slots := 0, locals := 0 }) (fm_Pc D clsA (tysA cs) Z μ sz [.ref (ad 0), .int (iN (r)), .int (iN (P))]) (fm_Si (fun z => z = dgt N x P)) 0 0 (fun _ => False) := by
  refine mo_of hM (by decide +kernel) (Nat.le_of_ble_eq_true rfl) (fun p e s m below meth c S hr hlocks hsz hm hK hZ hA ls hl => ?_)
  subst hsz
  obtain ⟨hx, hb, hml, hown, hts⟩ := id S
  have hl : lv_has ls 4 [(0, .ref (ad 0)), (1, .int (iN (r))), (2, .int (iN (P)))] := hl
  have h2 := hg.1
  have h3 := hg.2.1
  refine lv_iload_n hx hb d_Mo_digitAt_0 rfl (lv_at hl 2 rfl) ?_
  refine lv_aload_n hx hb d_Mo_digitAt_1 rfl (lv_at hl 0 rfl) ?_
  refine mo_get 4 S hK hm (by decide) k470 rfl rfl d_Mo_digitAt_2 ?_
  refine lv_iload_n hx hb d_Mo_digitAt_5 rfl (lv_at hl 1 rfl) ?_
  refine mo_iald 3 S hK hm (by decide) (by simp only [moLen]; omega) d_Mo_digitAt_6 ?_
  refine fm_isub S d_Mo_digitAt_7 ?_
  refine fm_topi (fun x1 hx1 => ?_)
  refine lv_istore_n (lv' := [(3, .int (iN (x1))), (0, .ref (ad 0)), (1, .int (iN (r))), (2, .int (iN (P)))]) hx hb d_Mo_digitAt_8 rfl hl (by decide) rfl (fun ls hl => ?_)
  refine lv_iload_n hx hb d_Mo_digitAt_9 rfl (lv_at hl 0 rfl) ?_
  refine fm_if_lt (tgt := 38) S (by omega) d_Mo_digitAt_10 (by decide) (fun c2 => ?_) (fun c2 => ?_)
  · refine fm_iconst S d_Mo_digitAt_38 ?_
    refine fm_iretS S hr hlocks d_Mo_digitAt_39 ?_
    have e : x1 = P - x := by omega
    subst e
    first | exact hg.at (by omega) (by omega) | exact (hg.out (by omega)).symm
  · refine lv_iload_n hx hb d_Mo_digitAt_13 rfl (lv_at hl 0 rfl) ?_
    refine lv_aload_n hx hb d_Mo_digitAt_14 rfl (lv_at hl 1 rfl) ?_
    refine mo_get 3 S hK hm (by decide) k469 rfl rfl d_Mo_digitAt_15 ?_
    refine lv_iload_n hx hb d_Mo_digitAt_18 rfl (lv_at hl 2 rfl) ?_
    refine mo_iald 2 S hK hm (by decide) (by simp only [moLen]; omega) d_Mo_digitAt_19 ?_
    refine fm_icmp_ge (tgt := 38) S (by omega) (by omega) d_Mo_digitAt_20 (by decide) (fun c3 => ?_) (fun c3 => ?_)
    · refine fm_iconst S d_Mo_digitAt_38 ?_
      refine fm_iretS S hr hlocks d_Mo_digitAt_39 ?_
      have e : x1 = P - x := by omega
      subst e
      first | exact hg.at (by omega) (by omega) | exact (hg.out (by omega)).symm
    · refine lv_aload_n hx hb d_Mo_digitAt_23 rfl (lv_at hl 1 rfl) ?_
      refine mo_get 2 S hK hm (by decide) k468 rfl rfl d_Mo_digitAt_24 ?_
      refine fm_sipush S d_Mo_digitAt_27 (by decide) ?_
      refine lv_iload_n hx hb d_Mo_digitAt_30 rfl (lv_at hl 2 rfl) ?_
      refine fm_imul S d_Mo_digitAt_31 ?_
      refine lv_iload_n hx hb d_Mo_digitAt_32 rfl (lv_at hl 0 rfl) ?_
      refine fm_iadd S d_Mo_digitAt_33 ?_
      refine mo_iald 1 S hK hm (by decide) (by simp only [moLen]; omega) d_Mo_digitAt_34 ?_
      refine lv_goto (tgt := 39) hx hb d_Mo_digitAt_35 (by decide) ?_
      refine fm_iretS S hr hlocks d_Mo_digitAt_39 ?_
      have e : x1 = P - x := by omega
      subst e
      first | exact hg.at (by omega) (by omega) | exact (hg.out (by omega)).symm

set_option maxHeartbeats 4000000 in
set_option maxRecDepth 100000 in
/-- L_copy -/
theorem L_copy {p : Program} {l : Launch} {e : Env} {s : State} {m : MethodId} {args : Array Value} {below : List Frame} {meth : Method} {c : Code} {Q : State → Prop} {D : va_G} {cs : Nat → ClassId} {Z : (Nat → Prop) → State → Heap → Prop} {ad : Nat → Nat} {μ0 : fm_Mu} {A : Nat → Prop} {R : Room} (S : CallFix p m c c_Mo_copy 4 s args wA "ArithmeticFormsModel") (hK : va_K D clsA (tysA cs) s) (hZo : fm_Zok Z) (hZ : Z A s s.heap) (hA : ∀ q, s.heap.size ≤ q → A q) (V : Nat → Int) (M0 : Nat → Int → Int) (f t : Int) (n : Nat) (hft : 0 ≤ f ∧ f < 7 ∧ 0 ≤ t ∧ t < 7 ∧ f ≠ t ∧ n ≤ 320) (hn0 : M0 2 f = n) (kk42 : ∀ (M : Nat → Int → Int) (k : Int) (H : Heap) (locs : List Loc) (ls : Array Slot), (k = n) → (CpI M0 M f t k) → lv_has ls 4 [(3, .int (iN (k))), (0, .ref (ad 0)), (1, .int (iN (f))), (2, .int (iN (t)))] → moW D A s.heap μ0 cs ad V M H locs → W p l e R s m args below meth c H locs 0 0 Q (F0 m 42 ls [])) : ∀ (fu : Nat) (M : Nat → Int → Int) (k : Int) (H : Heap) (locs : List Loc) (ls : Array Slot), n - k < (fu : Int) → (0 ≤ k ∧ k ≤ n) → (CpI M0 M f t k) → lv_has ls 4 [(3, .int (iN (k))), (0, .ref (ad 0)), (1, .int (iN (f))), (2, .int (iN (t)))] → moW D A s.heap μ0 cs ad V M H locs → W p l e R s m args below meth c H locs 0 0 Q (F0 m 2 ls []) := by
  obtain ⟨hx, hb, hml, hown, hts⟩ := id S
  intro fu
  induction fu with
  | zero =>
    intro M k H locs ls hn hk hc hl hm
    exfalso; omega
  | succ fu ih =>
    intro M k H locs ls hn hk hc hl hm
    have e2 : M 2 f = n := by rw [hc.2.1.1]; exact hn0
    refine lv_iload_n hx hb d_Mo_copy_2 rfl (lv_at hl 0 rfl) ?_
    refine lv_aload_n hx hb d_Mo_copy_3 rfl (lv_at hl 1 rfl) ?_
    refine mo_get 3 S hK hm (by decide) k469 rfl rfl d_Mo_copy_4 ?_
    refine lv_iload_n hx hb d_Mo_copy_7 rfl (lv_at hl 2 rfl) ?_
    refine mo_iald 2 S hK hm (by decide) (by simp only [moLen]; omega) d_Mo_copy_8 ?_
    refine fm_icmp_ge (tgt := 42) S (by omega) (by omega) d_Mo_copy_9 (by decide) (fun c1 => ?_) (fun c1 => ?_)
    · exact kk42 M k _ _ _ (by omega) (hc) (lv_sub hl [0, 1, 2, 3] rfl) hm
    · refine lv_aload_n hx hb d_Mo_copy_12 rfl (lv_at hl 1 rfl) ?_
      refine mo_get 2 S hK hm (by decide) k468 rfl rfl d_Mo_copy_13 ?_
      refine fm_sipush S d_Mo_copy_16 (by decide) ?_
      refine lv_iload_n hx hb d_Mo_copy_19 rfl (lv_at hl 3 rfl) ?_
      refine fm_imul S d_Mo_copy_20 ?_
      refine lv_iload_n hx hb d_Mo_copy_21 rfl (lv_at hl 0 rfl) ?_
      refine fm_iadd S d_Mo_copy_22 ?_
      refine lv_aload_n hx hb d_Mo_copy_23 rfl (lv_at hl 1 rfl) ?_
      refine mo_get 2 S hK hm (by decide) k468 rfl rfl d_Mo_copy_24 ?_
      refine fm_sipush S d_Mo_copy_27 (by decide) ?_
      refine lv_iload_n hx hb d_Mo_copy_30 rfl (lv_at hl 2 rfl) ?_
      refine fm_imul S d_Mo_copy_31 ?_
      refine lv_iload_n hx hb d_Mo_copy_32 rfl (lv_at hl 0 rfl) ?_
      refine fm_iadd S d_Mo_copy_33 ?_
      refine mo_iald 1 S hK hm (by decide) (by simp only [moLen]; omega) d_Mo_copy_34 ?_
      refine mo_iast 1 S hK hm (by decide) (by simp only [moLen]; omega) d_Mo_copy_35 (fun M2 H locs eM2 hm => ?_)
      refine lv_iinc (v := iN ((k + 1))) (lv' := [(3, .int (iN ((k + 1)))), (0, .ref (ad 0)), (1, .int (iN (f))), (2, .int (iN (t)))]) hx hb d_Mo_copy_36 hl (k := 0) rfl (iN_add _ _) (by decide) rfl (fun ls hl => ?_)
      refine lv_goto (tgt := 2) hx hb d_Mo_copy_39 (by decide) ?_
      exact ih M2 (k + 1) _ _ _ (by omega) (by omega) (hc.step hft.2.2.2.2.1 (by omega) eM2) (lv_sub hl [0, 1, 2, 3] rfl) hm

set_option maxHeartbeats 4000000 in
set_option maxRecDepth 100000 in
/-- copy(f, t) -/
theorem t_Mo_copy (l : Launch) (D : va_G) (cs : Nat → ClassId) (Z : (Nat → Prop) → State → Heap → Prop) (hZo : fm_Zok Z) (ad : Nat → Nat) (μ : fm_Mu) (V : Nat → Int) (M : Nat → Int → Int) (sz : Nat) (f : Int) (t : Int) (n : Nat) (N : Nat) (x : Int) (sg : Int) (hM : moS cs μ ad V M) (hg : Rg M f n N x sg) (hft : 0 ≤ f ∧ f < 7 ∧ 0 ≤ t ∧ t < 7 ∧ f ≠ t ∧ n ≤ 320) : Met l y_Mo_copy (Cond.code y_Mo_copy c_Mo_copy 4 none :: wA) ({ frames := 0, cells := 0, slots := 0, locals := 0 }) (fm_Pc D clsA (tysA cs) Z μ sz [.ref (ad 0), .int (iN (f)), .int (iN (t))]) (moQv D cs ad μ sz (fun V' M' => V' = V ∧ Fr M M' t ∧ Rg M' t n N x sg)) 0 0 (fm_A μ sz) := by
  refine mo_of hM (by decide +kernel) (Nat.le_of_ble_eq_true rfl) (fun p e s m below meth c S hr hlocks hsz hm hK hZ hA ls hl => ?_)
  subst hsz
  obtain ⟨hx, hb, hml, hown, hts⟩ := id S
  have hl : lv_has ls 4 [(0, .ref (ad 0)), (1, .int (iN (f))), (2, .int (iN (t)))] := hl
  refine fm_iconst S d_Mo_copy_0 ?_
  refine lv_istore_n (lv' := [(3, .int (iN (0))), (0, .ref (ad 0)), (1, .int (iN (f))), (2, .int (iN (t)))]) hx hb d_Mo_copy_1 rfl hl (by decide) rfl (fun ls hl => ?_)
  refine L_copy (Z := Z) S hK hZo hZ hA V M f t n hft hg.1 (fun M1 k H locs ls hk hc hl hm => ?_) (n + 1) M 0 _ _ _ (by omega) (by omega) (CpI.start M f t) (lv_sub hl [0, 1, 2, 3] rfl) hm
  refine lv_aload_n hx hb d_Mo_copy_42 rfl (lv_at hl 1 rfl) ?_
  refine mo_get 3 S hK hm (by decide) k469 rfl rfl d_Mo_copy_43 ?_
  refine lv_iload_n hx hb d_Mo_copy_46 rfl (lv_at hl 3 rfl) ?_
  refine lv_aload_n hx hb d_Mo_copy_47 rfl (lv_at hl 1 rfl) ?_
  refine mo_get 3 S hK hm (by decide) k469 rfl rfl d_Mo_copy_48 ?_
  refine lv_iload_n hx hb d_Mo_copy_51 rfl (lv_at hl 2 rfl) ?_
  refine mo_iald 2 S hK hm (by decide) (by simp only [moLen]; omega) d_Mo_copy_52 ?_
  refine mo_iast 2 S hK hm (by decide) (by simp only [moLen]; omega) d_Mo_copy_53 (fun M2 H locs eM2 hm => ?_)
  refine lv_aload_n hx hb d_Mo_copy_54 rfl (lv_at hl 1 rfl) ?_
  refine mo_get 4 S hK hm (by decide) k470 rfl rfl d_Mo_copy_55 ?_
  refine lv_iload_n hx hb d_Mo_copy_58 rfl (lv_at hl 3 rfl) ?_
  refine lv_aload_n hx hb d_Mo_copy_59 rfl (lv_at hl 1 rfl) ?_
  refine mo_get 4 S hK hm (by decide) k470 rfl rfl d_Mo_copy_60 ?_
  refine lv_iload_n hx hb d_Mo_copy_63 rfl (lv_at hl 2 rfl) ?_
  refine mo_iald 3 S hK hm (by decide) (by simp only [moLen]; omega) d_Mo_copy_64 ?_
  refine mo_iast 3 S hK hm (by decide) (by simp only [moLen]; omega) d_Mo_copy_65 (fun M3 H locs eM3 hm => ?_)
  refine lv_aload_n hx hb d_Mo_copy_66 rfl (lv_at hl 1 rfl) ?_
  refine mo_get 5 S hK hm (by decide) k471 rfl rfl d_Mo_copy_67 ?_
  refine lv_iload_n hx hb d_Mo_copy_70 rfl (lv_at hl 3 rfl) ?_
  refine lv_aload_n hx hb d_Mo_copy_71 rfl (lv_at hl 1 rfl) ?_
  refine mo_get 5 S hK hm (by decide) k471 rfl rfl d_Mo_copy_72 ?_
  refine lv_iload_n hx hb d_Mo_copy_75 rfl (lv_at hl 2 rfl) ?_
  refine mo_iald 4 S hK hm (by decide) (by simp only [moLen]; omega) d_Mo_copy_76 ?_
  refine mo_iast 4 S hK hm (by decide) (by simp only [moLen]; omega) d_Mo_copy_77 (fun M4 H locs eM4 hm => ?_)
  refine mo_vret S hr hlocks hK hm d_Mo_copy_78 ?_
  subst hk
  exact ⟨rfl, hc.fin hft.2.2.2.2.1 hg eM2 eM3 eM4⟩

set_option maxHeartbeats 4000000 in
set_option maxRecDepth 100000 in
/-- L_drop -/
theorem L_drop {p : Program} {l : Launch} {e : Env} {s : State} {m : MethodId} {args : Array Value} {below : List Frame} {meth : Method} {c : Code} {Q : State → Prop} {D : va_G} {cs : Nat → ClassId} {Z : (Nat → Prop) → State → Heap → Prop} {ad : Nat → Nat} {μ0 : fm_Mu} {A : Nat → Prop} {R : Room} (S : CallFix p m c c_Mo_drop 4 s args wA "ArithmeticFormsModel") (hK : va_K D clsA (tysA cs) s) (hZo : fm_Zok Z) (hZ : Z A s s.heap) (hA : ∀ q, s.heap.size ≤ q → A q) (V : Nat → Int) (M0 : Nat → Int → Int) (r d : Int) (n : Nat) (hrd : 0 ≤ r ∧ r < 7 ∧ 0 ≤ d ∧ n + d ≤ 320) (hn0 : M0 2 r = n) (kk64 : ∀ (M : Nat → Int → Int) (k : Int) (H : Heap) (locs : List Loc) (ls : Array Slot), (k = n) → (DrI M0 M r d k) → lv_has ls 4 [(3, .int (iN (k))), (0, .ref (ad 0)), (1, .int (iN (r))), (2, .int (iN (d)))] → moW D A s.heap μ0 cs ad V M H locs → W p l e R s m args below meth c H locs 0 0 Q (F0 m 64 ls [])) : ∀ (fu : Nat) (M : Nat → Int → Int) (k : Int) (H : Heap) (locs : List Loc) (ls : Array Slot), n - k < (fu : Int) → (0 ≤ k ∧ k ≤ n) → (DrI M0 M r d k) → lv_has ls 4 [(3, .int (iN (k))), (0, .ref (ad 0)), (1, .int (iN (r))), (2, .int (iN (d)))] → moW D A s.heap μ0 cs ad V M H locs → W p l e R s m args below meth c H locs 0 0 Q (F0 m 22 ls []) := by
  obtain ⟨hx, hb, hml, hown, hts⟩ := id S
  intro fu
  induction fu with
  | zero =>
    intro M k H locs ls hn hk hc hl hm
    exfalso; omega
  | succ fu ih =>
    intro M k H locs ls hn hk hc hl hm
    have e2 : M 2 r = n := by rw [hc.2.1.1]; exact hn0
    refine lv_iload_n hx hb d_Mo_drop_22 rfl (lv_at hl 0 rfl) ?_
    refine lv_aload_n hx hb d_Mo_drop_23 rfl (lv_at hl 1 rfl) ?_
    refine mo_get 3 S hK hm (by decide) k469 rfl rfl d_Mo_drop_24 ?_
    refine lv_iload_n hx hb d_Mo_drop_27 rfl (lv_at hl 2 rfl) ?_
    refine mo_iald 2 S hK hm (by decide) (by simp only [moLen]; omega) d_Mo_drop_28 ?_
    refine fm_icmp_ge (tgt := 64) S (by omega) (by omega) d_Mo_drop_29 (by decide) (fun c1 => ?_) (fun c1 => ?_)
    · exact kk64 M k _ _ _ (by omega) (hc) (lv_sub hl [0, 1, 2, 3] rfl) hm
    · refine lv_aload_n hx hb d_Mo_drop_32 rfl (lv_at hl 1 rfl) ?_
      refine mo_get 2 S hK hm (by decide) k468 rfl rfl d_Mo_drop_33 ?_
      refine fm_sipush S d_Mo_drop_36 (by decide) ?_
      refine lv_iload_n hx hb d_Mo_drop_39 rfl (lv_at hl 2 rfl) ?_
      refine fm_imul S d_Mo_drop_40 ?_
      refine lv_iload_n hx hb d_Mo_drop_41 rfl (lv_at hl 0 rfl) ?_
      refine fm_iadd S d_Mo_drop_42 ?_
      refine lv_aload_n hx hb d_Mo_drop_43 rfl (lv_at hl 1 rfl) ?_
      refine mo_get 2 S hK hm (by decide) k468 rfl rfl d_Mo_drop_44 ?_
      refine fm_sipush S d_Mo_drop_47 (by decide) ?_
      refine lv_iload_n hx hb d_Mo_drop_50 rfl (lv_at hl 2 rfl) ?_
      refine fm_imul S d_Mo_drop_51 ?_
      refine lv_iload_n hx hb d_Mo_drop_52 rfl (lv_at hl 0 rfl) ?_
      refine fm_iadd S d_Mo_drop_53 ?_
      refine lv_iload_n hx hb d_Mo_drop_54 rfl (lv_at hl 3 rfl) ?_
      refine fm_iadd S d_Mo_drop_55 ?_
      refine mo_iald 1 S hK hm (by decide) (by simp only [moLen]; omega) d_Mo_drop_56 ?_
      refine mo_iast 1 S hK hm (by decide) (by simp only [moLen]; omega) d_Mo_drop_57 (fun M2 H locs eM2 hm => ?_)
      refine lv_iinc (v := iN ((k + 1))) (lv' := [(3, .int (iN ((k + 1)))), (0, .ref (ad 0)), (1, .int (iN (r))), (2, .int (iN (d)))]) hx hb d_Mo_drop_58 hl (k := 0) rfl (iN_add _ _) (by decide) rfl (fun ls hl => ?_)
      refine lv_goto (tgt := 22) hx hb d_Mo_drop_61 (by decide) ?_
      exact ih M2 (k + 1) _ _ _ (by omega) (by omega) (hc.step hrd.2.2.1 (by omega) eM2) (lv_sub hl [0, 1, 2, 3] rfl) hm

set_option maxHeartbeats 4000000 in
set_option maxRecDepth 100000 in
/-- drop(r, d) -/
theorem t_Mo_drop (l : Launch) (D : va_G) (cs : Nat → ClassId) (Z : (Nat → Prop) → State → Heap → Prop) (hZo : fm_Zok Z) (ad : Nat → Nat) (μ : fm_Mu) (V : Nat → Int) (M : Nat → Int → Int) (sz : Nat) (r : Int) (d0 : Int) (d : Nat) (n : Nat) (N : Nat) (x : Int) (sg : Int) (hM : moS cs μ ad V M) (hd0 : d0 = (d : Int)) (hg : Rg M r n N x sg) (hrd : 0 ≤ r ∧ r < 7 ∧ d ≤ n ∧ n ≤ 320) : Met l y_Mo_drop (Cond.code y_Mo_drop c_Mo_drop 4 none :: wA) ({ frames := 0, cells := 0, slots := 0, locals := 0 }) (fm_Pc D clsA (tysA cs) Z μ sz [.ref (ad 0), .int (iN (r)), .int (iN (d0))]) (moQv D cs ad μ sz (fun V' M' => V' = V ∧ Fr M M' r ∧ Rg M' r (n - d) (N / 10 ^ d) (x + d) sg)) 0 0 (fm_A μ sz) := by
  refine mo_of hM (by decide +kernel) (Nat.le_of_ble_eq_true rfl) (fun p e s m below meth c S hr hlocks hsz hm hK hZ hA ls hl => ?_)
  subst hsz
  obtain ⟨hx, hb, hml, hown, hts⟩ := id S
  subst hd0
  have hl : lv_has ls 4 [(0, .ref (ad 0)), (1, .int (iN (r))), (2, .int (iN ((d : Int))))] := hl
  refine lv_aload_n hx hb d_Mo_drop_0 rfl (lv_at hl 0 rfl) ?_
  refine mo_get 3 S hK hm (by decide) k469 rfl rfl d_Mo_drop_1 ?_
  refine lv_iload_n hx hb d_Mo_drop_4 rfl (lv_at hl 1 rfl) ?_
  refine lv_dup2_11 hx hb d_Mo_drop_5 rfl rfl ?_
  refine mo_iald 2 S hK hm (by decide) (by simp only [moLen]; omega) d_Mo_drop_6 ?_
  refine lv_iload_n hx hb d_Mo_drop_7 rfl (lv_at hl 2 rfl) ?_
  refine fm_isub S d_Mo_drop_8 ?_
  refine mo_iast 2 S hK hm (by decide) (by simp only [moLen]; omega) d_Mo_drop_9 (fun M1 H locs eM1 hm => ?_)
  refine lv_aload_n hx hb d_Mo_drop_10 rfl (lv_at hl 0 rfl) ?_
  refine mo_get 4 S hK hm (by decide) k470 rfl rfl d_Mo_drop_11 ?_
  refine lv_iload_n hx hb d_Mo_drop_14 rfl (lv_at hl 1 rfl) ?_
  refine lv_dup2_11 hx hb d_Mo_drop_15 rfl rfl ?_
  refine mo_iald 3 S hK hm (by decide) (by simp only [moLen]; omega) d_Mo_drop_16 ?_
  refine lv_iload_n hx hb d_Mo_drop_17 rfl (lv_at hl 2 rfl) ?_
  refine fm_iadd S d_Mo_drop_18 ?_
  refine mo_iast 3 S hK hm (by decide) (by simp only [moLen]; omega) d_Mo_drop_19 (fun M2 H locs eM2 hm => ?_)
  refine fm_iconst S d_Mo_drop_20 ?_
  refine lv_istore_n (lv' := [(3, .int (iN (0))), (0, .ref (ad 0)), (1, .int (iN (r))), (2, .int (iN ((d : Int))))]) hx hb d_Mo_drop_21 rfl hl (by decide) rfl (fun ls hl => ?_)
  refine L_drop (Z := Z) S hK hZo hZ hA V M2 r d (n - d) (by omega) (by subst eM2 eM1; simp [setA, uI]; rw [hg.1]; omega) (fun M3 k H locs ls hk hc hl hm => ?_) ((n - d) + 1) M2 0 _ _ _ (by omega) (by omega) (DrI.start M2 r d) (lv_sub hl [0, 1, 2, 3] rfl) hm
  refine mo_vret S hr hlocks hK hm d_Mo_drop_64 ?_
  subst hk
  exact ⟨rfl, DrI.fin hrd.2.2.1 hg eM1 eM2 hc⟩

set_option maxHeartbeats 4000000 in
set_option maxRecDepth 100000 in
/-- L_whole -/
theorem L_whole {p : Program} {l : Launch} {e : Env} {s : State} {m : MethodId} {args : Array Value} {below : List Frame} {meth : Method} {c : Code} {Q : State → Prop} {D : va_G} {cs : Nat → ClassId} {Z : (Nat → Prop) → State → Heap → Prop} {ad : Nat → Nat} {μ0 : fm_Mu} {A : Nat → Prop} {R : Room} (S : CallFix p m c c_Mo_whole 9 s args wA "ArithmeticFormsModel") (hK : va_K D clsA (tysA cs) s) (hZo : fm_Zok Z) (hZ : Z A s s.heap) (hA : ∀ q, s.heap.size ≤ q → A q) (V : Nat → Int) (M0 : Nat → Int → Int) (v ex r : Int) (hr0 : 0 ≤ r ∧ r < 7) (hv : inJ v) (kk82 : ∀ (M : Nat → Int → Int) (left : Int) (j : Nat) (H : Heap) (locs : List Loc) (ls : Array Slot), (left = 0) → (WhI M0 M r v left j) → lv_has ls 9 [(5, .long (jN (left))), (0, .ref (ad 0)), (1, .long (jN (v))), (3, .int (iN (ex))), (4, .int (iN (r)))] → moW D A s.heap μ0 cs ad V M H locs → W p l e R s m args below meth c H locs 0 0 Q (F0 m 82 ls [])) : ∀ (fu : Nat) (M : Nat → Int → Int) (left : Int) (j : Nat) (H : Heap) (locs : List Loc) (ls : Array Slot), (left.natAbs : Int) < (fu : Int) → (WhI M0 M r v left j) → lv_has ls 9 [(5, .long (jN (left))), (0, .ref (ad 0)), (1, .long (jN (v))), (3, .int (iN (ex))), (4, .int (iN (r)))] → moW D A s.heap μ0 cs ad V M H locs → W p l e R s m args below meth c H locs 0 0 Q (F0 m 9 ls []) := by
  obtain ⟨hx, hb, hml, hown, hts⟩ := id S
  intro fu
  induction fu with
  | zero =>
    intro M left j H locs ls hn hc hl hm
    exfalso; omega
  | succ fu ih =>
    intro M left j H locs ls hn hc hl hm
    have hb9 := hc.bd hv
    have e2 : M 2 r = j := hc.2.1.1
    refine lv_lload hx hb d_Mo_whole_9 (lv_at hl 0 rfl) ?_
    refine fm_lconst0 S d_Mo_whole_11 ?_
    refine fm_lcmp S (by omega) (by omega) d_Mo_whole_12 ?_
    refine fm_if_eq (tgt := 82) S (fm_cmp_in _ _) d_Mo_whole_13 (by decide) (fun c1 => ?_) (fun c1 => ?_)
    · rw [fm_cmp_eq] at c1
      exact kk82 M left j _ _ _ (c1) (hc) (lv_sub hl [0, 1, 2, 3, 4] rfl) hm
    · rw [fm_cmp_eq] at c1
      have hj := hc.lt hv c1
      have ht1 : (left.tmod 10).natAbs = left.natAbs % 10 := Int.natAbs_tmod left 10
      have ht2 : (left.tdiv 10).natAbs = left.natAbs / 10 := Int.natAbs_tdiv left 10
      refine lv_lload hx hb d_Mo_whole_16 (lv_at hl 0 rfl) ?_
      refine lv_ldc2 (v := jN 10) hx hb hown (hts _ k554) d_Mo_whole_18 ?_
      refine fm_lrem S (by omega) d_Mo_whole_21 ?_
      refine fm_topl (fun x2 hx2 => ?_)
      refine lv_lstore (lv' := [(7, .long (jN (x2))), (5, .long (jN (left))), (0, .ref (ad 0)), (1, .long (jN (v))), (3, .int (iN (ex))), (4, .int (iN (r)))]) hx hb d_Mo_whole_22 hl (by decide) rfl (fun ls hl => ?_)
      refine lv_aload_n hx hb d_Mo_whole_24 rfl (lv_at hl 2 rfl) ?_
      refine mo_get 2 S hK hm (by decide) k468 rfl rfl d_Mo_whole_25 ?_
      refine fm_sipush S d_Mo_whole_28 (by decide) ?_
      refine lv_iload hx hb d_Mo_whole_31 (lv_at hl 5 rfl) ?_
      refine fm_imul S d_Mo_whole_33 ?_
      refine lv_aload_n hx hb d_Mo_whole_34 rfl (lv_at hl 2 rfl) ?_
      refine mo_get 3 S hK hm (by decide) k469 rfl rfl d_Mo_whole_35 ?_
      refine lv_iload hx hb d_Mo_whole_38 (lv_at hl 5 rfl) ?_
      refine mo_iald 2 S hK hm (by decide) (by simp only [moLen]; omega) d_Mo_whole_40 ?_
      refine fm_iadd S d_Mo_whole_41 ?_
      refine lv_lload hx hb d_Mo_whole_42 (lv_at hl 0 rfl) ?_
      refine fm_lconst0 S d_Mo_whole_44 ?_
      refine fm_lcmp S (by omega) (by omega) d_Mo_whole_45 ?_
      refine fm_if_ge (tgt := 56) S (fm_cmp_in _ _) d_Mo_whole_46 (by decide) (fun c3 => ?_) (fun c3 => ?_)
      · rw [fm_cmp_ge] at c3
        refine lv_lload hx hb d_Mo_whole_56 (lv_at hl 0 rfl) ?_
        refine fm_topl (fun x4 hx4 => ?_)
        have hdx4 : x4 = ((left.natAbs % 10 : Nat) : Int) := by omega
        refine fm_l2i S d_Mo_whole_58 ?_
        refine mo_iast 1 S hK hm (by decide) (by simp only [moLen]; omega) d_Mo_whole_59 (fun M5 H locs eM5 hm => ?_)
        refine lv_aload_n hx hb d_Mo_whole_60 rfl (lv_at hl 2 rfl) ?_
        refine mo_get 3 S hK hm (by decide) k469 rfl rfl d_Mo_whole_61 ?_
        refine lv_iload hx hb d_Mo_whole_64 (lv_at hl 5 rfl) ?_
        refine lv_dup2_11 hx hb d_Mo_whole_66 rfl rfl ?_
        refine mo_iald 2 S hK hm (by decide) (by simp only [moLen]; omega) d_Mo_whole_67 ?_
        refine fm_iconst S d_Mo_whole_68 ?_
        refine fm_iadd S d_Mo_whole_69 ?_
        refine mo_iast 2 S hK hm (by decide) (by simp only [moLen]; omega) d_Mo_whole_70 (fun M6 H locs eM6 hm => ?_)
        refine lv_lload hx hb d_Mo_whole_71 (lv_at hl 1 rfl) ?_
        refine lv_ldc2 (v := jN 10) hx hb hown (hts _ k554) d_Mo_whole_73 ?_
        refine fm_ldiv S (by omega) d_Mo_whole_76 ?_
        refine fm_topl (fun x7 hx7 => ?_)
        refine lv_lstore (lv' := [(5, .long (jN (x7))), (7, .long (jN (x2))), (0, .ref (ad 0)), (1, .long (jN (v))), (3, .int (iN (ex))), (4, .int (iN (r)))]) hx hb d_Mo_whole_77 hl (by decide) rfl (fun ls hl => ?_)
        refine lv_goto (tgt := 9) hx hb d_Mo_whole_79 (by decide) ?_
        exact ih M6 x7 (j + 1) _ _ _ (by omega) (by have e9 := hx7; rw [e9]; exact hc.step (by omega) c1 hdx4 eM5 eM6) (lv_sub hl [0, 2, 3, 4, 5] rfl) hm
      · rw [fm_cmp_ge] at c3
        refine fm_lconst0 S d_Mo_whole_49 ?_
        refine lv_lload hx hb d_Mo_whole_50 (lv_at hl 0 rfl) ?_
        refine fm_lsub S d_Mo_whole_52 ?_
        refine lv_goto (tgt := 58) hx hb d_Mo_whole_53 (by decide) ?_
        refine fm_topl (fun x8 hx8 => ?_)
        have hdx8 : x8 = ((left.natAbs % 10 : Nat) : Int) := by omega
        refine fm_l2i S d_Mo_whole_58 ?_
        refine mo_iast 1 S hK hm (by decide) (by simp only [moLen]; omega) d_Mo_whole_59 (fun M9 H locs eM9 hm => ?_)
        refine lv_aload_n hx hb d_Mo_whole_60 rfl (lv_at hl 2 rfl) ?_
        refine mo_get 3 S hK hm (by decide) k469 rfl rfl d_Mo_whole_61 ?_
        refine lv_iload hx hb d_Mo_whole_64 (lv_at hl 5 rfl) ?_
        refine lv_dup2_11 hx hb d_Mo_whole_66 rfl rfl ?_
        refine mo_iald 2 S hK hm (by decide) (by simp only [moLen]; omega) d_Mo_whole_67 ?_
        refine fm_iconst S d_Mo_whole_68 ?_
        refine fm_iadd S d_Mo_whole_69 ?_
        refine mo_iast 2 S hK hm (by decide) (by simp only [moLen]; omega) d_Mo_whole_70 (fun M10 H locs eM10 hm => ?_)
        refine lv_lload hx hb d_Mo_whole_71 (lv_at hl 1 rfl) ?_
        refine lv_ldc2 (v := jN 10) hx hb hown (hts _ k554) d_Mo_whole_73 ?_
        refine fm_ldiv S (by omega) d_Mo_whole_76 ?_
        refine fm_topl (fun x11 hx11 => ?_)
        refine lv_lstore (lv' := [(5, .long (jN (x11))), (7, .long (jN (x2))), (0, .ref (ad 0)), (1, .long (jN (v))), (3, .int (iN (ex))), (4, .int (iN (r)))]) hx hb d_Mo_whole_77 hl (by decide) rfl (fun ls hl => ?_)
        refine lv_goto (tgt := 9) hx hb d_Mo_whole_79 (by decide) ?_
        exact ih M10 x11 (j + 1) _ _ _ (by omega) (by have e9 := hx11; rw [e9]; exact hc.step (by omega) c1 hdx8 eM9 eM10) (lv_sub hl [0, 2, 3, 4, 5] rfl) hm

set_option maxHeartbeats 4000000 in
set_option maxRecDepth 100000 in
/-- whole(v, ex, r) -/
theorem t_Mo_whole (l : Launch) (D : va_G) (cs : Nat → ClassId) (Z : (Nat → Prop) → State → Heap → Prop) (hZo : fm_Zok Z) (ad : Nat → Nat) (μ : fm_Mu) (V : Nat → Int) (M : Nat → Int → Int) (sz : Nat) (v : Int) (ex : Int) (r : Int) (hM : moS cs μ ad V M) (hr0 : 0 ≤ r ∧ r < 7) (hv : inJ v) : Met l y_Mo_whole (Cond.code y_Mo_whole c_Mo_whole 9 none :: wA) ({ frames := 1, cells := 0, slots := 0, locals := 21 }) (fm_Pc D clsA (tysA cs) Z μ sz [.ref (ad 0), .long (jN (v)), .int (iN (ex)), .int (iN (r))]) (moQv D cs ad μ sz (fun V' M' => V' = V ∧ Fr M M' r ∧ Rg M' r (nd v.natAbs) v.natAbs (if v = 0 then 0 else ex) (sgn v))) 0 0 (fm_A μ sz) := by
  refine mo_of hM (by decide +kernel) (Nat.le_of_ble_eq_true rfl) (fun p e s m below meth c S hr hlocks hsz hm hK hZ hA ls hl => ?_)
  subst hsz
  obtain ⟨hx, hb, hml, hown, hts⟩ := id S
  have hl : lv_has ls 9 [(0, .ref (ad 0)), (1, .long (jN (v))), (3, .int (iN (ex))), (4, .int (iN (r)))] := hl
  refine lv_aload_n hx hb d_Mo_whole_0 rfl (lv_at hl 0 rfl) ?_
  refine lv_iload hx hb d_Mo_whole_1 (lv_at hl 3 rfl) ?_
  refine mo_cvS (n := 1) (As := [.int (iN (r))]) (rest := []) S hK hZo hZ hA hm (fun μ sz hM => t_Mo_zero l D cs Z hZo ad μ V M sz r hM (by omega)) (gV k550 k552 ks20 k6 k553) (by decide) (by decide +kernel) rfl hl.1 rfl (Nat.le_of_ble_eq_true rfl) ⟨Nat.le_of_ble_eq_true rfl, Nat.le_of_ble_eq_true rfl⟩ d_Mo_whole_3 (fun M2 H locs q1 hm => ?_)
  obtain ⟨frM2, rgM2⟩ := q1
  refine lv_lload_n hx hb d_Mo_whole_6 rfl (lv_at hl 1 rfl) ?_
  refine lv_lstore (lv' := [(5, .long (jN (v))), (0, .ref (ad 0)), (1, .long (jN (v))), (3, .int (iN (ex))), (4, .int (iN (r)))]) hx hb d_Mo_whole_7 hl (by decide) rfl (fun ls hl => ?_)
  refine L_whole (Z := Z) S hK hZo hZ hA V M v ex r hr0 hv (fun M3 left j H locs ls hk hc hl hm => ?_) (v.natAbs + 1) M2 v 0 _ _ _ (by omega) (WhI.start frM2 rgM2) (lv_sub hl [0, 1, 2, 3, 4] rfl) hm
  refine lv_aload_n hx hb d_Mo_whole_82 rfl (lv_at hl 1 rfl) ?_
  refine mo_get 5 S hK hm (by decide) k471 rfl rfl d_Mo_whole_83 ?_
  refine lv_iload hx hb d_Mo_whole_86 (lv_at hl 4 rfl) ?_
  refine lv_lload_n hx hb d_Mo_whole_88 rfl (lv_at hl 2 rfl) ?_
  refine fm_lconst0 S d_Mo_whole_89 ?_
  refine fm_lcmp S (by omega) (by omega) d_Mo_whole_90 ?_
  refine fm_if_ge (tgt := 98) S (fm_cmp_in _ _) d_Mo_whole_91 (by decide) (fun c4 => ?_) (fun c4 => ?_)
  · rw [fm_cmp_ge] at c4
    refine lv_lload_n hx hb d_Mo_whole_98 rfl (lv_at hl 2 rfl) ?_
    refine fm_lconst0 S d_Mo_whole_99 ?_
    refine fm_lcmp S (by omega) (by omega) d_Mo_whole_100 ?_
    refine fm_if_le (tgt := 108) S (fm_cmp_in _ _) d_Mo_whole_101 (by decide) (fun c5 => ?_) (fun c5 => ?_)
    · rw [fm_cmp_le] at c5
      refine fm_iconst S d_Mo_whole_108 ?_
      refine mo_iast 4 S hK hm (by decide) (by simp only [moLen]; omega) d_Mo_whole_109 (fun M6 H locs eM6 hm => ?_)
      refine lv_aload_n hx hb d_Mo_whole_110 rfl (lv_at hl 1 rfl) ?_
      refine mo_get 4 S hK hm (by decide) k470 rfl rfl d_Mo_whole_111 ?_
      refine lv_iload hx hb d_Mo_whole_114 (lv_at hl 4 rfl) ?_
      refine lv_lload_n hx hb d_Mo_whole_116 rfl (lv_at hl 2 rfl) ?_
      refine fm_lconst0 S d_Mo_whole_117 ?_
      refine fm_lcmp S (by omega) (by omega) d_Mo_whole_118 ?_
      refine fm_if_ne (tgt := 126) S (fm_cmp_in _ _) d_Mo_whole_119 (by decide) (fun c7 => ?_) (fun c7 => ?_)
      · rw [fm_cmp_eq] at c7
        refine lv_iload_n hx hb d_Mo_whole_126 rfl (lv_at hl 3 rfl) ?_
        refine mo_iast 3 S hK hm (by decide) (by simp only [moLen]; omega) d_Mo_whole_127 (fun M8 H locs eM8 hm => ?_)
        refine mo_vret S hr hlocks hK hm d_Mo_whole_128 ?_
        subst hk
        exact ⟨rfl, WhI.fin hc eM6 eM8 (by unfold sgn; (repeat' split) <;> omega) (by (repeat' split) <;> omega)⟩
      · rw [fm_cmp_eq] at c7
        refine fm_iconst S d_Mo_whole_122 ?_
        refine lv_goto (tgt := 127) hx hb d_Mo_whole_123 (by decide) ?_
        refine mo_iast 3 S hK hm (by decide) (by simp only [moLen]; omega) d_Mo_whole_127 (fun M9 H locs eM9 hm => ?_)
        refine mo_vret S hr hlocks hK hm d_Mo_whole_128 ?_
        subst hk
        exact ⟨rfl, WhI.fin hc eM6 eM9 (by unfold sgn; (repeat' split) <;> omega) (by (repeat' split) <;> omega)⟩
    · rw [fm_cmp_le] at c5
      refine fm_iconst S d_Mo_whole_104 ?_
      refine lv_goto (tgt := 109) hx hb d_Mo_whole_105 (by decide) ?_
      refine mo_iast 4 S hK hm (by decide) (by simp only [moLen]; omega) d_Mo_whole_109 (fun M10 H locs eM10 hm => ?_)
      refine lv_aload_n hx hb d_Mo_whole_110 rfl (lv_at hl 1 rfl) ?_
      refine mo_get 4 S hK hm (by decide) k470 rfl rfl d_Mo_whole_111 ?_
      refine lv_iload hx hb d_Mo_whole_114 (lv_at hl 4 rfl) ?_
      refine lv_lload_n hx hb d_Mo_whole_116 rfl (lv_at hl 2 rfl) ?_
      refine fm_lconst0 S d_Mo_whole_117 ?_
      refine fm_lcmp S (by omega) (by omega) d_Mo_whole_118 ?_
      refine fm_if_ne (tgt := 126) S (fm_cmp_in _ _) d_Mo_whole_119 (by decide) (fun c11 => ?_) (fun c11 => ?_)
      · rw [fm_cmp_eq] at c11
        refine lv_iload_n hx hb d_Mo_whole_126 rfl (lv_at hl 3 rfl) ?_
        refine mo_iast 3 S hK hm (by decide) (by simp only [moLen]; omega) d_Mo_whole_127 (fun M12 H locs eM12 hm => ?_)
        refine mo_vret S hr hlocks hK hm d_Mo_whole_128 ?_
        subst hk
        exact ⟨rfl, WhI.fin hc eM10 eM12 (by unfold sgn; (repeat' split) <;> omega) (by (repeat' split) <;> omega)⟩
      · rw [fm_cmp_eq] at c11
        refine fm_iconst S d_Mo_whole_122 ?_
        refine lv_goto (tgt := 127) hx hb d_Mo_whole_123 (by decide) ?_
        refine mo_iast 3 S hK hm (by decide) (by simp only [moLen]; omega) d_Mo_whole_127 (fun M13 H locs eM13 hm => ?_)
        refine mo_vret S hr hlocks hK hm d_Mo_whole_128 ?_
        subst hk
        exact ⟨rfl, WhI.fin hc eM10 eM13 (by unfold sgn; (repeat' split) <;> omega) (by (repeat' split) <;> omega)⟩
  · rw [fm_cmp_ge] at c4
    refine fm_iconst S d_Mo_whole_94 ?_
    refine lv_goto (tgt := 109) hx hb d_Mo_whole_95 (by decide) ?_
    refine mo_iast 4 S hK hm (by decide) (by simp only [moLen]; omega) d_Mo_whole_109 (fun M14 H locs eM14 hm => ?_)
    refine lv_aload_n hx hb d_Mo_whole_110 rfl (lv_at hl 1 rfl) ?_
    refine mo_get 4 S hK hm (by decide) k470 rfl rfl d_Mo_whole_111 ?_
    refine lv_iload hx hb d_Mo_whole_114 (lv_at hl 4 rfl) ?_
    refine lv_lload_n hx hb d_Mo_whole_116 rfl (lv_at hl 2 rfl) ?_
    refine fm_lconst0 S d_Mo_whole_117 ?_
    refine fm_lcmp S (by omega) (by omega) d_Mo_whole_118 ?_
    refine fm_if_ne (tgt := 126) S (fm_cmp_in _ _) d_Mo_whole_119 (by decide) (fun c15 => ?_) (fun c15 => ?_)
    · rw [fm_cmp_eq] at c15
      refine lv_iload_n hx hb d_Mo_whole_126 rfl (lv_at hl 3 rfl) ?_
      refine mo_iast 3 S hK hm (by decide) (by simp only [moLen]; omega) d_Mo_whole_127 (fun M16 H locs eM16 hm => ?_)
      refine mo_vret S hr hlocks hK hm d_Mo_whole_128 ?_
      subst hk
      exact ⟨rfl, WhI.fin hc eM14 eM16 (by unfold sgn; (repeat' split) <;> omega) (by (repeat' split) <;> omega)⟩
    · rw [fm_cmp_eq] at c15
      refine fm_iconst S d_Mo_whole_122 ?_
      refine lv_goto (tgt := 127) hx hb d_Mo_whole_123 (by decide) ?_
      refine mo_iast 3 S hK hm (by decide) (by simp only [moLen]; omega) d_Mo_whole_127 (fun M17 H locs eM17 hm => ?_)
      refine mo_vret S hr hlocks hK hm d_Mo_whole_128 ?_
      subst hk
      exact ⟨rfl, WhI.fin hc eM14 eM17 (by unfold sgn; (repeat' split) <;> omega) (by (repeat' split) <;> omega)⟩

set_option maxHeartbeats 4000000 in
set_option maxRecDepth 100000 in
/-- L_cut1 -/
theorem L_cut1 {p : Program} {l : Launch} {e : Env} {s : State} {m : MethodId} {args : Array Value} {below : List Frame} {meth : Method} {c : Code} {Q : State → Prop} {D : va_G} {cs : Nat → ClassId} {Z : (Nat → Prop) → State → Heap → Prop} {ad : Nat → Nat} {μ0 : fm_Mu} {A : Nat → Prop} {R : Room} (S : CallFix p m c c_Mo_cut 5 s args wA "ArithmeticFormsModel") (hK : va_K D clsA (tysA cs) s) (hZo : fm_Zok Z) (hZ : Z A s s.heap) (hA : ∀ q, s.heap.size ≤ q → A q) (V : Nat → Int) (M0 : Nat → Int → Int) (r mo x sg : Int) (N : Nat) (hr0 : 0 ≤ r ∧ r < 7) (kk44 : ∀ (M : Nat → Int → Int) (k : Nat) (H : Heap) (locs : List Loc) (ls : Array Slot), (k = nd N) → (Rg M r k N x sg) → (Fr M0 M r) → lv_has ls 5 [(0, .ref (ad 0)), (1, .int (iN (r))), (2, .int (iN (mo)))] → moW D A s.heap μ0 cs ad V M H locs → W p l e R s m args below meth c H locs 0 0 Q (F0 m 44 ls [])) : ∀ (fu : Nat) (M : Nat → Int → Int) (k : Nat) (H : Heap) (locs : List Loc) (ls : Array Slot), (k : Int) < (fu : Int) → (k ≤ 320) → (Rg M r k N x sg) → (Fr M0 M r) → lv_has ls 5 [(0, .ref (ad 0)), (1, .int (iN (r))), (2, .int (iN (mo)))] → moW D A s.heap μ0 cs ad V M H locs → W p l e R s m args below meth c H locs 0 0 Q (F0 m 0 ls []) := by
  obtain ⟨hx, hb, hml, hown, hts⟩ := id S
  intro fu
  induction fu with
  | zero =>
    intro M k H locs ls hn hk hg hF hl hm
    exfalso; omega
  | succ fu ih =>
    intro M k H locs ls hn hk hg hF hl hm
    have e2 : M 2 r = k := hg.1
    refine lv_aload_n hx hb d_Mo_cut_0 rfl (lv_at hl 0 rfl) ?_
    refine mo_get 3 S hK hm (by decide) k469 rfl rfl d_Mo_cut_1 ?_
    refine lv_iload_n hx hb d_Mo_cut_4 rfl (lv_at hl 1 rfl) ?_
    refine mo_iald 2 S hK hm (by decide) (by simp only [moLen]; omega) d_Mo_cut_5 ?_
    refine fm_if_le (tgt := 44) S (by omega) d_Mo_cut_6 (by decide) (fun c1 => ?_) (fun c1 => ?_)
    · exact kk44 M k _ _ _ (hg.ndE (Or.inl (by omega))) (hg) (hF) (lv_sub hl [0, 1, 2] rfl) hm
    · obtain ⟨j, rfl⟩ : ∃ j : Nat, k = j + 1 := ⟨k - 1, by omega⟩
      have e3 : 320 * r + M 2 r - 1 = 320 * r + j := by omega
      refine lv_aload_n hx hb d_Mo_cut_9 rfl (lv_at hl 0 rfl) ?_
      refine mo_get 2 S hK hm (by decide) k468 rfl rfl d_Mo_cut_10 ?_
      refine fm_sipush S d_Mo_cut_13 (by decide) ?_
      refine lv_iload_n hx hb d_Mo_cut_16 rfl (lv_at hl 1 rfl) ?_
      refine fm_imul S d_Mo_cut_17 ?_
      refine lv_aload_n hx hb d_Mo_cut_18 rfl (lv_at hl 0 rfl) ?_
      refine mo_get 3 S hK hm (by decide) k469 rfl rfl d_Mo_cut_19 ?_
      refine lv_iload_n hx hb d_Mo_cut_22 rfl (lv_at hl 1 rfl) ?_
      refine mo_iald 2 S hK hm (by decide) (by simp only [moLen]; omega) d_Mo_cut_23 ?_
      refine fm_iadd S d_Mo_cut_24 ?_
      refine fm_iconst S d_Mo_cut_25 ?_
      refine fm_isub S d_Mo_cut_26 ?_
      refine mo_iald 1 S hK hm (by decide) (by simp only [moLen]; omega) d_Mo_cut_27 ?_
      have hdb : 0 ≤ M 1 (320 * r + M 2 r - 1) ∧ M 1 (320 * r + M 2 r - 1) ≤ 9 := by rw [e3]; exact hg.2.2.2.1 j (by omega) (by omega)
      refine fm_if_ne (tgt := 44) S (by omega) d_Mo_cut_28 (by decide) (fun c2 => ?_) (fun c2 => ?_)
      · exact kk44 M (j + 1) _ _ _ (hg.ndE (Or.inr (by rw [e3] at c2; rw [show 320 * r + (((j + 1 : Nat) : Int) - 1) = 320 * r + j by omega]; exact c2))) (hg) (hF) (lv_sub hl [0, 1, 2] rfl) hm
      · refine lv_aload_n hx hb d_Mo_cut_31 rfl (lv_at hl 0 rfl) ?_
        refine mo_get 3 S hK hm (by decide) k469 rfl rfl d_Mo_cut_32 ?_
        refine lv_iload_n hx hb d_Mo_cut_35 rfl (lv_at hl 1 rfl) ?_
        refine lv_dup2_11 hx hb d_Mo_cut_36 rfl rfl ?_
        refine mo_iald 2 S hK hm (by decide) (by simp only [moLen]; omega) d_Mo_cut_37 ?_
        refine fm_iconst S d_Mo_cut_38 ?_
        refine fm_isub S d_Mo_cut_39 ?_
        refine mo_iast 2 S hK hm (by decide) (by simp only [moLen]; omega) d_Mo_cut_40 (fun M3 H locs eM3 hm => ?_)
        refine lv_goto (tgt := 0) hx hb d_Mo_cut_41 (by decide) ?_
        exact ih M3 j _ _ _ (by omega) (by omega) (hg.strip (by rw [e3] at c2; exact c2) eM3 (by omega)) (hF.tr (Fr.s eM3 (by decide))) (lv_sub hl [0, 1, 2] rfl) hm

set_option maxHeartbeats 4000000 in
set_option maxRecDepth 100000 in
/-- L_cut2 -/
theorem L_cut2 {p : Program} {l : Launch} {e : Env} {s : State} {m : MethodId} {args : Array Value} {below : List Frame} {meth : Method} {c : Code} {Q : State → Prop} {D : va_G} {cs : Nat → ClassId} {Z : (Nat → Prop) → State → Heap → Prop} {ad : Nat → Nat} {μ0 : fm_Mu} {A : Nat → Prop} {R : Room} (S : CallFix p m c c_Mo_cut 5 s args wA "ArithmeticFormsModel") (hK : va_K D clsA (tysA cs) s) (hZo : fm_Zok Z) (hZ : Z A s s.heap) (hA : ∀ q, s.heap.size ≤ q → A q) (V : Nat → Int) (M0 : Nat → Int → Int) (r mo : Int) (n : Nat) (hr0 : 0 ≤ r ∧ r < 7) (hn : n ≤ 320) (hn0 : M0 2 r = n) (hd : dOk (M0 1) (320 * r) n) (kk100 : ∀ (M : Nat → Int → Int) (k : Int) (H : Heap) (locs : List Loc) (ls : Array Slot), (M = M0) → (0 ≤ k ∧ k ≤ n) → (∀ q : Int, 0 ≤ q → q < k → M0 1 (320 * r + q) = 0) → (k = n ∨ M0 1 (320 * r + k) ≠ 0) → lv_has ls 5 [(3, .int (iN (k))), (0, .ref (ad 0)), (1, .int (iN (r))), (2, .int (iN (mo)))] → moW D A s.heap μ0 cs ad V M H locs → W p l e R s m args below meth c H locs 0 0 Q (F0 m 100 ls [])) : ∀ (fu : Nat) (M : Nat → Int → Int) (k : Int) (H : Heap) (locs : List Loc) (ls : Array Slot), n - k < (fu : Int) → (M = M0) → (0 ≤ k ∧ k ≤ n) → (∀ q : Int, 0 ≤ q → q < k → M0 1 (320 * r + q) = 0) → lv_has ls 5 [(3, .int (iN (k))), (0, .ref (ad 0)), (1, .int (iN (r))), (2, .int (iN (mo)))] → moW D A s.heap μ0 cs ad V M H locs → W p l e R s m args below meth c H locs 0 0 Q (F0 m 69 ls []) := by
  obtain ⟨hx, hb, hml, hown, hts⟩ := id S
  intro fu
  induction fu with
  | zero =>
    intro M k H locs ls hn hM0 hk hz hl hm
    exfalso; omega
  | succ fu ih =>
    intro M k H locs ls hn hM0 hk hz hl hm
    have e2 : M 2 r = n := by rw [hM0]; exact hn0
    refine lv_iload_n hx hb d_Mo_cut_69 rfl (lv_at hl 0 rfl) ?_
    refine lv_aload_n hx hb d_Mo_cut_70 rfl (lv_at hl 1 rfl) ?_
    refine mo_get 3 S hK hm (by decide) k469 rfl rfl d_Mo_cut_71 ?_
    refine lv_iload_n hx hb d_Mo_cut_74 rfl (lv_at hl 2 rfl) ?_
    refine mo_iald 2 S hK hm (by decide) (by simp only [moLen]; omega) d_Mo_cut_75 ?_
    refine fm_icmp_ge (tgt := 100) S (by omega) (by omega) d_Mo_cut_76 (by decide) (fun c1 => ?_) (fun c1 => ?_)
    · exact kk100 M k _ _ _ (hM0) (hk) (hz) (Or.inl (by omega)) (lv_sub hl [0, 1, 2, 3] rfl) hm
    · refine lv_aload_n hx hb d_Mo_cut_79 rfl (lv_at hl 1 rfl) ?_
      refine mo_get 2 S hK hm (by decide) k468 rfl rfl d_Mo_cut_80 ?_
      refine fm_sipush S d_Mo_cut_83 (by decide) ?_
      refine lv_iload_n hx hb d_Mo_cut_86 rfl (lv_at hl 2 rfl) ?_
      refine fm_imul S d_Mo_cut_87 ?_
      refine lv_iload_n hx hb d_Mo_cut_88 rfl (lv_at hl 0 rfl) ?_
      refine fm_iadd S d_Mo_cut_89 ?_
      refine mo_iald 1 S hK hm (by decide) (by simp only [moLen]; omega) d_Mo_cut_90 ?_
      have hdb := hd k (by omega) (by omega)
      rw [← hM0] at hdb
      refine fm_if_ne (tgt := 100) S (by omega) d_Mo_cut_91 (by decide) (fun c2 => ?_) (fun c2 => ?_)
      · exact kk100 M k _ _ _ (hM0) (hk) (hz) (Or.inr (by rw [← hM0]; exact c2)) (lv_sub hl [0, 1, 2, 3] rfl) hm
      · refine lv_iinc (v := iN ((k + 1))) (lv' := [(3, .int (iN ((k + 1)))), (0, .ref (ad 0)), (1, .int (iN (r))), (2, .int (iN (mo)))]) hx hb d_Mo_cut_94 hl (k := 0) rfl (iN_add _ _) (by decide) rfl (fun ls hl => ?_)
        refine lv_goto (tgt := 69) hx hb d_Mo_cut_97 (by decide) ?_
        exact ih M (k + 1) _ _ _ (by omega) (hM0) (by omega) (fun q h1 h2 => by
              by_cases hq : q = k
              · rw [hq, ← hM0]; exact c2
              · exact hz q h1 (by omega)) (lv_sub hl [0, 1, 2, 3] rfl) hm

set_option maxHeartbeats 4000000 in
set_option maxRecDepth 100000 in
/-- cut(r, most) -/
theorem t_Mo_cut (l : Launch) (D : va_G) (cs : Nat → ClassId) (Z : (Nat → Prop) → State → Heap → Prop) (hZo : fm_Zok Z) (ad : Nat → Nat) (μ : fm_Mu) (V : Nat → Int) (M : Nat → Int → Int) (sz : Nat) (r : Int) (m0 : Int) (most : Nat) (n : Nat) (N : Nat) (x : Int) (sg : Int) (hM : moS cs μ ad V M) (hm0 : m0 = (most : Int)) (hmo : 1 ≤ most ∧ most ≤ 1000) (hr0 : 0 ≤ r ∧ r < 7) (hn : n ≤ 320 ∧ -1000000 ≤ x ∧ x ≤ 1000000) (hg : Rg M r n N x sg) : Met l y_Mo_cut (Cond.code y_Mo_cut c_Mo_cut 5 (some .int) :: wA) ({ frames := 1, cells := 0, slots := 0, locals := 23 }) (fm_Pc D clsA (tysA cs) Z μ sz [.ref (ad 0), .int (iN (r)), .int (iN (m0))]) (moQi D cs ad μ sz (fun z V' M' => V' = V ∧ Fr M M' r ∧ cutOk M' r most N x sg z)) 0 0 (fm_A μ sz) := by
  refine mo_of hM (by decide +kernel) (Nat.le_of_ble_eq_true rfl) (fun p e s m below meth c S hr hlocks hsz hm hK hZ hA ls hl => ?_)
  subst hsz
  obtain ⟨hx, hb, hml, hown, hts⟩ := id S
  subst hm0
  have hl : lv_has ls 5 [(0, .ref (ad 0)), (1, .int (iN (r))), (2, .int (iN ((most : Int))))] := hl
  refine L_cut1 (Z := Z) S hK hZo hZ hA V M r most x sg N hr0 (fun M1 k H locs ls hk rg0 fr0 hl hm => ?_) (n + 1) M n _ _ _ (by omega) (by omega) (hg) (Fr.rf) (lv_sub hl [0, 1, 2] rfl) hm
  subst hk
  have e2 : M1 2 r = nd N := rg0.1
  have hlt := nd_le (show N < 10 ^ n from hg.lt)
  obtain ⟨N1, hN1⟩ : ∃ y : Nat, y = N / 10 ^ (nd N - most) := ⟨_, rfl⟩
  obtain ⟨x1, hx1⟩ : ∃ y : Int, y = x + (nd N - most : Nat) := ⟨_, rfl⟩
  have hnd1 : nd N1 = nd N - (nd N - most) := by rw [hN1]; exact nd_div
  refine lv_aload_n hx hb d_Mo_cut_44 rfl (lv_at hl 0 rfl) ?_
  refine mo_get 3 S hK hm (by decide) k469 rfl rfl d_Mo_cut_45 ?_
  refine lv_iload_n hx hb d_Mo_cut_48 rfl (lv_at hl 1 rfl) ?_
  refine mo_iald 2 S hK hm (by decide) (by simp only [moLen]; omega) d_Mo_cut_49 ?_
  refine lv_iload_n hx hb d_Mo_cut_50 rfl (lv_at hl 2 rfl) ?_
  refine fm_icmp_le (tgt := 67) S (by omega) (by omega) d_Mo_cut_51 (by decide) (fun c2 => ?_) (fun c2 => ?_)
  · have hg1 : Rg M1 r (nd N1) N1 x1 sg := by
      have h0 : nd N - most = 0 := by omega
      rw [hnd1, hx1, hN1, h0]
      simpa using rg0
    have e5 : M1 2 r = nd N1 := hg1.1
    refine fm_iconst S d_Mo_cut_67 ?_
    refine lv_istore_n (lv' := [(3, .int (iN (0))), (0, .ref (ad 0)), (1, .int (iN (r))), (2, .int (iN ((most : Int))))]) hx hb d_Mo_cut_68 rfl hl (by decide) rfl (fun ls hl => ?_)
    refine L_cut2 (Z := Z) S hK hZo hZ hA V M1 r most (nd N1) hr0 (by omega) hg1.1 hg1.2.2.2.1 (fun M3 k H locs ls hMe hk hz hex hl hm => ?_) (nd N1 + 1) M1 0 _ _ _ (by omega) (rfl) (by omega) (fun q h1 h2 => by omega) (lv_sub hl [0, 1, 2, 3] rfl) hm
    rw [hMe] at hm
    have hk2 := hg1.tzE rfl hz hk hex
    refine lv_iload_n hx hb d_Mo_cut_100 rfl (lv_at hl 0 rfl) ?_
    refine fm_if_le (tgt := 110) S (by omega) d_Mo_cut_101 (by decide) (fun c4 => ?_) (fun c4 => ?_)
    · have hg2 : Rg M1 r (nd (cutC most N)) (cutC most N) (cutX most N x) sg := by
        have h0 : tz N1 = 0 := by omega
        unfold cutC cutX
        rw [← hN1, ← hx1, h0]
        simpa using hg1
      have e6 := hg2.1
      have e7 := hg2.2.1
      have e8 := cut_nd (x := x) (N := N) hmo.1
      have e9 := cut_bd N x hmo.1
      refine lv_aload_n hx hb d_Mo_cut_110 rfl (lv_at hl 1 rfl) ?_
      refine mo_get 3 S hK hm (by decide) k469 rfl rfl d_Mo_cut_111 ?_
      refine lv_iload_n hx hb d_Mo_cut_114 rfl (lv_at hl 2 rfl) ?_
      refine mo_iald 2 S hK hm (by decide) (by simp only [moLen]; omega) d_Mo_cut_115 ?_
      refine lv_aload_n hx hb d_Mo_cut_116 rfl (lv_at hl 1 rfl) ?_
      refine mo_get 4 S hK hm (by decide) k470 rfl rfl d_Mo_cut_117 ?_
      refine lv_iload_n hx hb d_Mo_cut_120 rfl (lv_at hl 2 rfl) ?_
      refine mo_iald 3 S hK hm (by decide) (by simp only [moLen]; omega) d_Mo_cut_121 ?_
      refine fm_iadd S d_Mo_cut_122 ?_
      refine fm_iconst S d_Mo_cut_123 ?_
      refine fm_isub S d_Mo_cut_124 ?_
      refine fm_topi (fun x5 hx5 => ?_)
      refine lv_istore (lv' := [(4, .int (iN (x5))), (3, .int (iN (k))), (0, .ref (ad 0)), (1, .int (iN (r))), (2, .int (iN ((most : Int))))]) hx hb d_Mo_cut_125 hl (by decide) rfl (fun ls hl => ?_)
      refine lv_aload_n hx hb d_Mo_cut_127 rfl (lv_at hl 2 rfl) ?_
      refine mo_get 3 S hK hm (by decide) k469 rfl rfl d_Mo_cut_128 ?_
      refine lv_iload_n hx hb d_Mo_cut_131 rfl (lv_at hl 3 rfl) ?_
      refine mo_iald 2 S hK hm (by decide) (by simp only [moLen]; omega) d_Mo_cut_132 ?_
      refine fm_if_eq (tgt := 143) S (by omega) d_Mo_cut_133 (by decide) (fun c6 => ?_) (fun c6 => ?_)
      · refine lv_aload_n hx hb d_Mo_cut_143 rfl (lv_at hl 2 rfl) ?_
        refine lv_iload_n hx hb d_Mo_cut_144 rfl (lv_at hl 3 rfl) ?_
        refine mo_cvS (n := 1) (As := [.int (iN (r))]) (rest := []) S hK hZo hZ hA hm (fun μ sz hM => t_Mo_zero l D cs Z hZo ad μ V M1 sz r hM (by omega)) (gV k550 k552 ks20 k6 k553) (by decide) (by decide +kernel) rfl hl.1 rfl (Nat.le_of_ble_eq_true rfl) ⟨Nat.le_of_ble_eq_true rfl, Nat.le_of_ble_eq_true rfl⟩ d_Mo_cut_145 (fun M8 H locs q7 hm => ?_)
        obtain ⟨frM8, rgM8⟩ := q7
        refine fm_iconst S d_Mo_cut_148 ?_
        refine mo_iret S hr hlocks hK hm d_Mo_cut_149 ?_
        exact ⟨rfl, (fr0).tr frM8, Or.inl ⟨by omega, rfl, rgM8⟩⟩
      · refine lv_iload hx hb d_Mo_cut_136 (lv_at hl 0 rfl) ?_
        refine fm_bipush S d_Mo_cut_138 (by decide) ?_
        refine fm_icmp_ge (tgt := 150) S (by omega) (by omega) d_Mo_cut_140 (by decide) (fun c9 => ?_) (fun c9 => ?_)
        · refine lv_iload hx hb d_Mo_cut_150 (lv_at hl 0 rfl) ?_
          refine fm_bipush S d_Mo_cut_152 (by decide) ?_
          refine fm_icmp_lt (tgt := 161) S (by omega) (by omega) d_Mo_cut_154 (by decide) (fun c10 => ?_) (fun c10 => ?_)
          · refine fm_iconst S d_Mo_cut_161 ?_
            refine mo_iret S hr hlocks hK hm d_Mo_cut_162 ?_
            exact ⟨rfl, fr0, Or.inr ⟨by omega, by omega, by split <;> omega, hg2⟩⟩
          · refine fm_iconst S d_Mo_cut_157 ?_
            refine lv_goto (tgt := 162) hx hb d_Mo_cut_158 (by decide) ?_
            refine mo_iret S hr hlocks hK hm d_Mo_cut_162 ?_
            exact ⟨rfl, fr0, Or.inr ⟨by omega, by omega, by split <;> omega, hg2⟩⟩
        · refine lv_aload_n hx hb d_Mo_cut_143 rfl (lv_at hl 2 rfl) ?_
          refine lv_iload_n hx hb d_Mo_cut_144 rfl (lv_at hl 3 rfl) ?_
          refine mo_cvS (n := 1) (As := [.int (iN (r))]) (rest := []) S hK hZo hZ hA hm (fun μ sz hM => t_Mo_zero l D cs Z hZo ad μ V M1 sz r hM (by omega)) (gV k550 k552 ks20 k6 k553) (by decide) (by decide +kernel) rfl hl.1 rfl (Nat.le_of_ble_eq_true rfl) ⟨Nat.le_of_ble_eq_true rfl, Nat.le_of_ble_eq_true rfl⟩ d_Mo_cut_145 (fun M12 H locs q11 hm => ?_)
          obtain ⟨frM12, rgM12⟩ := q11
          refine fm_iconst S d_Mo_cut_148 ?_
          refine mo_iret S hr hlocks hK hm d_Mo_cut_149 ?_
          exact ⟨rfl, (fr0).tr frM12, Or.inl ⟨by omega, rfl, rgM12⟩⟩
    · refine lv_aload_n hx hb d_Mo_cut_104 rfl (lv_at hl 1 rfl) ?_
      refine lv_iload_n hx hb d_Mo_cut_105 rfl (lv_at hl 2 rfl) ?_
      refine lv_iload_n hx hb d_Mo_cut_106 rfl (lv_at hl 0 rfl) ?_
      refine mo_cvS (n := 2) (As := [.int (iN (r)), .int (iN (k))]) (rest := []) S hK hZo hZ hA hm (fun μ sz hM => t_Mo_drop l D cs Z hZo ad μ V M1 sz r k (tz N1) (nd N1) N1 x1 sg hM (by omega) hg1 (by omega)) (gV k559 k561 ks22 k6 k562) (by decide) (by decide +kernel) rfl hl.1 rfl (Nat.le_of_ble_eq_true rfl) ⟨Nat.le_of_ble_eq_true rfl, Nat.le_of_ble_eq_true rfl⟩ d_Mo_cut_107 (fun M14 H locs q13 hm => ?_)
      obtain ⟨frM14, rgM14⟩ := q13
      have hg2 : Rg M14 r (nd (cutC most N)) (cutC most N) (cutX most N x) sg := by
        unfold cutC cutX
        rw [← hN1, ← hx1, nd_div]
        exact rgM14
      have e6 := hg2.1
      have e7 := hg2.2.1
      have e8 := cut_nd (x := x) (N := N) hmo.1
      have e9 := cut_bd N x hmo.1
      refine lv_aload_n hx hb d_Mo_cut_110 rfl (lv_at hl 1 rfl) ?_
      refine mo_get 3 S hK hm (by decide) k469 rfl rfl d_Mo_cut_111 ?_
      refine lv_iload_n hx hb d_Mo_cut_114 rfl (lv_at hl 2 rfl) ?_
      refine mo_iald 2 S hK hm (by decide) (by simp only [moLen]; omega) d_Mo_cut_115 ?_
      refine lv_aload_n hx hb d_Mo_cut_116 rfl (lv_at hl 1 rfl) ?_
      refine mo_get 4 S hK hm (by decide) k470 rfl rfl d_Mo_cut_117 ?_
      refine lv_iload_n hx hb d_Mo_cut_120 rfl (lv_at hl 2 rfl) ?_
      refine mo_iald 3 S hK hm (by decide) (by simp only [moLen]; omega) d_Mo_cut_121 ?_
      refine fm_iadd S d_Mo_cut_122 ?_
      refine fm_iconst S d_Mo_cut_123 ?_
      refine fm_isub S d_Mo_cut_124 ?_
      refine fm_topi (fun x15 hx15 => ?_)
      refine lv_istore (lv' := [(4, .int (iN (x15))), (3, .int (iN (k))), (0, .ref (ad 0)), (1, .int (iN (r))), (2, .int (iN ((most : Int))))]) hx hb d_Mo_cut_125 hl (by decide) rfl (fun ls hl => ?_)
      refine lv_aload_n hx hb d_Mo_cut_127 rfl (lv_at hl 2 rfl) ?_
      refine mo_get 3 S hK hm (by decide) k469 rfl rfl d_Mo_cut_128 ?_
      refine lv_iload_n hx hb d_Mo_cut_131 rfl (lv_at hl 3 rfl) ?_
      refine mo_iald 2 S hK hm (by decide) (by simp only [moLen]; omega) d_Mo_cut_132 ?_
      refine fm_if_eq (tgt := 143) S (by omega) d_Mo_cut_133 (by decide) (fun c16 => ?_) (fun c16 => ?_)
      · refine lv_aload_n hx hb d_Mo_cut_143 rfl (lv_at hl 2 rfl) ?_
        refine lv_iload_n hx hb d_Mo_cut_144 rfl (lv_at hl 3 rfl) ?_
        refine mo_cvS (n := 1) (As := [.int (iN (r))]) (rest := []) S hK hZo hZ hA hm (fun μ sz hM => t_Mo_zero l D cs Z hZo ad μ V M14 sz r hM (by omega)) (gV k550 k552 ks20 k6 k553) (by decide) (by decide +kernel) rfl hl.1 rfl (Nat.le_of_ble_eq_true rfl) ⟨Nat.le_of_ble_eq_true rfl, Nat.le_of_ble_eq_true rfl⟩ d_Mo_cut_145 (fun M18 H locs q17 hm => ?_)
        obtain ⟨frM18, rgM18⟩ := q17
        refine fm_iconst S d_Mo_cut_148 ?_
        refine mo_iret S hr hlocks hK hm d_Mo_cut_149 ?_
        exact ⟨rfl, ((fr0).tr frM14).tr frM18, Or.inl ⟨by omega, rfl, rgM18⟩⟩
      · refine lv_iload hx hb d_Mo_cut_136 (lv_at hl 0 rfl) ?_
        refine fm_bipush S d_Mo_cut_138 (by decide) ?_
        refine fm_icmp_ge (tgt := 150) S (by omega) (by omega) d_Mo_cut_140 (by decide) (fun c19 => ?_) (fun c19 => ?_)
        · refine lv_iload hx hb d_Mo_cut_150 (lv_at hl 0 rfl) ?_
          refine fm_bipush S d_Mo_cut_152 (by decide) ?_
          refine fm_icmp_lt (tgt := 161) S (by omega) (by omega) d_Mo_cut_154 (by decide) (fun c20 => ?_) (fun c20 => ?_)
          · refine fm_iconst S d_Mo_cut_161 ?_
            refine mo_iret S hr hlocks hK hm d_Mo_cut_162 ?_
            exact ⟨rfl, (fr0).tr frM14, Or.inr ⟨by omega, by omega, by split <;> omega, hg2⟩⟩
          · refine fm_iconst S d_Mo_cut_157 ?_
            refine lv_goto (tgt := 162) hx hb d_Mo_cut_158 (by decide) ?_
            refine mo_iret S hr hlocks hK hm d_Mo_cut_162 ?_
            exact ⟨rfl, (fr0).tr frM14, Or.inr ⟨by omega, by omega, by split <;> omega, hg2⟩⟩
        · refine lv_aload_n hx hb d_Mo_cut_143 rfl (lv_at hl 2 rfl) ?_
          refine lv_iload_n hx hb d_Mo_cut_144 rfl (lv_at hl 3 rfl) ?_
          refine mo_cvS (n := 1) (As := [.int (iN (r))]) (rest := []) S hK hZo hZ hA hm (fun μ sz hM => t_Mo_zero l D cs Z hZo ad μ V M14 sz r hM (by omega)) (gV k550 k552 ks20 k6 k553) (by decide) (by decide +kernel) rfl hl.1 rfl (Nat.le_of_ble_eq_true rfl) ⟨Nat.le_of_ble_eq_true rfl, Nat.le_of_ble_eq_true rfl⟩ d_Mo_cut_145 (fun M22 H locs q21 hm => ?_)
          obtain ⟨frM22, rgM22⟩ := q21
          refine fm_iconst S d_Mo_cut_148 ?_
          refine mo_iret S hr hlocks hK hm d_Mo_cut_149 ?_
          exact ⟨rfl, ((fr0).tr frM14).tr frM22, Or.inl ⟨by omega, rfl, rgM22⟩⟩
  · refine lv_aload_n hx hb d_Mo_cut_54 rfl (lv_at hl 0 rfl) ?_
    refine lv_iload_n hx hb d_Mo_cut_55 rfl (lv_at hl 1 rfl) ?_
    refine lv_aload_n hx hb d_Mo_cut_56 rfl (lv_at hl 0 rfl) ?_
    refine mo_get 3 S hK hm (by decide) k469 rfl rfl d_Mo_cut_57 ?_
    refine lv_iload_n hx hb d_Mo_cut_60 rfl (lv_at hl 1 rfl) ?_
    refine mo_iald 2 S hK hm (by decide) (by simp only [moLen]; omega) d_Mo_cut_61 ?_
    refine lv_iload_n hx hb d_Mo_cut_62 rfl (lv_at hl 2 rfl) ?_
    refine fm_isub S d_Mo_cut_63 ?_
    refine mo_cvS (n := 2) (As := [.int (iN (r)), .int (iN (((M1 2 r) - (most : Int))))]) (rest := []) S hK hZo hZ hA hm (fun μ sz hM => t_Mo_drop l D cs Z hZo ad μ V M1 sz r ((M1 2 r) - (most : Int)) (nd N - most) (nd N) N x sg hM (by omega) rg0 (by omega)) (gV k559 k561 ks22 k6 k562) (by decide) (by decide +kernel) rfl hl.1 rfl (Nat.le_of_ble_eq_true rfl) ⟨Nat.le_of_ble_eq_true rfl, Nat.le_of_ble_eq_true rfl⟩ d_Mo_cut_64 (fun M24 H locs q23 hm => ?_)
    obtain ⟨frM24, rgM24⟩ := q23
    have hg1 : Rg M24 r (nd N1) N1 x1 sg := by
      rw [hnd1, hx1, hN1]
      exact rgM24
    have e5 : M24 2 r = nd N1 := hg1.1
    refine fm_iconst S d_Mo_cut_67 ?_
    refine lv_istore_n (lv' := [(3, .int (iN (0))), (0, .ref (ad 0)), (1, .int (iN (r))), (2, .int (iN ((most : Int))))]) hx hb d_Mo_cut_68 rfl hl (by decide) rfl (fun ls hl => ?_)
    refine L_cut2 (Z := Z) S hK hZo hZ hA V M24 r most (nd N1) hr0 (by omega) hg1.1 hg1.2.2.2.1 (fun M25 k H locs ls hMe hk hz hex hl hm => ?_) (nd N1 + 1) M24 0 _ _ _ (by omega) (rfl) (by omega) (fun q h1 h2 => by omega) (lv_sub hl [0, 1, 2, 3] rfl) hm
    rw [hMe] at hm
    have hk2 := hg1.tzE rfl hz hk hex
    refine lv_iload_n hx hb d_Mo_cut_100 rfl (lv_at hl 0 rfl) ?_
    refine fm_if_le (tgt := 110) S (by omega) d_Mo_cut_101 (by decide) (fun c26 => ?_) (fun c26 => ?_)
    · have hg2 : Rg M24 r (nd (cutC most N)) (cutC most N) (cutX most N x) sg := by
        have h0 : tz N1 = 0 := by omega
        unfold cutC cutX
        rw [← hN1, ← hx1, h0]
        simpa using hg1
      have e6 := hg2.1
      have e7 := hg2.2.1
      have e8 := cut_nd (x := x) (N := N) hmo.1
      have e9 := cut_bd N x hmo.1
      refine lv_aload_n hx hb d_Mo_cut_110 rfl (lv_at hl 1 rfl) ?_
      refine mo_get 3 S hK hm (by decide) k469 rfl rfl d_Mo_cut_111 ?_
      refine lv_iload_n hx hb d_Mo_cut_114 rfl (lv_at hl 2 rfl) ?_
      refine mo_iald 2 S hK hm (by decide) (by simp only [moLen]; omega) d_Mo_cut_115 ?_
      refine lv_aload_n hx hb d_Mo_cut_116 rfl (lv_at hl 1 rfl) ?_
      refine mo_get 4 S hK hm (by decide) k470 rfl rfl d_Mo_cut_117 ?_
      refine lv_iload_n hx hb d_Mo_cut_120 rfl (lv_at hl 2 rfl) ?_
      refine mo_iald 3 S hK hm (by decide) (by simp only [moLen]; omega) d_Mo_cut_121 ?_
      refine fm_iadd S d_Mo_cut_122 ?_
      refine fm_iconst S d_Mo_cut_123 ?_
      refine fm_isub S d_Mo_cut_124 ?_
      refine fm_topi (fun x27 hx27 => ?_)
      refine lv_istore (lv' := [(4, .int (iN (x27))), (3, .int (iN (k))), (0, .ref (ad 0)), (1, .int (iN (r))), (2, .int (iN ((most : Int))))]) hx hb d_Mo_cut_125 hl (by decide) rfl (fun ls hl => ?_)
      refine lv_aload_n hx hb d_Mo_cut_127 rfl (lv_at hl 2 rfl) ?_
      refine mo_get 3 S hK hm (by decide) k469 rfl rfl d_Mo_cut_128 ?_
      refine lv_iload_n hx hb d_Mo_cut_131 rfl (lv_at hl 3 rfl) ?_
      refine mo_iald 2 S hK hm (by decide) (by simp only [moLen]; omega) d_Mo_cut_132 ?_
      refine fm_if_eq (tgt := 143) S (by omega) d_Mo_cut_133 (by decide) (fun c28 => ?_) (fun c28 => ?_)
      · refine lv_aload_n hx hb d_Mo_cut_143 rfl (lv_at hl 2 rfl) ?_
        refine lv_iload_n hx hb d_Mo_cut_144 rfl (lv_at hl 3 rfl) ?_
        refine mo_cvS (n := 1) (As := [.int (iN (r))]) (rest := []) S hK hZo hZ hA hm (fun μ sz hM => t_Mo_zero l D cs Z hZo ad μ V M24 sz r hM (by omega)) (gV k550 k552 ks20 k6 k553) (by decide) (by decide +kernel) rfl hl.1 rfl (Nat.le_of_ble_eq_true rfl) ⟨Nat.le_of_ble_eq_true rfl, Nat.le_of_ble_eq_true rfl⟩ d_Mo_cut_145 (fun M30 H locs q29 hm => ?_)
        obtain ⟨frM30, rgM30⟩ := q29
        refine fm_iconst S d_Mo_cut_148 ?_
        refine mo_iret S hr hlocks hK hm d_Mo_cut_149 ?_
        exact ⟨rfl, (fr0.tr frM24).tr frM30, Or.inl ⟨by omega, rfl, rgM30⟩⟩
      · refine lv_iload hx hb d_Mo_cut_136 (lv_at hl 0 rfl) ?_
        refine fm_bipush S d_Mo_cut_138 (by decide) ?_
        refine fm_icmp_ge (tgt := 150) S (by omega) (by omega) d_Mo_cut_140 (by decide) (fun c31 => ?_) (fun c31 => ?_)
        · refine lv_iload hx hb d_Mo_cut_150 (lv_at hl 0 rfl) ?_
          refine fm_bipush S d_Mo_cut_152 (by decide) ?_
          refine fm_icmp_lt (tgt := 161) S (by omega) (by omega) d_Mo_cut_154 (by decide) (fun c32 => ?_) (fun c32 => ?_)
          · refine fm_iconst S d_Mo_cut_161 ?_
            refine mo_iret S hr hlocks hK hm d_Mo_cut_162 ?_
            exact ⟨rfl, fr0.tr frM24, Or.inr ⟨by omega, by omega, by split <;> omega, hg2⟩⟩
          · refine fm_iconst S d_Mo_cut_157 ?_
            refine lv_goto (tgt := 162) hx hb d_Mo_cut_158 (by decide) ?_
            refine mo_iret S hr hlocks hK hm d_Mo_cut_162 ?_
            exact ⟨rfl, fr0.tr frM24, Or.inr ⟨by omega, by omega, by split <;> omega, hg2⟩⟩
        · refine lv_aload_n hx hb d_Mo_cut_143 rfl (lv_at hl 2 rfl) ?_
          refine lv_iload_n hx hb d_Mo_cut_144 rfl (lv_at hl 3 rfl) ?_
          refine mo_cvS (n := 1) (As := [.int (iN (r))]) (rest := []) S hK hZo hZ hA hm (fun μ sz hM => t_Mo_zero l D cs Z hZo ad μ V M24 sz r hM (by omega)) (gV k550 k552 ks20 k6 k553) (by decide) (by decide +kernel) rfl hl.1 rfl (Nat.le_of_ble_eq_true rfl) ⟨Nat.le_of_ble_eq_true rfl, Nat.le_of_ble_eq_true rfl⟩ d_Mo_cut_145 (fun M34 H locs q33 hm => ?_)
          obtain ⟨frM34, rgM34⟩ := q33
          refine fm_iconst S d_Mo_cut_148 ?_
          refine mo_iret S hr hlocks hK hm d_Mo_cut_149 ?_
          exact ⟨rfl, (fr0.tr frM24).tr frM34, Or.inl ⟨by omega, rfl, rgM34⟩⟩
    · refine lv_aload_n hx hb d_Mo_cut_104 rfl (lv_at hl 1 rfl) ?_
      refine lv_iload_n hx hb d_Mo_cut_105 rfl (lv_at hl 2 rfl) ?_
      refine lv_iload_n hx hb d_Mo_cut_106 rfl (lv_at hl 0 rfl) ?_
      refine mo_cvS (n := 2) (As := [.int (iN (r)), .int (iN (k))]) (rest := []) S hK hZo hZ hA hm (fun μ sz hM => t_Mo_drop l D cs Z hZo ad μ V M24 sz r k (tz N1) (nd N1) N1 x1 sg hM (by omega) hg1 (by omega)) (gV k559 k561 ks22 k6 k562) (by decide) (by decide +kernel) rfl hl.1 rfl (Nat.le_of_ble_eq_true rfl) ⟨Nat.le_of_ble_eq_true rfl, Nat.le_of_ble_eq_true rfl⟩ d_Mo_cut_107 (fun M36 H locs q35 hm => ?_)
      obtain ⟨frM36, rgM36⟩ := q35
      have hg2 : Rg M36 r (nd (cutC most N)) (cutC most N) (cutX most N x) sg := by
        unfold cutC cutX
        rw [← hN1, ← hx1, nd_div]
        exact rgM36
      have e6 := hg2.1
      have e7 := hg2.2.1
      have e8 := cut_nd (x := x) (N := N) hmo.1
      have e9 := cut_bd N x hmo.1
      refine lv_aload_n hx hb d_Mo_cut_110 rfl (lv_at hl 1 rfl) ?_
      refine mo_get 3 S hK hm (by decide) k469 rfl rfl d_Mo_cut_111 ?_
      refine lv_iload_n hx hb d_Mo_cut_114 rfl (lv_at hl 2 rfl) ?_
      refine mo_iald 2 S hK hm (by decide) (by simp only [moLen]; omega) d_Mo_cut_115 ?_
      refine lv_aload_n hx hb d_Mo_cut_116 rfl (lv_at hl 1 rfl) ?_
      refine mo_get 4 S hK hm (by decide) k470 rfl rfl d_Mo_cut_117 ?_
      refine lv_iload_n hx hb d_Mo_cut_120 rfl (lv_at hl 2 rfl) ?_
      refine mo_iald 3 S hK hm (by decide) (by simp only [moLen]; omega) d_Mo_cut_121 ?_
      refine fm_iadd S d_Mo_cut_122 ?_
      refine fm_iconst S d_Mo_cut_123 ?_
      refine fm_isub S d_Mo_cut_124 ?_
      refine fm_topi (fun x37 hx37 => ?_)
      refine lv_istore (lv' := [(4, .int (iN (x37))), (3, .int (iN (k))), (0, .ref (ad 0)), (1, .int (iN (r))), (2, .int (iN ((most : Int))))]) hx hb d_Mo_cut_125 hl (by decide) rfl (fun ls hl => ?_)
      refine lv_aload_n hx hb d_Mo_cut_127 rfl (lv_at hl 2 rfl) ?_
      refine mo_get 3 S hK hm (by decide) k469 rfl rfl d_Mo_cut_128 ?_
      refine lv_iload_n hx hb d_Mo_cut_131 rfl (lv_at hl 3 rfl) ?_
      refine mo_iald 2 S hK hm (by decide) (by simp only [moLen]; omega) d_Mo_cut_132 ?_
      refine fm_if_eq (tgt := 143) S (by omega) d_Mo_cut_133 (by decide) (fun c38 => ?_) (fun c38 => ?_)
      · refine lv_aload_n hx hb d_Mo_cut_143 rfl (lv_at hl 2 rfl) ?_
        refine lv_iload_n hx hb d_Mo_cut_144 rfl (lv_at hl 3 rfl) ?_
        refine mo_cvS (n := 1) (As := [.int (iN (r))]) (rest := []) S hK hZo hZ hA hm (fun μ sz hM => t_Mo_zero l D cs Z hZo ad μ V M36 sz r hM (by omega)) (gV k550 k552 ks20 k6 k553) (by decide) (by decide +kernel) rfl hl.1 rfl (Nat.le_of_ble_eq_true rfl) ⟨Nat.le_of_ble_eq_true rfl, Nat.le_of_ble_eq_true rfl⟩ d_Mo_cut_145 (fun M40 H locs q39 hm => ?_)
        obtain ⟨frM40, rgM40⟩ := q39
        refine fm_iconst S d_Mo_cut_148 ?_
        refine mo_iret S hr hlocks hK hm d_Mo_cut_149 ?_
        exact ⟨rfl, ((fr0.tr frM24).tr frM36).tr frM40, Or.inl ⟨by omega, rfl, rgM40⟩⟩
      · refine lv_iload hx hb d_Mo_cut_136 (lv_at hl 0 rfl) ?_
        refine fm_bipush S d_Mo_cut_138 (by decide) ?_
        refine fm_icmp_ge (tgt := 150) S (by omega) (by omega) d_Mo_cut_140 (by decide) (fun c41 => ?_) (fun c41 => ?_)
        · refine lv_iload hx hb d_Mo_cut_150 (lv_at hl 0 rfl) ?_
          refine fm_bipush S d_Mo_cut_152 (by decide) ?_
          refine fm_icmp_lt (tgt := 161) S (by omega) (by omega) d_Mo_cut_154 (by decide) (fun c42 => ?_) (fun c42 => ?_)
          · refine fm_iconst S d_Mo_cut_161 ?_
            refine mo_iret S hr hlocks hK hm d_Mo_cut_162 ?_
            exact ⟨rfl, (fr0.tr frM24).tr frM36, Or.inr ⟨by omega, by omega, by split <;> omega, hg2⟩⟩
          · refine fm_iconst S d_Mo_cut_157 ?_
            refine lv_goto (tgt := 162) hx hb d_Mo_cut_158 (by decide) ?_
            refine mo_iret S hr hlocks hK hm d_Mo_cut_162 ?_
            exact ⟨rfl, (fr0.tr frM24).tr frM36, Or.inr ⟨by omega, by omega, by split <;> omega, hg2⟩⟩
        · refine lv_aload_n hx hb d_Mo_cut_143 rfl (lv_at hl 2 rfl) ?_
          refine lv_iload_n hx hb d_Mo_cut_144 rfl (lv_at hl 3 rfl) ?_
          refine mo_cvS (n := 1) (As := [.int (iN (r))]) (rest := []) S hK hZo hZ hA hm (fun μ sz hM => t_Mo_zero l D cs Z hZo ad μ V M36 sz r hM (by omega)) (gV k550 k552 ks20 k6 k553) (by decide) (by decide +kernel) rfl hl.1 rfl (Nat.le_of_ble_eq_true rfl) ⟨Nat.le_of_ble_eq_true rfl, Nat.le_of_ble_eq_true rfl⟩ d_Mo_cut_145 (fun M44 H locs q43 hm => ?_)
          obtain ⟨frM44, rgM44⟩ := q43
          refine fm_iconst S d_Mo_cut_148 ?_
          refine mo_iret S hr hlocks hK hm d_Mo_cut_149 ?_
          exact ⟨rfl, ((fr0.tr frM24).tr frM36).tr frM44, Or.inl ⟨by omega, rfl, rgM44⟩⟩
end
section
-- SUMS (own work)
theorem dgt_sh {N : Nat} {x p low : Int} (h1 : low ≤ x) (h2 : low ≤ p) : dgt N x p = ((N * 10 ^ (x - low).toNat / 10 ^ (p - low).toNat % 10 : Nat) : Int) := by
  unfold dgt
  by_cases h : p < x
  · rw [if_pos h]
    have e : (x - low).toNat = (p - low).toNat + ((x - p).toNat - 1) + 1 := by omega
    rw [e, Nat.pow_succ, Nat.pow_add, Nat.mul_comm N, Nat.mul_assoc, Nat.mul_assoc, Nat.mul_div_cancel_left _ (p10N _), ← Nat.mul_assoc, Nat.mul_comm _ 10, Nat.mul_assoc, Nat.mul_mod_right]
    rfl
  · rw [if_neg h]
    have e : (p - low).toNat = (x - low).toNat + (p - x).toNat := by omega
    rw [e, Nat.pow_add, ← Nat.div_div_eq_div_mul, Nat.mul_div_cancel _ (p10N _)]
theorem nat_top {a b i : Nat} (h : a / 10 ^ (i + 1) = b / 10 ^ (i + 1)) (hd : a / 10 ^ i % 10 < b / 10 ^ i % 10) : a < b := by
  have e1 : a / 10 ^ (i + 1) = a / 10 ^ i / 10 := by rw [Nat.div_div_eq_div_mul, Nat.pow_succ]
  have e2 : b / 10 ^ (i + 1) = b / 10 ^ i / 10 := by rw [Nat.div_div_eq_div_mul, Nat.pow_succ]
  have h3 : a / 10 ^ i < b / 10 ^ i := by omega
  rcases Nat.lt_or_ge a b with h4 | h4
  · exact h4
  · have := Nat.div_le_div_right (c := 10 ^ i) h4
    omega
theorem nat_same {a b i : Nat} (h : a / 10 ^ (i + 1) = b / 10 ^ (i + 1)) (hd : a / 10 ^ i % 10 = b / 10 ^ i % 10) : a / 10 ^ i = b / 10 ^ i := by
  have e1 : a / 10 ^ (i + 1) = a / 10 ^ i / 10 := by rw [Nat.div_div_eq_div_mul, Nat.pow_succ]
  have e2 : b / 10 ^ (i + 1) = b / 10 ^ i / 10 := by rw [Nat.div_div_eq_div_mul, Nat.pow_succ]
  omega
/-- comparing from the highest digit on: what an order's answer says -/
def ordOk (a b : Nat) (z : Int) : Prop := -9 ≤ z ∧ z ≤ 9 ∧ (z < 0 → a < b) ∧ (0 < z → b < a) ∧ (z = 0 → a = b)
/-- the value of sg * N * 10^x, in units of 10^-300 -/
def vI (sg : Int) (N : Nat) (x : Int) : Int := sg * N * 10 ^ (x + 300).toNat
/-- adding or taking off, digit by digit: i digits are done -/
def AdI (M0 M : Nat → Int → Int) (i : Nat) (cy σ : Int) (VB VL : Nat) : Prop := Fr M0 M 2 ∧ (M 2 = M0 2 ∧ M 3 = M0 3 ∧ M 4 = M0 4) ∧ dOk (M 1) 640 i ∧ -1 ≤ cy ∧ cy ≤ 1 ∧ dv (M 1) 640 i + cy * 10 ^ i = ((VB % 10 ^ i : Nat) : Int) + σ * ((VL % 10 ^ i : Nat) : Int)
theorem AdI.start (M : Nat → Int → Int) (σ : Int) (VB VL : Nat) : AdI M M 0 0 σ VB VL := ⟨Fr.rf, ⟨rfl, rfl, rfl⟩, fun k h1 h2 => by omega, by omega, by omega, by simp [dv, Nat.mod_one]⟩
theorem AdI.step {M0 M M1 : Nat → Int → Int} {i : Nat} {cy cy' σ d k : Int} {VB VL : Nat} (h : AdI M0 M i cy σ VB VL) (hi : i < 320) (hk : k = 640 + i) (hd : d = ((VB / 10 ^ i % 10 : Nat) : Int) + σ * ((VL / 10 ^ i % 10 : Nat) : Int) + cy) (hσ : σ = 1 ∨ σ = -1) (hcy : (d < 0 ∧ cy' = -1) ∨ (9 < d ∧ cy' = 1) ∨ (0 ≤ d ∧ d ≤ 9 ∧ cy' = 0)) (e : M1 = setA M 1 k (d - 10 * cy')) : AdI M0 M1 (i + 1) cy' σ VB VL := by
  obtain ⟨hF, hs, hok, hc1, hc2, hv⟩ := h
  subst hk
  have hm1 := Nat.mod_lt (VB / 10 ^ i) (show 10 > 0 by decide)
  have hm2 := Nat.mod_lt (VL / 10 ^ i) (show 10 > 0 by decide)
  have hdb : -10 ≤ d ∧ d ≤ 19 := by rcases hσ with h | h <;> subst h <;> omega
  have hF1 : Fr M M1 2 := Fr.d (r := 2) (k := (i : Int)) e (by omega)
  have d1 : M1 1 = uI (M 1) (640 + i) (d - 10 * cy') := by subst e; simp [setA]
  have hlow : ∀ q : Int, 0 ≤ q → q < i → M1 1 (640 + q) = M 1 (640 + q) := fun q a b => by rw [d1, uI_n (by omega)]
  have htop : M1 1 (640 + i) = d - 10 * cy' := by rw [d1, uI_s]
  refine ⟨hF.tr hF1, ?_, ?_, by omega, by omega, ?_⟩
  · subst e
    exact ⟨(setA_n (by decide)).trans hs.1, (setA_n (by decide)).trans hs.2.1, (setA_n (by decide)).trans hs.2.2⟩
  · intro q a b
    by_cases hq : q < i
    · rw [hlow q a hq]; exact hok q a hq
    · rw [show q = i by omega, htop]; omega
  · show dv (M1 1) 640 i + M1 1 (640 + i) * 10 ^ i + cy' * 10 ^ (i + 1) = _
    rw [dv_congr hlow, htop, Nat.pow_succ, Nat.mod_mul, Nat.mod_mul, Int.pow_succ]
    push_cast
    have e1 : dv (M 1) 640 i = ((VB % 10 ^ i : Nat) : Int) + σ * ((VL % 10 ^ i : Nat) : Int) - cy * 10 ^ i := by omega
    rw [e1, hd]
    push_cast
    rcases hσ with h | h <;> subst h
    · simp only [Int.add_mul, Int.sub_mul, Int.mul_add, Int.one_mul, Int.mul_comm (10 ^ i), Int.mul_assoc, Int.mul_left_comm]
      omega
    · simp only [Int.add_mul, Int.sub_mul, Int.mul_add, Int.neg_mul, Int.one_mul, Int.mul_comm (10 ^ i), Int.mul_assoc, Int.mul_left_comm]
      omega
theorem AdI.fin {M0 M M1 M2 M3 : Nat → Int → Int} {i : Nat} {cy σ low sg : Int} {VB VL T : Nat} (h : AdI M0 M i cy σ VB VL) (hB : VB < 10 ^ i) (hL : VL < 10 ^ i) (hT : (T : Int) = VB + σ * VL) (hTl : T < 10 ^ i) (e1 : M1 = setA M 2 2 i) (e2 : M2 = setA M1 3 2 low) (e3 : M3 = setA M2 4 2 sg) : Fr M0 M3 2 ∧ Rg M3 2 i T low sg := by
  obtain ⟨hF, hs, hok, hc1, hc2, hv⟩ := h
  rw [Nat.mod_eq_of_lt hB, Nat.mod_eq_of_lt hL, ← hT] at hv
  have h1 := dv_lt hok
  have h2 : (T : Int) < 10 ^ i := by rw [← p10c]; omega
  have h3 : cy = 0 := by
    rcases (show cy = -1 ∨ cy = 0 ∨ cy = 1 by omega) with h | h | h
    · subst h; omega
    · exact h
    · subst h; omega
  subst h3
  have d1 : M3 1 = M 1 := by subst e3 e2 e1; simp [setA]
  refine ⟨hF.tr ((Fr.s e1 (by decide)).tr ((Fr.s e2 (by decide)).tr (Fr.s e3 (by decide)))), ?_, ?_, ?_, ?_, ?_⟩
  · subst e3 e2 e1; simp [setA, uI]
  · subst e3 e2 e1; simp [setA, uI]
  · subst e3 e2 e1; simp [setA, uI]
  · rw [d1]; exact hok
  · rw [d1]
    show dv (M 1) (320 * 2) i = T
    rw [show (320 * 2 : Int) = 640 by decide]
    omega
theorem sc_lt {N n : Nat} {x low : Int} {h : Nat} (hN : N < 10 ^ n) (hx : low ≤ x) (hh : x - low + n ≤ h) : N * 10 ^ (x - low).toNat < 10 ^ h := by
  have h1 : N * 10 ^ (x - low).toNat < 10 ^ n * 10 ^ (x - low).toNat := Nat.mul_lt_mul_of_pos_right hN (p10N _)
  rw [← Nat.pow_add] at h1
  exact Nat.lt_of_lt_of_le h1 (Nat.pow_le_pow_right (by decide) (by omega))
theorem vI_sc {sg x low : Int} {N : Nat} (h1 : low ≤ x) (h2 : -300 ≤ low) : vI sg N x = sg * ((N * 10 ^ (x - low).toNat : Nat) : Int) * 10 ^ (low + 300).toNat := by
  unfold vI
  push_cast
  rw [show (x + 300).toNat = (x - low).toNat + (low + 300).toNat by omega, Int.pow_add]
  simp only [Int.mul_assoc]
end
section
set_option maxHeartbeats 4000000 in
set_option maxRecDepth 100000 in
/-- L_order -/
theorem L_order {p : Program} {l : Launch} {e : Env} {s : State} {m : MethodId} {args : Array Value} {below : List Frame} {meth : Method} {c : Code} {Q : State → Prop} {D : va_G} {cs : Nat → ClassId} {Z : (Nat → Prop) → State → Heap → Prop} {ad : Nat → Nat} {μ0 : fm_Mu} {A : Nat → Prop}  (S : CallFix p m c c_Mo_order 7 s args wA "ArithmeticFormsModel") (hK : va_K D clsA (tysA cs) s) (hZo : fm_Zok Z) (hZ : Z A s s.heap) (hA : ∀ q, s.heap.size ≤ q → A q) (V : Nat → Int) (M0 : Nat → Int → Int) (a b low high : Int) (na NA nb NB : Nat) (xa sa xb sb : Int) (hab : 0 ≤ a ∧ a < 7 ∧ 0 ≤ b ∧ b < 7) (hga : Rg M0 a na NA xa sa) (hgb : Rg M0 b nb NB xb sb) (hbd : na ≤ 320 ∧ nb ≤ 320 ∧ low ≤ xa ∧ low ≤ xb ∧ -1000 ≤ low ∧ high ≤ 1000 ∧ xa ≤ 1000 ∧ xb ≤ 1000) (VA VB : Nat) (hVA : VA = NA * 10 ^ (xa - low).toNat) (hVB : VB = NB * 10 ^ (xb - low).toNat) (kk43 : ∀ (M : Nat → Int → Int) (P : Int) (H : Heap) (locs : List Loc) (ls : Array Slot), (M = M0) → (VA = VB) → lv_has ls 7 [(5, .int (iN (P))), (0, .ref (ad 0)), (1, .int (iN (a))), (2, .int (iN (b))), (3, .int (iN (low))), (4, .int (iN (high)))] → moW D A s.heap μ0 cs ad V M H locs → W p l e ({ frames := 1, cells := 0, slots := 0, locals := 23 }) s m args below meth c H locs 0 0 Q (F0 m 43 ls [])) (kk34 : ∀ (M : Nat → Int → Int) (P : Int) (z : Int) (H : Heap) (locs : List Loc) (ls : Array Slot), (M = M0) → (ordOk VA VB z) → lv_has ls 7 [(6, .int (iN (z))), (5, .int (iN (P))), (0, .ref (ad 0)), (1, .int (iN (a))), (2, .int (iN (b))), (3, .int (iN (low))), (4, .int (iN (high)))] → moW D A s.heap μ0 cs ad V M H locs → W p l e ({ frames := 1, cells := 0, slots := 0, locals := 23 }) s m args below meth c H locs 0 0 Q (F0 m 34 ls [])) : ∀ (fu : Nat) (M : Nat → Int → Int) (P : Int) (H : Heap) (locs : List Loc) (ls : Array Slot), P - low + 1 < (fu : Int) → (M = M0) → (low - 1 ≤ P ∧ P < high) → (VA / 10 ^ (P + 1 - low).toNat = VB / 10 ^ (P + 1 - low).toNat) → lv_has ls 7 [(5, .int (iN (P))), (0, .ref (ad 0)), (1, .int (iN (a))), (2, .int (iN (b))), (3, .int (iN (low))), (4, .int (iN (high)))] → moW D A s.heap μ0 cs ad V M H locs → W p l e ({ frames := 1, cells := 0, slots := 0, locals := 23 }) s m args below meth c H locs 0 0 Q (F0 m 6 ls []) := by
  obtain ⟨hx, hb, hml, hown, hts⟩ := id S
  intro fu
  induction fu with
  | zero =>
    intro M P H locs ls hn hM0 hP hq hl hm
    exfalso; omega
  | succ fu ih =>
    intro M P H locs ls hn hM0 hP hq hl hm
    refine lv_iload hx hb d_Mo_order_6 (lv_at hl 0 rfl) ?_
    refine lv_iload_n hx hb d_Mo_order_8 rfl (lv_at hl 4 rfl) ?_
    refine fm_icmp_lt (tgt := 43) S (by omega) (by omega) d_Mo_order_9 (by decide) (fun c1 => ?_) (fun c1 => ?_)
    · exact kk43 M P _ _ _ (hM0) (by rw [show (P + 1 - low).toNat = 0 by omega] at hq; simpa using hq) (lv_sub hl [0, 1, 2, 3, 4, 5] rfl) hm
    · refine lv_aload_n hx hb d_Mo_order_12 rfl (lv_at hl 1 rfl) ?_
      refine lv_iload_n hx hb d_Mo_order_13 rfl (lv_at hl 2 rfl) ?_
      refine lv_iload hx hb d_Mo_order_14 (lv_at hl 0 rfl) ?_
      refine mo_pi (n := 2) (As := [.int (iN (a)), .int (iN (P))]) (rest := []) S hK hZo hZ hA hm (fun μ sz hM => t_Mo_digitAt l D cs Z hZo ad μ V M sz a P na NA xa sa hM (by omega) (by rw [hM0]; exact hga) (by omega)) (gV k599 k601 ks31 k6 k602) (by decide) (by decide +kernel) rfl hl.1 rfl (Nat.le_of_ble_eq_true rfl) ⟨Nat.le_of_ble_eq_true rfl, Nat.le_of_ble_eq_true rfl⟩ d_Mo_order_16 (fun x3 q2 => ?_)
      refine lv_aload_n hx hb d_Mo_order_19 rfl (lv_at hl 1 rfl) ?_
      refine lv_iload_n hx hb d_Mo_order_20 rfl (lv_at hl 3 rfl) ?_
      refine lv_iload hx hb d_Mo_order_21 (lv_at hl 0 rfl) ?_
      refine mo_pi (n := 2) (As := [.int (iN (b)), .int (iN (P))]) (rest := [.int (iN (x3))]) S hK hZo hZ hA hm (fun μ sz hM => t_Mo_digitAt l D cs Z hZo ad μ V M sz b P nb NB xb sb hM (by omega) (by rw [hM0]; exact hgb) (by omega)) (gV k599 k601 ks31 k6 k602) (by decide) (by decide +kernel) rfl hl.1 rfl (Nat.le_of_ble_eq_true rfl) ⟨Nat.le_of_ble_eq_true rfl, Nat.le_of_ble_eq_true rfl⟩ d_Mo_order_23 (fun x5 q4 => ?_)
      obtain ⟨i, hi⟩ : ∃ i : Nat, P - low = i := ⟨(P - low).toNat, by omega⟩
      have hi2 : (P - low).toNat = i := by omega
      have hi3 : (P + 1 - low).toNat = i + 1 := by omega
      rw [dgt_sh hbd.2.2.1 (by omega), ← hVA, hi2] at q2
      rw [dgt_sh hbd.2.2.2.1 (by omega), ← hVB, hi2] at q4
      rw [hi3] at hq
      have hm1 := Nat.mod_lt (VA / 10 ^ i) (show 10 > 0 by decide)
      have hm2 := Nat.mod_lt (VB / 10 ^ i) (show 10 > 0 by decide)
      refine fm_isub S d_Mo_order_26 ?_
      refine fm_topi (fun x6 hx6 => ?_)
      refine lv_istore (lv' := [(6, .int (iN (x6))), (5, .int (iN (P))), (0, .ref (ad 0)), (1, .int (iN (a))), (2, .int (iN (b))), (3, .int (iN (low))), (4, .int (iN (high)))]) hx hb d_Mo_order_27 hl (by decide) rfl (fun ls hl => ?_)
      refine lv_iload hx hb d_Mo_order_29 (lv_at hl 0 rfl) ?_
      refine fm_if_eq (tgt := 37) S (by omega) d_Mo_order_31 (by decide) (fun c7 => ?_) (fun c7 => ?_)
      · refine lv_iinc (v := iN ((P + (-1)))) (lv' := [(5, .int (iN ((P + (-1))))), (6, .int (iN (x6))), (0, .ref (ad 0)), (1, .int (iN (a))), (2, .int (iN (b))), (3, .int (iN (low))), (4, .int (iN (high)))]) hx hb d_Mo_order_37 hl (k := 1) rfl (iN_add _ _) (by decide) rfl (fun ls hl => ?_)
        refine lv_goto (tgt := 6) hx hb d_Mo_order_40 (by decide) ?_
        exact ih M (P + -1) _ _ _ (by omega) (hM0) (by omega) (by rw [show (P + -1 + 1 - low).toNat = i by omega]; exact nat_same hq (by omega)) (lv_sub hl [0, 2, 3, 4, 5, 6] rfl) hm
      · exact kk34 M P x6 _ _ _ (hM0) (⟨by omega, by omega, fun h => nat_top hq (by omega), fun h => nat_top hq.symm (by omega), fun h => absurd h c7⟩) (lv_sub hl [0, 1, 2, 3, 4, 5, 6] rfl) hm

set_option maxHeartbeats 4000000 in
set_option maxRecDepth 100000 in
/-- order(a, b, low, high) -/
theorem t_Mo_order (l : Launch) (D : va_G) (cs : Nat → ClassId) (Z : (Nat → Prop) → State → Heap → Prop) (hZo : fm_Zok Z) (ad : Nat → Nat) (μ : fm_Mu) (V : Nat → Int) (M : Nat → Int → Int) (sz : Nat) (a : Int) (b : Int) (low : Int) (high : Int) (na : Nat) (NA : Nat) (nb : Nat) (NB : Nat) (xa : Int) (sa : Int) (xb : Int) (sb : Int) (VA : Nat) (VB : Nat) (hM : moS cs μ ad V M) (hab : 0 ≤ a ∧ a < 7 ∧ 0 ≤ b ∧ b < 7) (hga : Rg M a na NA xa sa) (hgb : Rg M b nb NB xb sb) (hbd : na ≤ 320 ∧ nb ≤ 320 ∧ low ≤ xa ∧ low ≤ xb ∧ -1000 ≤ low ∧ high ≤ 1000 ∧ xa ≤ 1000 ∧ xb ≤ 1000) (hlh : low ≤ high) (hVA : VA = NA * 10 ^ (xa - low).toNat) (hVB : VB = NB * 10 ^ (xb - low).toNat) (hlt : VA < 10 ^ (high - low).toNat ∧ VB < 10 ^ (high - low).toNat) : Met l y_Mo_order (Cond.code y_Mo_order c_Mo_order 7 (some .int) :: wA) ({ frames := 1, cells := 0, slots := 0, locals := 23 }) (fm_Pc D clsA (tysA cs) Z μ sz [.ref (ad 0), .int (iN (a)), .int (iN (b)), .int (iN (low)), .int (iN (high))]) (moQi D cs ad μ sz (fun z V' M' => V' = V ∧ M' = M ∧ ordOk VA VB z)) 0 0 (fm_A μ sz) := by
  refine mo_of hM (by decide +kernel) (Nat.le_of_ble_eq_true rfl) (fun p e s m below meth c S hr hlocks hsz hm hK hZ hA ls hl => ?_)
  subst hsz
  obtain ⟨hx, hb, hml, hown, hts⟩ := id S
  have hl : lv_has ls 7 [(0, .ref (ad 0)), (1, .int (iN (a))), (2, .int (iN (b))), (3, .int (iN (low))), (4, .int (iN (high)))] := hl
  refine lv_iload hx hb d_Mo_order_0 (lv_at hl 4 rfl) ?_
  refine fm_iconst S d_Mo_order_2 ?_
  refine fm_isub S d_Mo_order_3 ?_
  refine fm_topi (fun x1 hx1 => ?_)
  refine lv_istore (lv' := [(5, .int (iN (x1))), (0, .ref (ad 0)), (1, .int (iN (a))), (2, .int (iN (b))), (3, .int (iN (low))), (4, .int (iN (high)))]) hx hb d_Mo_order_4 hl (by decide) rfl (fun ls hl => ?_)
  refine L_order (Z := Z) S hK hZo hZ hA V M a b low high na NA nb NB xa sa xb sb hab hga hgb hbd VA VB hVA hVB (fun M1 P H locs ls hM1 hq hl hm => ?_) (fun M1 P z H locs ls hM1 hq hl hm => ?_) ((high - low).toNat + 2) M (x1) _ _ _ (by omega) rfl (by omega) (by rw [hx1, show (high - 1 + 1 - low).toNat = (high - low).toNat by omega, Nat.div_eq_of_lt hlt.1, Nat.div_eq_of_lt hlt.2]) (lv_sub hl [0, 1, 2, 3, 4, 5] rfl) hm
  · refine fm_iconst S d_Mo_order_43 ?_
    refine mo_iret S hr hlocks hK hm d_Mo_order_44 ?_
    exact ⟨rfl, hM1, ⟨by omega, by omega, fun h => by omega, fun h => by omega, fun _ => hq⟩⟩
  · refine lv_iload hx hb d_Mo_order_34 (lv_at hl 0 rfl) ?_
    refine mo_iret S hr hlocks hK hm d_Mo_order_36 ?_
    exact ⟨rfl, hM1, hq⟩
end
section
set_option maxHeartbeats 4000000 in
set_option maxRecDepth 100000 in
/-- L_add -/
theorem L_add {p : Program} {l : Launch} {e : Env} {s : State} {m : MethodId} {args : Array Value} {below : List Frame} {meth : Method} {c : Code} {Q : State → Prop} {D : va_G} {cs : Nat → ClassId} {Z : (Nat → Prop) → State → Heap → Prop} {ad : Nat → Nat} {μ0 : fm_Mu} {A : Nat → Prop}  (S : CallFix p m c c_Mo_add 10 s args wA "ArithmeticFormsModel") (hK : va_K D clsA (tysA cs) s) (hZo : fm_Zok Z) (hZ : Z A s s.heap) (hA : ∀ q, s.heap.size ≤ q → A q) (V : Nat → Int) (M0 : Nat → Int → Int) (low high sm big less : Int) (nB NB nL NL : Nat) (xB sB xL sL σ : Int) (hab : 0 ≤ big ∧ big < 2 ∧ 0 ≤ less ∧ less < 2) (hgB : Rg M0 big nB NB xB sB) (hgL : Rg M0 less nL NL xL sL) (hbd : nB ≤ 320 ∧ nL ≤ 320 ∧ low ≤ xB ∧ low ≤ xL ∧ -1000 ≤ low ∧ low ≤ high ∧ high ≤ 1000 ∧ xB ≤ 1000 ∧ xL ≤ 1000 ∧ high - low ≤ 320) (VB VL : Nat) (hVB : VB = NB * 10 ^ (xB - low).toNat) (hVL : VL = NL * 10 ^ (xL - low).toNat) (hsm : (sm = 1 ∧ σ = 1) ∨ (sm = 0 ∧ σ = -1)) (kk263 : ∀ (M : Nat → Int → Int) (P : Int) (cy : Int) (i : Nat) (H : Heap) (locs : List Loc) (ls : Array Slot), (P = high) → (P = low + i) → (AdI M0 M i cy σ VB VL) → lv_has ls 10 [(8, .int (iN (P))), (7, .int (iN (cy))), (0, .ref (ad 0)), (1, .int (iN (low))), (2, .int (iN (high))), (3, .int (iN (sm))), (5, .int (iN (big))), (6, .int (iN (less)))] → moW D A s.heap μ0 cs ad V M H locs → W p l e ({ frames := 2, cells := 0, slots := 0, locals := 49 }) s m args below meth c H locs 0 0 Q (F0 m 263 ls [])) : ∀ (fu : Nat) (M : Nat → Int → Int) (P : Int) (cy : Int) (i : Nat) (H : Heap) (locs : List Loc) (ls : Array Slot), high - P < (fu : Int) → (P = low + i ∧ P ≤ high) → (AdI M0 M i cy σ VB VL) → lv_has ls 10 [(8, .int (iN (P))), (7, .int (iN (cy))), (0, .ref (ad 0)), (1, .int (iN (low))), (2, .int (iN (high))), (3, .int (iN (sm))), (5, .int (iN (big))), (6, .int (iN (less)))] → moW D A s.heap μ0 cs ad V M H locs → W p l e ({ frames := 2, cells := 0, slots := 0, locals := 49 }) s m args below meth c H locs 0 0 Q (F0 m 168 ls []) := by
  obtain ⟨hx, hb, hml, hown, hts⟩ := id S
  intro fu
  induction fu with
  | zero =>
    intro M P cy i H locs ls hn hP hc hl hm
    exfalso; omega
  | succ fu ih =>
    intro M P cy i H locs ls hn hP hc hl hm
    refine lv_iload hx hb d_Mo_add_168 (lv_at hl 0 rfl) ?_
    refine lv_iload_n hx hb d_Mo_add_170 rfl (lv_at hl 4 rfl) ?_
    refine fm_icmp_ge (tgt := 263) S (by omega) (by omega) d_Mo_add_171 (by decide) (fun c1 => ?_) (fun c1 => ?_)
    · exact kk263 M P cy i _ _ _ (by omega) (by omega) (hc) (lv_sub hl [0, 1, 2, 3, 4, 5, 6, 7] rfl) hm
    · have hi2 : (P - low).toNat = i := by omega
      have hm1 := Nat.mod_lt (VB / 10 ^ i) (show 10 > 0 by decide)
      have hm2 := Nat.mod_lt (VL / 10 ^ i) (show 10 > 0 by decide)
      have hc4 := hc.2.2.2.1
      have hc5 := hc.2.2.2.2.1
      refine lv_aload_n hx hb d_Mo_add_174 rfl (lv_at hl 2 rfl) ?_
      refine lv_iload hx hb d_Mo_add_175 (lv_at hl 6 rfl) ?_
      refine lv_iload hx hb d_Mo_add_177 (lv_at hl 0 rfl) ?_
      refine mo_pi (n := 2) (As := [.int (iN (big)), .int (iN (P))]) (rest := []) S hK hZo hZ hA hm (fun μ sz hM => t_Mo_digitAt l D cs Z hZo ad μ V M sz big P nB NB xB sB hM (by omega) (hc.1.rg (by omega) (by omega) hgB) (by omega)) (gV k599 k601 ks31 k6 k602) (by decide) (by decide +kernel) rfl hl.1 rfl (Nat.le_of_ble_eq_true rfl) ⟨Nat.le_of_ble_eq_true rfl, Nat.le_of_ble_eq_true rfl⟩ d_Mo_add_179 (fun x3 q2 => ?_)
      rw [dgt_sh hbd.2.2.1 (by omega), ← hVB, hi2] at q2
      refine lv_iload_n hx hb d_Mo_add_182 rfl (lv_at hl 5 rfl) ?_
      refine fm_if_eq (tgt := 197) S (by omega) d_Mo_add_183 (by decide) (fun c4 => ?_) (fun c4 => ?_)
      · refine fm_iconst S d_Mo_add_197 ?_
        refine lv_aload_n hx hb d_Mo_add_198 rfl (lv_at hl 2 rfl) ?_
        refine lv_iload hx hb d_Mo_add_199 (lv_at hl 7 rfl) ?_
        refine lv_iload hx hb d_Mo_add_201 (lv_at hl 0 rfl) ?_
        refine mo_pi (n := 2) (As := [.int (iN (less)), .int (iN (P))]) (rest := [.int (iN (0)), .int (iN (x3))]) S hK hZo hZ hA hm (fun μ sz hM => t_Mo_digitAt l D cs Z hZo ad μ V M sz less P nL NL xL sL hM (by omega) (hc.1.rg (by omega) (by omega) hgL) (by omega)) (gV k599 k601 ks31 k6 k602) (by decide) (by decide +kernel) rfl hl.1 rfl (Nat.le_of_ble_eq_true rfl) ⟨Nat.le_of_ble_eq_true rfl, Nat.le_of_ble_eq_true rfl⟩ d_Mo_add_203 (fun x6 q5 => ?_)
        rw [dgt_sh hbd.2.2.2.1 (by omega), ← hVL, hi2] at q5
        refine fm_isub S d_Mo_add_206 ?_
        refine fm_iadd S d_Mo_add_207 ?_
        refine lv_iload hx hb d_Mo_add_208 (lv_at hl 1 rfl) ?_
        refine fm_iadd S d_Mo_add_210 ?_
        refine fm_topi (fun x7 hx7 => ?_)
        refine lv_istore (lv' := [(9, .int (iN (x7))), (8, .int (iN (P))), (7, .int (iN (cy))), (0, .ref (ad 0)), (1, .int (iN (low))), (2, .int (iN (high))), (3, .int (iN (sm))), (5, .int (iN (big))), (6, .int (iN (less)))]) hx hb d_Mo_add_211 hl (by decide) rfl (fun ls hl => ?_)
        have hd9 : x7 = ((VB / 10 ^ i % 10 : Nat) : Int) + σ * ((VL / 10 ^ i % 10 : Nat) : Int) + cy := by rcases hsm with ⟨h1, h2⟩ | ⟨h1, h2⟩ <;> rw [h2] <;> omega
        have hdb : -10 ≤ x7 ∧ x7 ≤ 19 := by omega
        refine mo_join (P := fun y => (x7 < 0 ∧ y = -1) ∨ (9 < x7 ∧ y = 1) ∨ (0 ≤ x7 ∧ x7 ≤ 9 ∧ y = 0)) (g := fun y => F0 m 234 ls ([.int (iN (y))])) (fun y hy => ?_) (fun key => ?_)
        · refine lv_istore (lv' := [(7, .int (iN (y))), (9, .int (iN (x7))), (8, .int (iN (P))), (0, .ref (ad 0)), (1, .int (iN (low))), (2, .int (iN (high))), (3, .int (iN (sm))), (5, .int (iN (big))), (6, .int (iN (less)))]) hx hb d_Mo_add_234 hl (by decide) rfl (fun ls hl => ?_)
          refine lv_aload_n hx hb d_Mo_add_236 rfl (lv_at hl 3 rfl) ?_
          refine mo_get 2 S hK hm (by decide) k468 rfl rfl d_Mo_add_237 ?_
          refine fm_sipush S d_Mo_add_240 (by decide) ?_
          refine lv_iload hx hb d_Mo_add_243 (lv_at hl 2 rfl) ?_
          refine fm_iadd S d_Mo_add_245 ?_
          refine lv_iload_n hx hb d_Mo_add_246 rfl (lv_at hl 4 rfl) ?_
          refine fm_isub S d_Mo_add_247 ?_
          refine lv_iload hx hb d_Mo_add_248 (lv_at hl 1 rfl) ?_
          refine fm_bipush S d_Mo_add_250 (by decide) ?_
          refine lv_iload hx hb d_Mo_add_252 (lv_at hl 0 rfl) ?_
          refine fm_imul S d_Mo_add_254 ?_
          refine fm_isub S d_Mo_add_255 ?_
          refine mo_iast 1 S hK hm (by decide) (by simp only [moLen]; omega) d_Mo_add_256 (fun M8 H locs eM8 hm => ?_)
          refine lv_iinc (v := iN ((P + 1))) (lv' := [(8, .int (iN ((P + 1)))), (7, .int (iN (y))), (9, .int (iN (x7))), (0, .ref (ad 0)), (1, .int (iN (low))), (2, .int (iN (high))), (3, .int (iN (sm))), (5, .int (iN (big))), (6, .int (iN (less)))]) hx hb d_Mo_add_257 hl (k := 2) rfl (iN_add _ _) (by decide) rfl (fun ls hl => ?_)
          refine lv_goto (tgt := 168) hx hb d_Mo_add_260 (by decide) ?_
          exact ih M8 (P + 1) y (i + 1) _ _ _ (by omega) (by omega) (hc.step (by omega) (by omega) hd9 (by omega) hy eM8) (lv_sub hl [0, 1, 3, 4, 5, 6, 7, 8] rfl) hm
        · refine lv_iload hx hb d_Mo_add_213 (lv_at hl 0 rfl) ?_
          refine fm_if_ge (tgt := 222) S (by omega) d_Mo_add_215 (by decide) (fun c9 => ?_) (fun c9 => ?_)
          · refine lv_iload hx hb d_Mo_add_222 (lv_at hl 0 rfl) ?_
            refine fm_bipush S d_Mo_add_224 (by decide) ?_
            refine fm_icmp_le (tgt := 233) S (by omega) (by omega) d_Mo_add_226 (by decide) (fun c10 => ?_) (fun c10 => ?_)
            · refine fm_iconst S d_Mo_add_233 ?_
              exact key _ (by omega)
            · refine fm_iconst S d_Mo_add_229 ?_
              refine lv_goto (tgt := 234) hx hb d_Mo_add_230 (by decide) ?_
              exact key _ (by omega)
          · refine fm_iconst S d_Mo_add_218 ?_
            refine lv_goto (tgt := 234) hx hb d_Mo_add_219 (by decide) ?_
            exact key _ (by omega)
      · refine lv_aload_n hx hb d_Mo_add_186 rfl (lv_at hl 2 rfl) ?_
        refine lv_iload hx hb d_Mo_add_187 (lv_at hl 7 rfl) ?_
        refine lv_iload hx hb d_Mo_add_189 (lv_at hl 0 rfl) ?_
        refine mo_pi (n := 2) (As := [.int (iN (less)), .int (iN (P))]) (rest := [.int (iN (x3))]) S hK hZo hZ hA hm (fun μ sz hM => t_Mo_digitAt l D cs Z hZo ad μ V M sz less P nL NL xL sL hM (by omega) (hc.1.rg (by omega) (by omega) hgL) (by omega)) (gV k599 k601 ks31 k6 k602) (by decide) (by decide +kernel) rfl hl.1 rfl (Nat.le_of_ble_eq_true rfl) ⟨Nat.le_of_ble_eq_true rfl, Nat.le_of_ble_eq_true rfl⟩ d_Mo_add_191 (fun x12 q11 => ?_)
        rw [dgt_sh hbd.2.2.2.1 (by omega), ← hVL, hi2] at q11
        refine lv_goto (tgt := 207) hx hb d_Mo_add_194 (by decide) ?_
        refine fm_iadd S d_Mo_add_207 ?_
        refine lv_iload hx hb d_Mo_add_208 (lv_at hl 1 rfl) ?_
        refine fm_iadd S d_Mo_add_210 ?_
        refine fm_topi (fun x13 hx13 => ?_)
        refine lv_istore (lv' := [(9, .int (iN (x13))), (8, .int (iN (P))), (7, .int (iN (cy))), (0, .ref (ad 0)), (1, .int (iN (low))), (2, .int (iN (high))), (3, .int (iN (sm))), (5, .int (iN (big))), (6, .int (iN (less)))]) hx hb d_Mo_add_211 hl (by decide) rfl (fun ls hl => ?_)
        have hd9 : x13 = ((VB / 10 ^ i % 10 : Nat) : Int) + σ * ((VL / 10 ^ i % 10 : Nat) : Int) + cy := by rcases hsm with ⟨h1, h2⟩ | ⟨h1, h2⟩ <;> rw [h2] <;> omega
        have hdb : -10 ≤ x13 ∧ x13 ≤ 19 := by omega
        refine mo_join (P := fun y => (x13 < 0 ∧ y = -1) ∨ (9 < x13 ∧ y = 1) ∨ (0 ≤ x13 ∧ x13 ≤ 9 ∧ y = 0)) (g := fun y => F0 m 234 ls ([.int (iN (y))])) (fun y hy => ?_) (fun key => ?_)
        · refine lv_istore (lv' := [(7, .int (iN (y))), (9, .int (iN (x13))), (8, .int (iN (P))), (0, .ref (ad 0)), (1, .int (iN (low))), (2, .int (iN (high))), (3, .int (iN (sm))), (5, .int (iN (big))), (6, .int (iN (less)))]) hx hb d_Mo_add_234 hl (by decide) rfl (fun ls hl => ?_)
          refine lv_aload_n hx hb d_Mo_add_236 rfl (lv_at hl 3 rfl) ?_
          refine mo_get 2 S hK hm (by decide) k468 rfl rfl d_Mo_add_237 ?_
          refine fm_sipush S d_Mo_add_240 (by decide) ?_
          refine lv_iload hx hb d_Mo_add_243 (lv_at hl 2 rfl) ?_
          refine fm_iadd S d_Mo_add_245 ?_
          refine lv_iload_n hx hb d_Mo_add_246 rfl (lv_at hl 4 rfl) ?_
          refine fm_isub S d_Mo_add_247 ?_
          refine lv_iload hx hb d_Mo_add_248 (lv_at hl 1 rfl) ?_
          refine fm_bipush S d_Mo_add_250 (by decide) ?_
          refine lv_iload hx hb d_Mo_add_252 (lv_at hl 0 rfl) ?_
          refine fm_imul S d_Mo_add_254 ?_
          refine fm_isub S d_Mo_add_255 ?_
          refine mo_iast 1 S hK hm (by decide) (by simp only [moLen]; omega) d_Mo_add_256 (fun M14 H locs eM14 hm => ?_)
          refine lv_iinc (v := iN ((P + 1))) (lv' := [(8, .int (iN ((P + 1)))), (7, .int (iN (y))), (9, .int (iN (x13))), (0, .ref (ad 0)), (1, .int (iN (low))), (2, .int (iN (high))), (3, .int (iN (sm))), (5, .int (iN (big))), (6, .int (iN (less)))]) hx hb d_Mo_add_257 hl (k := 2) rfl (iN_add _ _) (by decide) rfl (fun ls hl => ?_)
          refine lv_goto (tgt := 168) hx hb d_Mo_add_260 (by decide) ?_
          exact ih M14 (P + 1) y (i + 1) _ _ _ (by omega) (by omega) (hc.step (by omega) (by omega) hd9 (by omega) hy eM14) (lv_sub hl [0, 1, 3, 4, 5, 6, 7, 8] rfl) hm
        · refine lv_iload hx hb d_Mo_add_213 (lv_at hl 0 rfl) ?_
          refine fm_if_ge (tgt := 222) S (by omega) d_Mo_add_215 (by decide) (fun c15 => ?_) (fun c15 => ?_)
          · refine lv_iload hx hb d_Mo_add_222 (lv_at hl 0 rfl) ?_
            refine fm_bipush S d_Mo_add_224 (by decide) ?_
            refine fm_icmp_le (tgt := 233) S (by omega) (by omega) d_Mo_add_226 (by decide) (fun c16 => ?_) (fun c16 => ?_)
            · refine fm_iconst S d_Mo_add_233 ?_
              exact key _ (by omega)
            · refine fm_iconst S d_Mo_add_229 ?_
              refine lv_goto (tgt := 234) hx hb d_Mo_add_230 (by decide) ?_
              exact key _ (by omega)
          · refine fm_iconst S d_Mo_add_218 ?_
            refine lv_goto (tgt := 234) hx hb d_Mo_add_219 (by decide) ?_
            exact key _ (by omega)

set_option maxHeartbeats 4000000 in
set_option maxRecDepth 100000 in
/-- add() -/
theorem t_Mo_add (l : Launch) (D : va_G) (cs : Nat → ClassId) (Z : (Nat → Prop) → State → Heap → Prop) (hZo : fm_Zok Z) (ad : Nat → Nat) (μ : fm_Mu) (V : Nat → Int) (M : Nat → Int → Int) (sz : Nat) (most : Nat) (na : Nat) (NA : Nat) (nb : Nat) (NB : Nat) (xa : Int) (sa : Int) (xb : Int) (sb : Int) (hM : moS cs μ ad V M) (hga : Rg M 0 na NA xa sa) (hgb : Rg M 1 nb NB xb sb) (hbd : na ≤ 100 ∧ nb ≤ 100 ∧ -150 ≤ xa ∧ -150 ≤ xb ∧ xa + na ≤ 120 ∧ xb + nb ≤ 120) (hsa : na ≠ 0 → sa = 1 ∨ sa = -1) (hsb : nb ≠ 0 → sb = 1 ∨ sb = -1) (hsz : -1 ≤ sa ∧ sa ≤ 1 ∧ -1 ≤ sb ∧ sb ≤ 1) (hpr : V 1 = (most : Int) ∧ 1 ≤ most ∧ most ≤ 31) : Met l y_Mo_add (Cond.code y_Mo_add c_Mo_add 10 (some .int) :: wA) ({ frames := 2, cells := 0, slots := 0, locals := 49 }) (fm_Pc D clsA (tysA cs) Z μ sz [.ref (ad 0)]) (moQi D cs ad μ sz (fun z V' M' => V' = V ∧ Fr M M' 2 ∧ ∃ (N : Nat) (x sg : Int), (N ≠ 0 → sg = 1 ∨ sg = -1) ∧ vI sg N x = vI sa NA xa + vI sb NB xb ∧ -150 ≤ x ∧ cutOk M' 2 most N x sg z)) 0 0 (fm_A μ sz) := by
  refine mo_of hM (by decide +kernel) (Nat.le_of_ble_eq_true rfl) (fun p e s m below meth c S hr hlocks hsz hm hK hZ hA ls hl => ?_)
  subst hsz
  obtain ⟨hx, hb, hml, hown, hts⟩ := id S
  have hl : lv_has ls 10 [(0, .ref (ad 0))] := hl
  have e20 := hga.1
  have e21 := hgb.1
  have e30 := hga.2.1
  have e31 := hgb.2.1
  have e40 := hga.2.2.1
  have e41 := hgb.2.2.1
  refine lv_aload_n hx hb d_Mo_add_0 rfl (lv_at hl 0 rfl) ?_
  refine mo_get 3 S hK hm (by decide) k469 rfl rfl d_Mo_add_1 ?_
  refine fm_iconst S d_Mo_add_4 ?_
  refine mo_iald 2 S hK hm (by decide) (by simp only [moLen]; omega) d_Mo_add_5 ?_
  refine fm_if_eq (tgt := 18) S (by omega) d_Mo_add_6 (by decide) (fun c1 => ?_) (fun c1 => ?_)
  · refine lv_aload_n hx hb d_Mo_add_18 rfl (lv_at hl 0 rfl) ?_
    refine mo_join (P := fun y => (y = 1 ∧ M 2 0 = 0) ∨ (y = 0 ∧ M 2 0 ≠ 0)) (g := fun y => F0 m 33 ls ([.int (iN (y)), .ref (ad 0)])) (fun y hy => ?_) (fun key => ?_)
    · have hz0 : (y = 1 ∧ na = 0) ∨ (y = 0 ∧ nb = 0) := by omega
      rcases hz0 with ⟨hy1, hz1⟩ | ⟨hy1, hz1⟩
      · subst hy1
        have hN0 : NA = 0 := by have h := hga.lt; rw [hz1] at h; simp at h; exact h
        refine fm_iconst S d_Mo_add_33 ?_
        refine mo_cvS (n := 2) (As := [.int (iN (1)), .int (iN (2))]) (rest := []) S hK hZo hZ hA hm (fun μ sz hM => t_Mo_copy l D cs Z hZo ad μ V M sz 1 2 nb NB xb sb hM hgb (by omega)) (gV k587 k589 ks28 k6 k590) (by decide) (by decide +kernel) rfl hl.1 rfl (Nat.le_of_ble_eq_true rfl) ⟨Nat.le_of_ble_eq_true rfl, Nat.le_of_ble_eq_true rfl⟩ d_Mo_add_34 (fun M3 H locs q2 hm => ?_)
        obtain ⟨frM3, rgM3⟩ := q2
        refine lv_aload_n hx hb d_Mo_add_37 rfl (lv_at hl 0 rfl) ?_
        refine fm_iconst S d_Mo_add_38 ?_
        refine lv_aload_n hx hb d_Mo_add_39 rfl (lv_at hl 0 rfl) ?_
        refine mo_get 1 S hK hm (by decide) k467 rfl rfl d_Mo_add_40 ?_
        refine mo_ciS (n := 2) (As := [.int (iN (2)), .int (iN ((V 1)))]) (rest := []) S hK hZo hZ hA hm (fun μ sz hM => t_Mo_cut l D cs Z hZo ad μ V M3 sz 2 (V 1) most nb NB xb sb hM (by omega) (by omega) (by omega) (by omega) rgM3) (gV k555 k557 ks21 k6 k558) (by decide) (by decide +kernel) rfl hl.1 rfl (Nat.le_of_ble_eq_true rfl) ⟨Nat.le_of_ble_eq_true rfl, Nat.le_of_ble_eq_true rfl⟩ d_Mo_add_43 (fun x6 M5 H locs q4 hm => ?_)
        obtain ⟨frM5, cuM5⟩ := q4
        refine mo_iret S hr hlocks hK hm d_Mo_add_46 ?_
        refine ⟨rfl, frM3.tr frM5, NB, xb, sb, fun h => ?_, ?_, by omega, cuM5⟩
        · exact hsb (fun h2 => h (by have h3 := hgb.lt; rw [h2] at h3; simp at h3; exact h3))
        · rw [hN0]; unfold vI; simp
      · subst hy1
        have hN0 : NB = 0 := by have h := hgb.lt; rw [hz1] at h; simp at h; exact h
        refine fm_iconst S d_Mo_add_33 ?_
        refine mo_cvS (n := 2) (As := [.int (iN (0)), .int (iN (2))]) (rest := []) S hK hZo hZ hA hm (fun μ sz hM => t_Mo_copy l D cs Z hZo ad μ V M sz 0 2 na NA xa sa hM hga (by omega)) (gV k587 k589 ks28 k6 k590) (by decide) (by decide +kernel) rfl hl.1 rfl (Nat.le_of_ble_eq_true rfl) ⟨Nat.le_of_ble_eq_true rfl, Nat.le_of_ble_eq_true rfl⟩ d_Mo_add_34 (fun M8 H locs q7 hm => ?_)
        obtain ⟨frM8, rgM8⟩ := q7
        refine lv_aload_n hx hb d_Mo_add_37 rfl (lv_at hl 0 rfl) ?_
        refine fm_iconst S d_Mo_add_38 ?_
        refine lv_aload_n hx hb d_Mo_add_39 rfl (lv_at hl 0 rfl) ?_
        refine mo_get 1 S hK hm (by decide) k467 rfl rfl d_Mo_add_40 ?_
        refine mo_ciS (n := 2) (As := [.int (iN (2)), .int (iN ((V 1)))]) (rest := []) S hK hZo hZ hA hm (fun μ sz hM => t_Mo_cut l D cs Z hZo ad μ V M8 sz 2 (V 1) most na NA xa sa hM (by omega) (by omega) (by omega) (by omega) rgM8) (gV k555 k557 ks21 k6 k558) (by decide) (by decide +kernel) rfl hl.1 rfl (Nat.le_of_ble_eq_true rfl) ⟨Nat.le_of_ble_eq_true rfl, Nat.le_of_ble_eq_true rfl⟩ d_Mo_add_43 (fun x11 M10 H locs q9 hm => ?_)
        obtain ⟨frM10, cuM10⟩ := q9
        refine mo_iret S hr hlocks hK hm d_Mo_add_46 ?_
        refine ⟨rfl, frM8.tr frM10, NA, xa, sa, fun h => ?_, ?_, by omega, cuM10⟩
        · exact hsa (fun h2 => h (by have h3 := hga.lt; rw [h2] at h3; simp at h3; exact h3))
        · rw [hN0]; unfold vI; simp
    · refine lv_aload_n hx hb d_Mo_add_19 rfl (lv_at hl 0 rfl) ?_
      refine mo_get 3 S hK hm (by decide) k469 rfl rfl d_Mo_add_20 ?_
      refine fm_iconst S d_Mo_add_23 ?_
      refine mo_iald 2 S hK hm (by decide) (by simp only [moLen]; omega) d_Mo_add_24 ?_
      refine fm_if_ne (tgt := 32) S (by omega) d_Mo_add_25 (by decide) (fun c12 => ?_) (fun c12 => ?_)
      · refine fm_iconst S d_Mo_add_32 ?_
        exact key _ (by omega)
      · refine fm_iconst S d_Mo_add_28 ?_
        refine lv_goto (tgt := 33) hx hb d_Mo_add_29 (by decide) ?_
        exact key _ (by omega)
  · refine lv_aload_n hx hb d_Mo_add_9 rfl (lv_at hl 0 rfl) ?_
    refine mo_get 3 S hK hm (by decide) k469 rfl rfl d_Mo_add_10 ?_
    refine fm_iconst S d_Mo_add_13 ?_
    refine mo_iald 2 S hK hm (by decide) (by simp only [moLen]; omega) d_Mo_add_14 ?_
    refine fm_if_ne (tgt := 47) S (by omega) d_Mo_add_15 (by decide) (fun c13 => ?_) (fun c13 => ?_)
    · have hna : na ≠ 0 := by omega
      have hnb : nb ≠ 0 := by omega
      refine mo_join (P := fun y => (xa ≤ xb ∧ y = xa) ∨ (xb ≤ xa ∧ y = xb)) (g := fun y => F0 m 77 ls ([.int (iN (y))])) (fun y hy => ?_) (fun key => ?_)
      · obtain ⟨low, hlow⟩ : ∃ z, z = y := ⟨_, rfl⟩
        rw [← hlow]
        rw [← hlow] at hy
        refine lv_istore_n (lv' := [(1, .int (iN (low))), (0, .ref (ad 0))]) hx hb d_Mo_add_77 rfl hl (by decide) rfl (fun ls hl => ?_)
        refine mo_join (P := fun y => (xb + nb ≤ xa + na ∧ y = xa + na) ∨ (xa + na ≤ xb + nb ∧ y = xb + nb)) (g := fun y => F0 m 104 ls ([.int (iN (y))])) (fun y hy2 => ?_) (fun key => ?_)
        · refine fm_iconst S d_Mo_add_104 ?_
          refine fm_iadd S d_Mo_add_105 ?_
          refine fm_topi (fun high hhigh => ?_)
          refine lv_istore_n (lv' := [(2, .int (iN (high))), (1, .int (iN (low))), (0, .ref (ad 0))]) hx hb d_Mo_add_106 rfl hl (by decide) rfl (fun ls hl => ?_)
          obtain ⟨h, hh⟩ : ∃ h : Nat, high - low = h := ⟨(high - low).toNat, by omega⟩
          obtain ⟨VA, hVA⟩ : ∃ z : Nat, z = NA * 10 ^ (xa - low).toNat := ⟨_, rfl⟩
          obtain ⟨VB, hVB⟩ : ∃ z : Nat, z = NB * 10 ^ (xb - low).toNat := ⟨_, rfl⟩
          have hA1 : VA < 10 ^ (h - 1) := by rw [hVA]; exact sc_lt hga.lt (by omega) (by omega)
          have hB1 : VB < 10 ^ (h - 1) := by rw [hVB]; exact sc_lt hgb.lt (by omega) (by omega)
          have hpw : 10 ^ h = 10 ^ (h - 1) * 10 := by rw [← Nat.pow_succ]; congr 1; omega
          have hlt : VA < 10 ^ (high - low).toNat ∧ VB < 10 ^ (high - low).toNat := by rw [show (high - low).toNat = h by omega]; omega
          refine mo_join (P := fun sm => (sm = 1 ∧ sa = sb) ∨ (sm = 0 ∧ sa ≠ sb)) (g := fun sm => F0 m 127 ls ([.int (iN (sm))])) (fun sm hsm => ?_) (fun key => ?_)
          · refine lv_istore_n (lv' := [(3, .int (iN (sm))), (2, .int (iN (high))), (1, .int (iN (low))), (0, .ref (ad 0))]) hx hb d_Mo_add_127 rfl hl (by decide) rfl (fun ls hl => ?_)
            refine lv_aload_n hx hb d_Mo_add_128 rfl (lv_at hl 3 rfl) ?_
            refine fm_iconst S d_Mo_add_129 ?_
            refine fm_iconst S d_Mo_add_130 ?_
            refine lv_iload_n hx hb d_Mo_add_131 rfl (lv_at hl 2 rfl) ?_
            refine lv_iload_n hx hb d_Mo_add_132 rfl (lv_at hl 1 rfl) ?_
            refine mo_ciS (n := 4) (As := [.int (iN (0)), .int (iN (1)), .int (iN (low)), .int (iN (high))]) (rest := []) S hK hZo hZ hA hm (fun μ sz hM => t_Mo_order l D cs Z hZo ad μ V M sz 0 1 low high na NA nb NB xa sa xb sb VA VB hM (by omega) hga hgb (by omega) (by omega) hVA hVB hlt) (gV k595 k597 ks30 k6 k598) (by decide) (by decide +kernel) rfl hl.1 rfl (Nat.le_of_ble_eq_true rfl) ⟨Nat.le_of_ble_eq_true rfl, Nat.le_of_ble_eq_true rfl⟩ d_Mo_add_133 (fun x16 M15 H locs q14 hm => ?_)
            rw [q14.1] at hm
            obtain ⟨ho1, ho2, ho3, ho4, ho5⟩ := q14.2
            refine lv_istore (lv' := [(4, .int (iN (x16))), (3, .int (iN (sm))), (2, .int (iN (high))), (1, .int (iN (low))), (0, .ref (ad 0))]) hx hb d_Mo_add_136 hl (by decide) rfl (fun ls hl => ?_)
            rcases (show x16 < 0 ∨ 0 ≤ x16 by omega) with hc | hc
            · refine lv_iload hx hb d_Mo_add_138 (lv_at hl 0 rfl) ?_
              refine fm_if_ge (tgt := 147) S (by omega) d_Mo_add_140 (by decide) (fun c17 => ?_) (fun c17 => ?_)
              · exfalso; omega
              · refine fm_iconst S d_Mo_add_143 ?_
                refine lv_goto (tgt := 148) hx hb d_Mo_add_144 (by decide) ?_
                refine lv_istore (lv' := [(5, .int (iN (1))), (4, .int (iN (x16))), (3, .int (iN (sm))), (2, .int (iN (high))), (1, .int (iN (low))), (0, .ref (ad 0))]) hx hb d_Mo_add_148 hl (by decide) rfl (fun ls hl => ?_)
                refine lv_iload hx hb d_Mo_add_150 (lv_at hl 1 rfl) ?_
                refine fm_if_ge (tgt := 159) S (by omega) d_Mo_add_152 (by decide) (fun c18 => ?_) (fun c18 => ?_)
                · exfalso; omega
                · refine fm_iconst S d_Mo_add_155 ?_
                  refine lv_goto (tgt := 160) hx hb d_Mo_add_156 (by decide) ?_
                  refine lv_istore (lv' := [(6, .int (iN (0))), (5, .int (iN (1))), (4, .int (iN (x16))), (3, .int (iN (sm))), (2, .int (iN (high))), (1, .int (iN (low))), (0, .ref (ad 0))]) hx hb d_Mo_add_160 hl (by decide) rfl (fun ls hl => ?_)
                  refine fm_iconst S d_Mo_add_162 ?_
                  refine lv_istore (lv' := [(7, .int (iN (0))), (6, .int (iN (0))), (5, .int (iN (1))), (4, .int (iN (x16))), (3, .int (iN (sm))), (2, .int (iN (high))), (1, .int (iN (low))), (0, .ref (ad 0))]) hx hb d_Mo_add_163 hl (by decide) rfl (fun ls hl => ?_)
                  refine lv_iload_n hx hb d_Mo_add_165 rfl (lv_at hl 6 rfl) ?_
                  refine lv_istore (lv' := [(8, .int (iN (low))), (7, .int (iN (0))), (6, .int (iN (0))), (5, .int (iN (1))), (4, .int (iN (x16))), (3, .int (iN (sm))), (2, .int (iN (high))), (1, .int (iN (low))), (0, .ref (ad 0))]) hx hb d_Mo_add_166 hl (by decide) rfl (fun ls hl => ?_)
                  obtain ⟨σ, hσ⟩ : ∃ σ : Int, (sm = 1 ∧ σ = 1) ∨ (sm = 0 ∧ σ = -1) := (by rcases hsm with h1 | h1; exact ⟨1, Or.inl ⟨h1.1, rfl⟩⟩; exact ⟨-1, Or.inr ⟨h1.1, rfl⟩⟩)
                  refine L_add (Z := Z) S hK hZo hZ hA V M low high sm 1 0 nb NB na NA xb sb xa sa σ (by omega) hgb hga (by omega) VB VA hVB hVA hσ (fun M19 P cy i H locs ls hP hPi hA9 hl hm => ?_) (h + 1) M low 0 0 _ _ _ (by omega) (by omega) (AdI.start M σ VB VA) (lv_sub hl [0, 1, 8, 7, 6, 5, 3, 2] rfl) hm
                  have hih : i = h := by omega
                  subst hih
                  obtain ⟨T, hT⟩ : ∃ T : Nat, (T : Int) = VB + σ * VA := by
                    rcases hσ with h1 | h1
                    · exact ⟨VB + VA, by rw [h1.2]; omega⟩
                    · exact ⟨VB - VA, by rw [h1.2]; omega⟩
                  have hTl : T < 10 ^ i := by rcases hσ with h1 | h1 <;> rw [h1.2] at hT <;> omega
                  refine lv_aload_n hx hb d_Mo_add_263 rfl (lv_at hl 2 rfl) ?_
                  refine mo_get 3 S hK hm (by decide) k469 rfl rfl d_Mo_add_264 ?_
                  refine fm_iconst S d_Mo_add_267 ?_
                  refine lv_iload_n hx hb d_Mo_add_268 rfl (lv_at hl 4 rfl) ?_
                  refine lv_iload_n hx hb d_Mo_add_269 rfl (lv_at hl 3 rfl) ?_
                  refine fm_isub S d_Mo_add_270 ?_
                  refine mo_iast 2 S hK hm (by decide) (by simp only [moLen]; omega) d_Mo_add_271 (fun M20 H locs eM20 hm => ?_)
                  refine lv_aload_n hx hb d_Mo_add_272 rfl (lv_at hl 2 rfl) ?_
                  refine mo_get 4 S hK hm (by decide) k470 rfl rfl d_Mo_add_273 ?_
                  refine fm_iconst S d_Mo_add_276 ?_
                  refine lv_iload_n hx hb d_Mo_add_277 rfl (lv_at hl 3 rfl) ?_
                  refine mo_iast 3 S hK hm (by decide) (by simp only [moLen]; omega) d_Mo_add_278 (fun M21 H locs eM21 hm => ?_)
                  refine lv_aload_n hx hb d_Mo_add_279 rfl (lv_at hl 2 rfl) ?_
                  refine mo_get 5 S hK hm (by decide) k471 rfl rfl d_Mo_add_280 ?_
                  refine fm_iconst S d_Mo_add_283 ?_
                  refine lv_aload_n hx hb d_Mo_add_284 rfl (lv_at hl 2 rfl) ?_
                  refine mo_get 5 S hK hm (by decide) k471 rfl rfl d_Mo_add_285 ?_
                  refine lv_iload hx hb d_Mo_add_288 (lv_at hl 6 rfl) ?_
                  refine mo_iald 4 S hK hm (by decide) (by simp only [moLen]; omega) d_Mo_add_290 ?_
                  refine mo_iast 4 S hK hm (by decide) (by simp only [moLen]; omega) d_Mo_add_291 (fun M22 H locs eM22 hm => ?_)
                  obtain ⟨frS, rgS⟩ := AdI.fin (M3 := M22) (low := low) (sg := sb) hA9 (by omega) (by omega) hT hTl (by rw [eM20, hh]) eM21 (by rw [eM22]; congr 1; rw [eM21, setA_n (by decide), eM20, setA_n (by decide), hA9.2.1.2.2]; exact hgb.2.2.1)
                  refine lv_aload_n hx hb d_Mo_add_292 rfl (lv_at hl 2 rfl) ?_
                  refine fm_iconst S d_Mo_add_293 ?_
                  refine lv_aload_n hx hb d_Mo_add_294 rfl (lv_at hl 2 rfl) ?_
                  refine mo_get 1 S hK hm (by decide) k467 rfl rfl d_Mo_add_295 ?_
                  refine mo_ciS (n := 2) (As := [.int (iN (2)), .int (iN ((V 1)))]) (rest := []) S hK hZo hZ hA hm (fun μ sz hM => t_Mo_cut l D cs Z hZo ad μ V M22 sz 2 (V 1) most i T low sb hM (by omega) (by omega) (by omega) (by omega) rgS) (gV k555 k557 ks21 k6 k558) (by decide) (by decide +kernel) rfl hl.1 rfl (Nat.le_of_ble_eq_true rfl) ⟨Nat.le_of_ble_eq_true rfl, Nat.le_of_ble_eq_true rfl⟩ d_Mo_add_298 (fun x25 M24 H locs q23 hm => ?_)
                  obtain ⟨frM24, cuM24⟩ := q23
                  refine mo_iret S hr hlocks hK hm d_Mo_add_301 ?_
                  refine ⟨rfl, frS.tr frM24, T, low, sb, fun _ => hsb hnb, ?_, by omega, cuM24⟩
                  rw [vI_sc (N := NA) (x := xa) (low := low) (by omega) (by omega), vI_sc (N := NB) (x := xb) (low := low) (by omega) (by omega), ← hVA, ← hVB, ← Int.add_mul]
                  unfold vI
                  congr 1
                  rw [hT]
                  have h7 := hsa hna
                  have h8 := hsb hnb
                  rcases hσ with ⟨h1, h2⟩ | ⟨h1, h2⟩
                  · rw [h2, show sb = sa by omega, Int.one_mul, Int.mul_add]
                    omega
                  · rw [h2, show sa = -sb by omega, Int.neg_mul, Int.one_mul, ← Int.sub_eq_add_neg, Int.mul_sub, Int.neg_mul]
                    omega
            · refine lv_iload hx hb d_Mo_add_138 (lv_at hl 0 rfl) ?_
              refine fm_if_ge (tgt := 147) S (by omega) d_Mo_add_140 (by decide) (fun c26 => ?_) (fun c26 => ?_)
              · refine fm_iconst S d_Mo_add_147 ?_
                refine lv_istore (lv' := [(5, .int (iN (0))), (4, .int (iN (x16))), (3, .int (iN (sm))), (2, .int (iN (high))), (1, .int (iN (low))), (0, .ref (ad 0))]) hx hb d_Mo_add_148 hl (by decide) rfl (fun ls hl => ?_)
                refine lv_iload hx hb d_Mo_add_150 (lv_at hl 1 rfl) ?_
                refine fm_if_ge (tgt := 159) S (by omega) d_Mo_add_152 (by decide) (fun c27 => ?_) (fun c27 => ?_)
                · refine fm_iconst S d_Mo_add_159 ?_
                  refine lv_istore (lv' := [(6, .int (iN (1))), (5, .int (iN (0))), (4, .int (iN (x16))), (3, .int (iN (sm))), (2, .int (iN (high))), (1, .int (iN (low))), (0, .ref (ad 0))]) hx hb d_Mo_add_160 hl (by decide) rfl (fun ls hl => ?_)
                  refine fm_iconst S d_Mo_add_162 ?_
                  refine lv_istore (lv' := [(7, .int (iN (0))), (6, .int (iN (1))), (5, .int (iN (0))), (4, .int (iN (x16))), (3, .int (iN (sm))), (2, .int (iN (high))), (1, .int (iN (low))), (0, .ref (ad 0))]) hx hb d_Mo_add_163 hl (by decide) rfl (fun ls hl => ?_)
                  refine lv_iload_n hx hb d_Mo_add_165 rfl (lv_at hl 6 rfl) ?_
                  refine lv_istore (lv' := [(8, .int (iN (low))), (7, .int (iN (0))), (6, .int (iN (1))), (5, .int (iN (0))), (4, .int (iN (x16))), (3, .int (iN (sm))), (2, .int (iN (high))), (1, .int (iN (low))), (0, .ref (ad 0))]) hx hb d_Mo_add_166 hl (by decide) rfl (fun ls hl => ?_)
                  obtain ⟨σ, hσ⟩ : ∃ σ : Int, (sm = 1 ∧ σ = 1) ∨ (sm = 0 ∧ σ = -1) := (by rcases hsm with h1 | h1; exact ⟨1, Or.inl ⟨h1.1, rfl⟩⟩; exact ⟨-1, Or.inr ⟨h1.1, rfl⟩⟩)
                  refine L_add (Z := Z) S hK hZo hZ hA V M low high sm 0 1 na NA nb NB xa sa xb sb σ (by omega) hga hgb (by omega) VA VB hVA hVB hσ (fun M28 P cy i H locs ls hP hPi hA9 hl hm => ?_) (h + 1) M low 0 0 _ _ _ (by omega) (by omega) (AdI.start M σ VA VB) (lv_sub hl [0, 1, 8, 7, 6, 5, 3, 2] rfl) hm
                  have hih : i = h := by omega
                  subst hih
                  obtain ⟨T, hT⟩ : ∃ T : Nat, (T : Int) = VA + σ * VB := by
                    rcases hσ with h1 | h1
                    · exact ⟨VA + VB, by rw [h1.2]; omega⟩
                    · exact ⟨VA - VB, by rw [h1.2]; omega⟩
                  have hTl : T < 10 ^ i := by rcases hσ with h1 | h1 <;> rw [h1.2] at hT <;> omega
                  refine lv_aload_n hx hb d_Mo_add_263 rfl (lv_at hl 2 rfl) ?_
                  refine mo_get 3 S hK hm (by decide) k469 rfl rfl d_Mo_add_264 ?_
                  refine fm_iconst S d_Mo_add_267 ?_
                  refine lv_iload_n hx hb d_Mo_add_268 rfl (lv_at hl 4 rfl) ?_
                  refine lv_iload_n hx hb d_Mo_add_269 rfl (lv_at hl 3 rfl) ?_
                  refine fm_isub S d_Mo_add_270 ?_
                  refine mo_iast 2 S hK hm (by decide) (by simp only [moLen]; omega) d_Mo_add_271 (fun M29 H locs eM29 hm => ?_)
                  refine lv_aload_n hx hb d_Mo_add_272 rfl (lv_at hl 2 rfl) ?_
                  refine mo_get 4 S hK hm (by decide) k470 rfl rfl d_Mo_add_273 ?_
                  refine fm_iconst S d_Mo_add_276 ?_
                  refine lv_iload_n hx hb d_Mo_add_277 rfl (lv_at hl 3 rfl) ?_
                  refine mo_iast 3 S hK hm (by decide) (by simp only [moLen]; omega) d_Mo_add_278 (fun M30 H locs eM30 hm => ?_)
                  refine lv_aload_n hx hb d_Mo_add_279 rfl (lv_at hl 2 rfl) ?_
                  refine mo_get 5 S hK hm (by decide) k471 rfl rfl d_Mo_add_280 ?_
                  refine fm_iconst S d_Mo_add_283 ?_
                  refine lv_aload_n hx hb d_Mo_add_284 rfl (lv_at hl 2 rfl) ?_
                  refine mo_get 5 S hK hm (by decide) k471 rfl rfl d_Mo_add_285 ?_
                  refine lv_iload hx hb d_Mo_add_288 (lv_at hl 6 rfl) ?_
                  refine mo_iald 4 S hK hm (by decide) (by simp only [moLen]; omega) d_Mo_add_290 ?_
                  refine mo_iast 4 S hK hm (by decide) (by simp only [moLen]; omega) d_Mo_add_291 (fun M31 H locs eM31 hm => ?_)
                  obtain ⟨frS, rgS⟩ := AdI.fin (M3 := M31) (low := low) (sg := sa) hA9 (by omega) (by omega) hT hTl (by rw [eM29, hh]) eM30 (by rw [eM31]; congr 1; rw [eM30, setA_n (by decide), eM29, setA_n (by decide), hA9.2.1.2.2]; exact hga.2.2.1)
                  refine lv_aload_n hx hb d_Mo_add_292 rfl (lv_at hl 2 rfl) ?_
                  refine fm_iconst S d_Mo_add_293 ?_
                  refine lv_aload_n hx hb d_Mo_add_294 rfl (lv_at hl 2 rfl) ?_
                  refine mo_get 1 S hK hm (by decide) k467 rfl rfl d_Mo_add_295 ?_
                  refine mo_ciS (n := 2) (As := [.int (iN (2)), .int (iN ((V 1)))]) (rest := []) S hK hZo hZ hA hm (fun μ sz hM => t_Mo_cut l D cs Z hZo ad μ V M31 sz 2 (V 1) most i T low sa hM (by omega) (by omega) (by omega) (by omega) rgS) (gV k555 k557 ks21 k6 k558) (by decide) (by decide +kernel) rfl hl.1 rfl (Nat.le_of_ble_eq_true rfl) ⟨Nat.le_of_ble_eq_true rfl, Nat.le_of_ble_eq_true rfl⟩ d_Mo_add_298 (fun x34 M33 H locs q32 hm => ?_)
                  obtain ⟨frM33, cuM33⟩ := q32
                  refine mo_iret S hr hlocks hK hm d_Mo_add_301 ?_
                  refine ⟨rfl, frS.tr frM33, T, low, sa, fun _ => hsa hna, ?_, by omega, cuM33⟩
                  rw [vI_sc (N := NA) (x := xa) (low := low) (by omega) (by omega), vI_sc (N := NB) (x := xb) (low := low) (by omega) (by omega), ← hVA, ← hVB, ← Int.add_mul]
                  unfold vI
                  congr 1
                  rw [hT]
                  have h7 := hsa hna
                  have h8 := hsb hnb
                  rcases hσ with ⟨h1, h2⟩ | ⟨h1, h2⟩
                  · rw [h2, show sb = sa by omega, Int.one_mul, Int.mul_add]
                  · rw [h2, show sb = -sa by omega, Int.neg_mul, Int.one_mul, ← Int.sub_eq_add_neg, Int.mul_sub, Int.neg_mul]
                    omega
                · exfalso; omega
              · exfalso; omega
          · refine lv_aload_n hx hb d_Mo_add_107 rfl (lv_at hl 2 rfl) ?_
            refine mo_get 5 S hK hm (by decide) k471 rfl rfl d_Mo_add_108 ?_
            refine fm_iconst S d_Mo_add_111 ?_
            refine mo_iald 4 S hK hm (by decide) (by simp only [moLen]; omega) d_Mo_add_112 ?_
            refine lv_aload_n hx hb d_Mo_add_113 rfl (lv_at hl 2 rfl) ?_
            refine mo_get 5 S hK hm (by decide) k471 rfl rfl d_Mo_add_114 ?_
            refine fm_iconst S d_Mo_add_117 ?_
            refine mo_iald 4 S hK hm (by decide) (by simp only [moLen]; omega) d_Mo_add_118 ?_
            refine fm_icmp_ne (tgt := 126) S (by omega) (by omega) d_Mo_add_119 (by decide) (fun c35 => ?_) (fun c35 => ?_)
            · refine fm_iconst S d_Mo_add_126 ?_
              exact key _ (by omega)
            · refine fm_iconst S d_Mo_add_122 ?_
              refine lv_goto (tgt := 127) hx hb d_Mo_add_123 (by decide) ?_
              exact key _ (by omega)
        · refine lv_aload_n hx hb d_Mo_add_78 rfl (lv_at hl 1 rfl) ?_
          refine fm_iconst S d_Mo_add_79 ?_
          refine mo_pi (n := 1) (As := [.int (iN (0))]) (rest := []) S hK hZo hZ hA hm (fun μ sz hM => t_Mo_topOf l D cs Z hZo ad μ V M sz 0 hM (by omega)) (gV k591 k593 ks29 k6 k594) (by decide) (by decide +kernel) rfl hl.1 rfl (Nat.le_of_ble_eq_true rfl) ⟨Nat.le_of_ble_eq_true rfl, Nat.le_of_ble_eq_true rfl⟩ d_Mo_add_80 (fun x37 q36 => ?_)
          refine lv_aload_n hx hb d_Mo_add_83 rfl (lv_at hl 1 rfl) ?_
          refine fm_iconst S d_Mo_add_84 ?_
          refine mo_pi (n := 1) (As := [.int (iN (1))]) (rest := [.int (iN (x37))]) S hK hZo hZ hA hm (fun μ sz hM => t_Mo_topOf l D cs Z hZo ad μ V M sz 1 hM (by omega)) (gV k591 k593 ks29 k6 k594) (by decide) (by decide +kernel) rfl hl.1 rfl (Nat.le_of_ble_eq_true rfl) ⟨Nat.le_of_ble_eq_true rfl, Nat.le_of_ble_eq_true rfl⟩ d_Mo_add_85 (fun x39 q38 => ?_)
          refine fm_icmp_le (tgt := 99) S (by omega) (by omega) d_Mo_add_88 (by decide) (fun c40 => ?_) (fun c40 => ?_)
          · refine lv_aload_n hx hb d_Mo_add_99 rfl (lv_at hl 1 rfl) ?_
            refine fm_iconst S d_Mo_add_100 ?_
            refine mo_pi (n := 1) (As := [.int (iN (1))]) (rest := []) S hK hZo hZ hA hm (fun μ sz hM => t_Mo_topOf l D cs Z hZo ad μ V M sz 1 hM (by omega)) (gV k591 k593 ks29 k6 k594) (by decide) (by decide +kernel) rfl hl.1 rfl (Nat.le_of_ble_eq_true rfl) ⟨Nat.le_of_ble_eq_true rfl, Nat.le_of_ble_eq_true rfl⟩ d_Mo_add_101 (fun x42 q41 => ?_)
            exact key _ (by omega)
          · refine lv_aload_n hx hb d_Mo_add_91 rfl (lv_at hl 1 rfl) ?_
            refine fm_iconst S d_Mo_add_92 ?_
            refine mo_pi (n := 1) (As := [.int (iN (0))]) (rest := []) S hK hZo hZ hA hm (fun μ sz hM => t_Mo_topOf l D cs Z hZo ad μ V M sz 0 hM (by omega)) (gV k591 k593 ks29 k6 k594) (by decide) (by decide +kernel) rfl hl.1 rfl (Nat.le_of_ble_eq_true rfl) ⟨Nat.le_of_ble_eq_true rfl, Nat.le_of_ble_eq_true rfl⟩ d_Mo_add_93 (fun x44 q43 => ?_)
            refine lv_goto (tgt := 104) hx hb d_Mo_add_96 (by decide) ?_
            exact key _ (by omega)
      · refine lv_aload_n hx hb d_Mo_add_47 rfl (lv_at hl 0 rfl) ?_
        refine mo_get 4 S hK hm (by decide) k470 rfl rfl d_Mo_add_48 ?_
        refine fm_iconst S d_Mo_add_51 ?_
        refine mo_iald 3 S hK hm (by decide) (by simp only [moLen]; omega) d_Mo_add_52 ?_
        refine lv_aload_n hx hb d_Mo_add_53 rfl (lv_at hl 0 rfl) ?_
        refine mo_get 4 S hK hm (by decide) k470 rfl rfl d_Mo_add_54 ?_
        refine fm_iconst S d_Mo_add_57 ?_
        refine mo_iald 3 S hK hm (by decide) (by simp only [moLen]; omega) d_Mo_add_58 ?_
        refine fm_icmp_ge (tgt := 71) S (by omega) (by omega) d_Mo_add_59 (by decide) (fun c45 => ?_) (fun c45 => ?_)
        · refine lv_aload_n hx hb d_Mo_add_71 rfl (lv_at hl 0 rfl) ?_
          refine mo_get 4 S hK hm (by decide) k470 rfl rfl d_Mo_add_72 ?_
          refine fm_iconst S d_Mo_add_75 ?_
          refine mo_iald 3 S hK hm (by decide) (by simp only [moLen]; omega) d_Mo_add_76 ?_
          exact key _ (by omega)
        · refine lv_aload_n hx hb d_Mo_add_62 rfl (lv_at hl 0 rfl) ?_
          refine mo_get 4 S hK hm (by decide) k470 rfl rfl d_Mo_add_63 ?_
          refine fm_iconst S d_Mo_add_66 ?_
          refine mo_iald 3 S hK hm (by decide) (by simp only [moLen]; omega) d_Mo_add_67 ?_
          refine lv_goto (tgt := 77) hx hb d_Mo_add_68 (by decide) ?_
          exact key _ (by omega)
    · refine lv_aload_n hx hb d_Mo_add_18 rfl (lv_at hl 0 rfl) ?_
      refine mo_join (P := fun y => (y = 1 ∧ M 2 0 = 0) ∨ (y = 0 ∧ M 2 0 ≠ 0)) (g := fun y => F0 m 33 ls ([.int (iN (y)), .ref (ad 0)])) (fun y hy => ?_) (fun key => ?_)
      · have hz0 : (y = 1 ∧ na = 0) ∨ (y = 0 ∧ nb = 0) := by omega
        rcases hz0 with ⟨hy1, hz1⟩ | ⟨hy1, hz1⟩
        · subst hy1
          have hN0 : NA = 0 := by have h := hga.lt; rw [hz1] at h; simp at h; exact h
          refine fm_iconst S d_Mo_add_33 ?_
          refine mo_cvS (n := 2) (As := [.int (iN (1)), .int (iN (2))]) (rest := []) S hK hZo hZ hA hm (fun μ sz hM => t_Mo_copy l D cs Z hZo ad μ V M sz 1 2 nb NB xb sb hM hgb (by omega)) (gV k587 k589 ks28 k6 k590) (by decide) (by decide +kernel) rfl hl.1 rfl (Nat.le_of_ble_eq_true rfl) ⟨Nat.le_of_ble_eq_true rfl, Nat.le_of_ble_eq_true rfl⟩ d_Mo_add_34 (fun M47 H locs q46 hm => ?_)
          obtain ⟨frM47, rgM47⟩ := q46
          refine lv_aload_n hx hb d_Mo_add_37 rfl (lv_at hl 0 rfl) ?_
          refine fm_iconst S d_Mo_add_38 ?_
          refine lv_aload_n hx hb d_Mo_add_39 rfl (lv_at hl 0 rfl) ?_
          refine mo_get 1 S hK hm (by decide) k467 rfl rfl d_Mo_add_40 ?_
          refine mo_ciS (n := 2) (As := [.int (iN (2)), .int (iN ((V 1)))]) (rest := []) S hK hZo hZ hA hm (fun μ sz hM => t_Mo_cut l D cs Z hZo ad μ V M47 sz 2 (V 1) most nb NB xb sb hM (by omega) (by omega) (by omega) (by omega) rgM47) (gV k555 k557 ks21 k6 k558) (by decide) (by decide +kernel) rfl hl.1 rfl (Nat.le_of_ble_eq_true rfl) ⟨Nat.le_of_ble_eq_true rfl, Nat.le_of_ble_eq_true rfl⟩ d_Mo_add_43 (fun x50 M49 H locs q48 hm => ?_)
          obtain ⟨frM49, cuM49⟩ := q48
          refine mo_iret S hr hlocks hK hm d_Mo_add_46 ?_
          refine ⟨rfl, frM47.tr frM49, NB, xb, sb, fun h => ?_, ?_, by omega, cuM49⟩
          · exact hsb (fun h2 => h (by have h3 := hgb.lt; rw [h2] at h3; simp at h3; exact h3))
          · rw [hN0]; unfold vI; simp
        · subst hy1
          have hN0 : NB = 0 := by have h := hgb.lt; rw [hz1] at h; simp at h; exact h
          refine fm_iconst S d_Mo_add_33 ?_
          refine mo_cvS (n := 2) (As := [.int (iN (0)), .int (iN (2))]) (rest := []) S hK hZo hZ hA hm (fun μ sz hM => t_Mo_copy l D cs Z hZo ad μ V M sz 0 2 na NA xa sa hM hga (by omega)) (gV k587 k589 ks28 k6 k590) (by decide) (by decide +kernel) rfl hl.1 rfl (Nat.le_of_ble_eq_true rfl) ⟨Nat.le_of_ble_eq_true rfl, Nat.le_of_ble_eq_true rfl⟩ d_Mo_add_34 (fun M52 H locs q51 hm => ?_)
          obtain ⟨frM52, rgM52⟩ := q51
          refine lv_aload_n hx hb d_Mo_add_37 rfl (lv_at hl 0 rfl) ?_
          refine fm_iconst S d_Mo_add_38 ?_
          refine lv_aload_n hx hb d_Mo_add_39 rfl (lv_at hl 0 rfl) ?_
          refine mo_get 1 S hK hm (by decide) k467 rfl rfl d_Mo_add_40 ?_
          refine mo_ciS (n := 2) (As := [.int (iN (2)), .int (iN ((V 1)))]) (rest := []) S hK hZo hZ hA hm (fun μ sz hM => t_Mo_cut l D cs Z hZo ad μ V M52 sz 2 (V 1) most na NA xa sa hM (by omega) (by omega) (by omega) (by omega) rgM52) (gV k555 k557 ks21 k6 k558) (by decide) (by decide +kernel) rfl hl.1 rfl (Nat.le_of_ble_eq_true rfl) ⟨Nat.le_of_ble_eq_true rfl, Nat.le_of_ble_eq_true rfl⟩ d_Mo_add_43 (fun x55 M54 H locs q53 hm => ?_)
          obtain ⟨frM54, cuM54⟩ := q53
          refine mo_iret S hr hlocks hK hm d_Mo_add_46 ?_
          refine ⟨rfl, frM52.tr frM54, NA, xa, sa, fun h => ?_, ?_, by omega, cuM54⟩
          · exact hsa (fun h2 => h (by have h3 := hga.lt; rw [h2] at h3; simp at h3; exact h3))
          · rw [hN0]; unfold vI; simp
      · refine lv_aload_n hx hb d_Mo_add_19 rfl (lv_at hl 0 rfl) ?_
        refine mo_get 3 S hK hm (by decide) k469 rfl rfl d_Mo_add_20 ?_
        refine fm_iconst S d_Mo_add_23 ?_
        refine mo_iald 2 S hK hm (by decide) (by simp only [moLen]; omega) d_Mo_add_24 ?_
        refine fm_if_ne (tgt := 32) S (by omega) d_Mo_add_25 (by decide) (fun c56 => ?_) (fun c56 => ?_)
        · refine fm_iconst S d_Mo_add_32 ?_
          exact key _ (by omega)
        · refine fm_iconst S d_Mo_add_28 ?_
          refine lv_goto (tgt := 33) hx hb d_Mo_add_29 (by decide) ?_
          exact key _ (by omega)
end
section
-- PRODUCTS (own work)
theorem dv_set {F : Int → Int} {b y : Int} {n k : Nat} (hk : k < n) : dv (uI F (b + k) y) b n = dv F b n + (y - F (b + k)) * 10 ^ k := by
  induction n with
  | zero => omega
  | succ n ih =>
    show dv (uI F (b + k) y) b n + uI F (b + k) y (b + n) * 10 ^ n = dv F b n + F (b + n) * 10 ^ n + (y - F (b + k)) * 10 ^ k
    by_cases h : k = n
    · subst h
      rw [uI_s, dv_congr (G := F) (c := b) (fun q h1 h2 => uI_n (by omega)), Int.sub_mul]
      omega
    · rw [ih (by omega), uI_n (by omega)]
      omega
/-- the product's digits: valid, 0 from z on, of the value T -/
def MuI (M0 M : Nat → Int → Int) (n z : Nat) (T : Int) : Prop := Fr M0 M 2 ∧ (M 2 = M0 2 ∧ M 3 = M0 3 ∧ M 4 = M0 4) ∧ dOk (M 1) 640 n ∧ (∀ q : Int, z ≤ q → q < n → M 1 (640 + q) = 0) ∧ dv (M 1) 640 n = T
theorem MuI.put {M0 M M1 : Nat → Int → Int} {n z z' k : Nat} {T T' y i : Int} (h : MuI M0 M n z T) (hn : n ≤ 320) (hk : k < n) (hi : i = 640 + k) (hz : z ≤ z') (hkz : k < z') (hy : 0 ≤ y ∧ y ≤ 9) (e : M1 = setA M 1 i y) (hT : T' = T + (y - M 1 i) * 10 ^ k) : MuI M0 M1 n z' T' := by
  obtain ⟨hF, hs, hok, hz0, hv⟩ := h
  subst hi
  have d1 : M1 1 = uI (M 1) (640 + k) y := by subst e; simp [setA]
  refine ⟨hF.tr (Fr.d (r := 2) (k := (k : Int)) e (by omega)), ?_, ?_, ?_, ?_⟩
  · subst e
    exact ⟨(setA_n (by decide)).trans hs.1, (setA_n (by decide)).trans hs.2.1, (setA_n (by decide)).trans hs.2.2⟩
  · intro q a b
    rw [d1]
    by_cases hq : q = k
    · rw [hq, uI_s]; exact hy
    · rw [uI_n (by omega)]; exact hok q a b
  · intro q a b
    rw [d1, uI_n (by omega)]
    exact hz0 q (by omega) b
  · rw [d1, dv_set hk, hv, hT]
/-- zeroing: k places are 0 -/
def ZeI (M0 M : Nat → Int → Int) (k : Int) : Prop := Fr M0 M 2 ∧ (M 2 = M0 2 ∧ M 3 = M0 3 ∧ M 4 = M0 4) ∧ ∀ q : Int, 0 ≤ q → q < k → M 1 (640 + q) = 0
theorem ZeI.start (M : Nat → Int → Int) : ZeI M M 0 := ⟨Fr.rf, ⟨rfl, rfl, rfl⟩, fun q h1 h2 => by omega⟩
theorem ZeI.step {M0 M M1 : Nat → Int → Int} {k : Int} (h : ZeI M0 M k) (hk : 0 ≤ k ∧ k < 320) (e : M1 = setA M 1 (640 + k) 0) : ZeI M0 M1 (k + 1) := by
  refine ⟨h.1.tr (Fr.d (r := 2) (k := k) e hk), ?_, fun q h1 h2 => ?_⟩
  · subst e
    exact ⟨(setA_n (by decide)).trans h.2.1.1, (setA_n (by decide)).trans h.2.1.2.1, (setA_n (by decide)).trans h.2.1.2.2⟩
  · subst e
    rw [setA_s]
    by_cases hq : q = k
    · rw [hq, uI_s]
    · rw [uI_n (by omega)]; exact h.2.2 q h1 (by omega)
theorem ZeI.mu {M0 M : Nat → Int → Int} {n : Nat} (h : ZeI M0 M n) (z : Nat) : MuI M0 M n z 0 := ⟨h.1, h.2.1, fun q h1 h2 => by rw [h.2.2 q h1 h2]; decide, fun q h1 h2 => h.2.2 q (by omega) h2, dv_zero h.2.2⟩
theorem mul_in {T B a cy d c : Int} {NB i k : Nat} (hT : T = B + a * ((NB % 10 ^ k : Nat) : Int) * 10 ^ i - cy * 10 ^ (i + k)) (hd : d = c + a * ((NB / 10 ^ k % 10 : Nat) : Int) + cy) : B + a * ((NB % 10 ^ (k + 1) : Nat) : Int) * 10 ^ i - d / 10 * 10 ^ (i + (k + 1)) = T + (d % 10 - c) * 10 ^ (i + k) := by
  have e1 : d % 10 = d - 10 * (d / 10) := by omega
  rw [e1, hT, Nat.pow_succ, Nat.mod_mul, ← Nat.add_assoc, Int.pow_succ, Int.pow_add]
  generalize NB / 10 ^ k % 10 = b at *
  generalize NB % 10 ^ k = g at *
  push_cast
  generalize (10 : Int) ^ i = p at *
  generalize (10 : Int) ^ k = q at *
  generalize d / 10 = f at *
  subst hd
  simp only [Int.add_mul, Int.sub_mul, Int.mul_add, Int.mul_sub, Int.mul_assoc, Int.mul_comm, Int.mul_left_comm]
  omega
theorem mul_out {NA NB ii nb : Nat} {cy T y : Int} (h : NB < 10 ^ nb) (hT : T = ((NA % 10 ^ ii : Nat) : Int) * NB + ((NA / 10 ^ ii % 10 : Nat) : Int) * ((NB % 10 ^ nb : Nat) : Int) * 10 ^ ii - cy * 10 ^ (ii + nb) := by rfl) (hy : y = 0 + cy := by omega) : ((NA % 10 ^ (ii + 1) : Nat) : Int) * NB = T + (y - 0) * 10 ^ (ii + nb) := by
  rw [hT, hy, Nat.mod_eq_of_lt h, Nat.pow_succ, Nat.mod_mul]
  generalize NA / 10 ^ ii % 10 = b
  generalize NA % 10 ^ ii = g
  push_cast
  rw [Int.pow_add]
  generalize (10 : Int) ^ ii = p
  generalize (10 : Int) ^ nb = q
  simp only [Int.add_mul, Int.mul_add, Int.mul_assoc, Int.mul_comm, Int.mul_left_comm, Int.zero_add, Int.sub_zero]
  omega
theorem MuI.fin {M0 M M1 M2 M3 : Nat → Int → Int} {na nb NA NB : Nat} {xa xb sa sb nI : Int} {z : Nat} (h : MuI M0 M (na + nb) z ((NA : Int) * NB)) (e1 : M1 = setA M 2 2 nI) (e2 : M2 = setA M1 3 2 (M1 3 0 + M1 3 1)) (e3 : M3 = setA M2 4 2 (M2 4 0 * M2 4 1)) (hn : nI = (na : Int) + nb) (x0 : M0 3 0 = xa) (x1 : M0 3 1 = xb) (s0 : M0 4 0 = sa) (s1 : M0 4 1 = sb) : Fr M0 M3 2 ∧ Rg M3 2 (na + nb) (NA * NB) (xa + xb) (sa * sb) := by
  obtain ⟨hF, hs, hok, hz0, hv⟩ := h
  have d1 : M3 1 = M 1 := by subst e3 e2 e1; simp [setA]
  refine ⟨hF.tr ((Fr.s e1 (by decide)).tr ((Fr.s e2 (by decide)).tr (Fr.s e3 (by decide)))), ?_, ?_, ?_, ?_, ?_⟩
  · subst e3 e2 e1; simp [setA, uI]; exact hn
  · subst e3 e2 e1; simp [setA, uI]; rw [hs.2.1, x0, x1]
  · subst e3 e2 e1; simp [setA, uI]; rw [hs.2.2, s0, s1]
  · rw [d1]; exact hok
  · rw [d1]; push_cast; exact hv
theorem prod81 {a b : Int} (ha : 0 ≤ a ∧ a ≤ 9) (hb : 0 ≤ b ∧ b ≤ 9) : 0 ≤ a * b ∧ a * b ≤ 81 := by
  refine ⟨Int.mul_nonneg ha.1 hb.1, ?_⟩
  have h := Int.mul_le_mul_of_nonneg_right (c := b) ha.2 hb.1
  omega
end
section
set_option maxHeartbeats 4000000 in
set_option maxRecDepth 100000 in
/-- L_mul1 -/
theorem L_mul1 {p : Program} {l : Launch} {e : Env} {s : State} {m : MethodId} {args : Array Value} {below : List Frame} {meth : Method} {c : Code} {Q : State → Prop} {D : va_G} {cs : Nat → ClassId} {Z : (Nat → Prop) → State → Heap → Prop} {ad : Nat → Nat} {μ0 : fm_Mu} {A : Nat → Prop}  (S : CallFix p m c c_Mo_multiply 6 s args wA "ArithmeticFormsModel") (hK : va_K D clsA (tysA cs) s) (hZo : fm_Zok Z) (hZ : Z A s s.heap) (hA : ∀ q, s.heap.size ≤ q → A q) (V : Nat → Int) (M0 : Nat → Int → Int) (na NA nb NB : Nat) (xa sa xb sb : Int) (hga : Rg M0 0 na NA xa sa) (hgb : Rg M0 1 nb NB xb sb) (hbd : na ≤ 100 ∧ nb ≤ 100) (n : Int) (hnn : n = na + nb) (kk38 : ∀ (M : Nat → Int → Int) (k : Int) (H : Heap) (locs : List Loc) (ls : Array Slot), (k = n) → (ZeI M0 M k) → lv_has ls 6 [(2, .int (iN (k))), (0, .ref (ad 0)), (1, .int (iN (n)))] → moW D A s.heap μ0 cs ad V M H locs → W p l e ({ frames := 2, cells := 0, slots := 0, locals := 47 }) s m args below meth c H locs 0 0 Q (F0 m 38 ls [])) : ∀ (fu : Nat) (M : Nat → Int → Int) (k : Int) (H : Heap) (locs : List Loc) (ls : Array Slot), n - k < (fu : Int) → (0 ≤ k ∧ k ≤ n) → (ZeI M0 M k) → lv_has ls 6 [(2, .int (iN (k))), (0, .ref (ad 0)), (1, .int (iN (n)))] → moW D A s.heap μ0 cs ad V M H locs → W p l e ({ frames := 2, cells := 0, slots := 0, locals := 47 }) s m args below meth c H locs 0 0 Q (F0 m 16 ls []) := by
  obtain ⟨hx, hb, hml, hown, hts⟩ := id S
  intro fu
  induction fu with
  | zero =>
    intro M k H locs ls hn hk hc hl hm
    exfalso; omega
  | succ fu ih =>
    intro M k H locs ls hn hk hc hl hm
    refine lv_iload_n hx hb d_Mo_multiply_16 rfl (lv_at hl 0 rfl) ?_
    refine lv_iload_n hx hb d_Mo_multiply_17 rfl (lv_at hl 2 rfl) ?_
    refine fm_icmp_ge (tgt := 38) S (by omega) (by omega) d_Mo_multiply_18 (by decide) (fun c1 => ?_) (fun c1 => ?_)
    · exact kk38 M k _ _ _ (by omega) (hc) (lv_sub hl [0, 1, 2] rfl) hm
    · refine lv_aload_n hx hb d_Mo_multiply_21 rfl (lv_at hl 1 rfl) ?_
      refine mo_get 2 S hK hm (by decide) k468 rfl rfl d_Mo_multiply_22 ?_
      refine fm_sipush S d_Mo_multiply_25 (by decide) ?_
      refine lv_iload_n hx hb d_Mo_multiply_28 rfl (lv_at hl 0 rfl) ?_
      refine fm_iadd S d_Mo_multiply_29 ?_
      refine fm_iconst S d_Mo_multiply_30 ?_
      refine mo_iast 1 S hK hm (by decide) (by simp only [moLen]; omega) d_Mo_multiply_31 (fun M2 H locs eM2 hm => ?_)
      refine lv_iinc (v := iN ((k + 1))) (lv' := [(2, .int (iN ((k + 1)))), (0, .ref (ad 0)), (1, .int (iN (n)))]) hx hb d_Mo_multiply_32 hl (k := 0) rfl (iN_add _ _) (by decide) rfl (fun ls hl => ?_)
      refine lv_goto (tgt := 16) hx hb d_Mo_multiply_35 (by decide) ?_
      exact ih M2 (k + 1) _ _ _ (by omega) (by omega) (hc.step (by omega) eM2) (lv_sub hl [0, 1, 2] rfl) hm

set_option maxHeartbeats 4000000 in
set_option maxRecDepth 100000 in
/-- L_mul2 -/
theorem L_mul2 {p : Program} {l : Launch} {e : Env} {s : State} {m : MethodId} {args : Array Value} {below : List Frame} {meth : Method} {c : Code} {Q : State → Prop} {D : va_G} {cs : Nat → ClassId} {Z : (Nat → Prop) → State → Heap → Prop} {ad : Nat → Nat} {μ0 : fm_Mu} {A : Nat → Prop}  (S : CallFix p m c c_Mo_multiply 6 s args wA "ArithmeticFormsModel") (hK : va_K D clsA (tysA cs) s) (hZo : fm_Zok Z) (hZ : Z A s s.heap) (hA : ∀ q, s.heap.size ≤ q → A q) (V : Nat → Int) (M0 : Nat → Int → Int) (na NA nb NB : Nat) (xa sa xb sb : Int) (hga : Rg M0 0 na NA xa sa) (hgb : Rg M0 1 nb NB xb sb) (hbd : na ≤ 100 ∧ nb ≤ 100) (n : Int) (hnn : n = na + nb) (i B a : Int) (ii : Nat) (hi : i = ii ∧ ii < na) (ha : a = ((NA / 10 ^ ii % 10 : Nat) : Int)) (kk134 : ∀ (M : Nat → Int → Int) (k : Int) (cy : Int) (kk : Nat) (H : Heap) (locs : List Loc) (ls : Array Slot), (kk = nb) → (0 ≤ cy ∧ cy ≤ 9) → (MuI M0 M (na + nb) (ii + nb) (B + a * ((NB % 10 ^ kk : Nat) : Int) * 10 ^ ii - cy * 10 ^ (ii + kk))) → lv_has ls 6 [(4, .int (iN (k))), (3, .int (iN (cy))), (0, .ref (ad 0)), (1, .int (iN (n))), (2, .int (iN (i)))] → moW D A s.heap μ0 cs ad V M H locs → W p l e ({ frames := 2, cells := 0, slots := 0, locals := 47 }) s m args below meth c H locs 0 0 Q (F0 m 134 ls [])) : ∀ (fu : Nat) (M : Nat → Int → Int) (k : Int) (cy : Int) (kk : Nat) (H : Heap) (locs : List Loc) (ls : Array Slot), nb - k < (fu : Int) → (k = kk ∧ kk ≤ nb ∧ 0 ≤ cy ∧ cy ≤ 9) → (MuI M0 M (na + nb) (ii + nb) (B + a * ((NB % 10 ^ kk : Nat) : Int) * 10 ^ ii - cy * 10 ^ (ii + kk))) → lv_has ls 6 [(4, .int (iN (k))), (3, .int (iN (cy))), (0, .ref (ad 0)), (1, .int (iN (n))), (2, .int (iN (i)))] → moW D A s.heap μ0 cs ad V M H locs → W p l e ({ frames := 2, cells := 0, slots := 0, locals := 47 }) s m args below meth c H locs 0 0 Q (F0 m 55 ls []) := by
  obtain ⟨hx, hb, hml, hown, hts⟩ := id S
  intro fu
  induction fu with
  | zero =>
    intro M k cy kk H locs ls hn hk hc hl hm
    exfalso; omega
  | succ fu ih =>
    intro M k cy kk H locs ls hn hk hc hl hm
    have g0 := hc.1.rg (by decide) (by omega) hga
    have g1 := hc.1.rg (by decide) (by omega) hgb
    have e21 := g1.1
    refine lv_iload hx hb d_Mo_multiply_55 (lv_at hl 0 rfl) ?_
    refine lv_aload_n hx hb d_Mo_multiply_57 rfl (lv_at hl 2 rfl) ?_
    refine mo_get 3 S hK hm (by decide) k469 rfl rfl d_Mo_multiply_58 ?_
    refine fm_iconst S d_Mo_multiply_61 ?_
    refine mo_iald 2 S hK hm (by decide) (by simp only [moLen]; omega) d_Mo_multiply_62 ?_
    refine fm_icmp_ge (tgt := 134) S (by omega) (by omega) d_Mo_multiply_63 (by decide) (fun c1 => ?_) (fun c1 => ?_)
    · exact kk134 M k cy kk _ _ _ (by omega) (by omega) (hc) (lv_sub hl [0, 1, 2, 3, 4] rfl) hm
    · have hA : M 1 (0 + i) = a := by
        rw [show (0 : Int) + i = 320 * 0 + i by omega, g0.dig (by omega) (by omega), ha, show i.toNat = ii by omega]
      have hB : M 1 (320 + k) = ((NB / 10 ^ kk % 10 : Nat) : Int) := by
        rw [show (320 : Int) + k = 320 * 1 + k by omega, g1.dig (by omega) (by omega), show k.toNat = kk by omega]
      have hm1 := Nat.mod_lt (NA / 10 ^ ii) (show 10 > 0 by decide)
      have hm2 := Nat.mod_lt (NB / 10 ^ kk) (show 10 > 0 by decide)
      have hC := hc.2.2.1 (ii + kk) (by omega) (by omega)
      rw [show 640 + ((ii : Int) + kk) = 640 + i + k by omega] at hC
      have hAB : 0 ≤ M 1 (0 + i) * M 1 (320 + k) ∧ M 1 (0 + i) * M 1 (320 + k) ≤ 81 := by
        rw [hA, hB, ha]
        exact prod81 (by omega) (by omega)
      refine lv_aload_n hx hb d_Mo_multiply_66 rfl (lv_at hl 2 rfl) ?_
      refine mo_get 2 S hK hm (by decide) k468 rfl rfl d_Mo_multiply_67 ?_
      refine fm_sipush S d_Mo_multiply_70 (by decide) ?_
      refine lv_iload_n hx hb d_Mo_multiply_73 rfl (lv_at hl 4 rfl) ?_
      refine fm_iadd S d_Mo_multiply_74 ?_
      refine lv_iload hx hb d_Mo_multiply_75 (lv_at hl 0 rfl) ?_
      refine fm_iadd S d_Mo_multiply_77 ?_
      refine mo_iald 1 S hK hm (by decide) (by simp only [moLen]; omega) d_Mo_multiply_78 ?_
      refine lv_aload_n hx hb d_Mo_multiply_79 rfl (lv_at hl 2 rfl) ?_
      refine mo_get 2 S hK hm (by decide) k468 rfl rfl d_Mo_multiply_80 ?_
      refine fm_iconst S d_Mo_multiply_83 ?_
      refine lv_iload_n hx hb d_Mo_multiply_84 rfl (lv_at hl 4 rfl) ?_
      refine fm_iadd S d_Mo_multiply_85 ?_
      refine mo_iald 1 S hK hm (by decide) (by simp only [moLen]; omega) d_Mo_multiply_86 ?_
      refine lv_aload_n hx hb d_Mo_multiply_87 rfl (lv_at hl 2 rfl) ?_
      refine mo_get 2 S hK hm (by decide) k468 rfl rfl d_Mo_multiply_88 ?_
      refine fm_sipush S d_Mo_multiply_91 (by decide) ?_
      refine lv_iload hx hb d_Mo_multiply_94 (lv_at hl 0 rfl) ?_
      refine fm_iadd S d_Mo_multiply_96 ?_
      refine mo_iald 1 S hK hm (by decide) (by simp only [moLen]; omega) d_Mo_multiply_97 ?_
      refine fm_imul S d_Mo_multiply_98 ?_
      refine fm_iadd S d_Mo_multiply_99 ?_
      refine lv_iload_n hx hb d_Mo_multiply_100 rfl (lv_at hl 1 rfl) ?_
      refine fm_iadd S d_Mo_multiply_101 ?_
      refine fm_topi (fun x2 hx2 => ?_)
      refine lv_istore (lv' := [(5, .int (iN (x2))), (4, .int (iN (k))), (3, .int (iN (cy))), (0, .ref (ad 0)), (1, .int (iN (n))), (2, .int (iN (i)))]) hx hb d_Mo_multiply_102 hl (by decide) rfl (fun ls hl => ?_)
      refine lv_aload_n hx hb d_Mo_multiply_104 rfl (lv_at hl 3 rfl) ?_
      refine mo_get 2 S hK hm (by decide) k468 rfl rfl d_Mo_multiply_105 ?_
      refine fm_sipush S d_Mo_multiply_108 (by decide) ?_
      refine lv_iload_n hx hb d_Mo_multiply_111 rfl (lv_at hl 5 rfl) ?_
      refine fm_iadd S d_Mo_multiply_112 ?_
      refine lv_iload hx hb d_Mo_multiply_113 (lv_at hl 1 rfl) ?_
      refine fm_iadd S d_Mo_multiply_115 ?_
      refine lv_iload hx hb d_Mo_multiply_116 (lv_at hl 0 rfl) ?_
      refine fm_bipush S d_Mo_multiply_118 (by decide) ?_
      refine fm_iremN S (by omega) d_Mo_multiply_120 ?_
      refine mo_iast 1 S hK hm (by decide) (by simp only [moLen]; omega) d_Mo_multiply_121 (fun M3 H locs eM3 hm => ?_)
      refine lv_iload hx hb d_Mo_multiply_122 (lv_at hl 0 rfl) ?_
      refine fm_bipush S d_Mo_multiply_124 (by decide) ?_
      refine fm_idivN S (by omega) d_Mo_multiply_126 ?_
      refine fm_topi (fun x4 hx4 => ?_)
      refine lv_istore_n (lv' := [(3, .int (iN (x4))), (5, .int (iN (x2))), (4, .int (iN (k))), (0, .ref (ad 0)), (1, .int (iN (n))), (2, .int (iN (i)))]) hx hb d_Mo_multiply_127 rfl hl (by decide) rfl (fun ls hl => ?_)
      refine lv_iinc (v := iN ((k + 1))) (lv' := [(4, .int (iN ((k + 1)))), (3, .int (iN (x4))), (5, .int (iN (x2))), (0, .ref (ad 0)), (1, .int (iN (n))), (2, .int (iN (i)))]) hx hb d_Mo_multiply_128 hl (k := 2) rfl (iN_add _ _) (by decide) rfl (fun ls hl => ?_)
      refine lv_goto (tgt := 55) hx hb d_Mo_multiply_131 (by decide) ?_
      exact ih M3 (k + 1) x4 (kk + 1) _ _ _ (by omega) (by omega) (hc.put (k := ii + kk) (by omega) (by omega) (by omega) (Nat.le_refl _) (by omega) (by omega) eM3 (by rw [hx4]; exact mul_in rfl (by rw [hx2, hA, hB]))) (lv_sub hl [0, 1, 3, 4, 5] rfl) hm

set_option maxHeartbeats 4000000 in
set_option maxRecDepth 100000 in
/-- L_mul3 -/
theorem L_mul3 {p : Program} {l : Launch} {e : Env} {s : State} {m : MethodId} {args : Array Value} {below : List Frame} {meth : Method} {c : Code} {Q : State → Prop} {D : va_G} {cs : Nat → ClassId} {Z : (Nat → Prop) → State → Heap → Prop} {ad : Nat → Nat} {μ0 : fm_Mu} {A : Nat → Prop}  (S : CallFix p m c c_Mo_multiply 6 s args wA "ArithmeticFormsModel") (hK : va_K D clsA (tysA cs) s) (hZo : fm_Zok Z) (hZ : Z A s s.heap) (hA : ∀ q, s.heap.size ≤ q → A q) (V : Nat → Int) (M0 : Nat → Int → Int) (na NA nb NB : Nat) (xa sa xb sb : Int) (hga : Rg M0 0 na NA xa sa) (hgb : Rg M0 1 nb NB xb sb) (hbd : na ≤ 100 ∧ nb ≤ 100) (n : Int) (hnn : n = na + nb) (kk161 : ∀ (M : Nat → Int → Int) (i : Int) (ii : Nat) (H : Heap) (locs : List Loc) (ls : Array Slot), (i = na ∧ ii = na) → (MuI M0 M (na + nb) (ii + nb) (((NA % 10 ^ ii : Nat) : Int) * NB)) → lv_has ls 6 [(2, .int (iN (i))), (0, .ref (ad 0)), (1, .int (iN (n)))] → moW D A s.heap μ0 cs ad V M H locs → W p l e ({ frames := 2, cells := 0, slots := 0, locals := 47 }) s m args below meth c H locs 0 0 Q (F0 m 161 ls [])) : ∀ (fu : Nat) (M : Nat → Int → Int) (i : Int) (ii : Nat) (H : Heap) (locs : List Loc) (ls : Array Slot), na - i < (fu : Int) → (i = ii ∧ ii ≤ na) → (MuI M0 M (na + nb) (ii + nb) (((NA % 10 ^ ii : Nat) : Int) * NB)) → lv_has ls 6 [(2, .int (iN (i))), (0, .ref (ad 0)), (1, .int (iN (n)))] → moW D A s.heap μ0 cs ad V M H locs → W p l e ({ frames := 2, cells := 0, slots := 0, locals := 47 }) s m args below meth c H locs 0 0 Q (F0 m 40 ls []) := by
  obtain ⟨hx, hb, hml, hown, hts⟩ := id S
  intro fu
  induction fu with
  | zero =>
    intro M i ii H locs ls hn hi hc hl hm
    exfalso; omega
  | succ fu ih =>
    intro M i ii H locs ls hn hi hc hl hm
    have g0 := hc.1.rg (by decide) (by omega) hga
    have e20 := g0.1
    refine lv_iload_n hx hb d_Mo_multiply_40 rfl (lv_at hl 0 rfl) ?_
    refine lv_aload_n hx hb d_Mo_multiply_41 rfl (lv_at hl 1 rfl) ?_
    refine mo_get 3 S hK hm (by decide) k469 rfl rfl d_Mo_multiply_42 ?_
    refine fm_iconst S d_Mo_multiply_45 ?_
    refine mo_iald 2 S hK hm (by decide) (by simp only [moLen]; omega) d_Mo_multiply_46 ?_
    refine fm_icmp_ge (tgt := 161) S (by omega) (by omega) d_Mo_multiply_47 (by decide) (fun c1 => ?_) (fun c1 => ?_)
    · exact kk161 M i ii _ _ _ (by omega) (hc) (lv_sub hl [0, 1, 2] rfl) hm
    · refine fm_iconst S d_Mo_multiply_50 ?_
      refine lv_istore_n (lv' := [(3, .int (iN (0))), (2, .int (iN (i))), (0, .ref (ad 0)), (1, .int (iN (n)))]) hx hb d_Mo_multiply_51 rfl hl (by decide) rfl (fun ls hl => ?_)
      refine fm_iconst S d_Mo_multiply_52 ?_
      refine lv_istore (lv' := [(4, .int (iN (0))), (3, .int (iN (0))), (2, .int (iN (i))), (0, .ref (ad 0)), (1, .int (iN (n)))]) hx hb d_Mo_multiply_53 hl (by decide) rfl (fun ls hl => ?_)
      obtain ⟨a, ha⟩ : ∃ a : Int, a = ((NA / 10 ^ ii % 10 : Nat) : Int) := ⟨_, rfl⟩
      refine L_mul2 (Z := Z) S hK hZo hZ hA V M0 na NA nb NB xa sa xb sb hga hgb hbd n hnn i (((NA % 10 ^ ii : Nat) : Int) * NB) a ii (by omega) ha (fun M2 k cy kk H locs ls hk hcy hc hl hm => ?_) (nb + 1) M 0 0 0 _ _ _ (by omega) (by omega) (by simpa [Nat.mod_one] using hc) (lv_sub hl [0, 1, 3, 4, 2] rfl) hm
      subst hk
      have g1 := hc.1.rg (by decide) (by omega) hgb
      have e21 := g1.1
      have hz : M2 1 (640 + i + M2 2 1) = 0 := by
        have h := hc.2.2.2.1 (ii + kk) (by omega) (by omega)
        rw [show 640 + i + M2 2 1 = 640 + ((ii : Int) + kk) by omega]; exact h
      refine lv_aload_n hx hb d_Mo_multiply_134 rfl (lv_at hl 2 rfl) ?_
      refine mo_get 2 S hK hm (by decide) k468 rfl rfl d_Mo_multiply_135 ?_
      refine fm_sipush S d_Mo_multiply_138 (by decide) ?_
      refine lv_iload_n hx hb d_Mo_multiply_141 rfl (lv_at hl 4 rfl) ?_
      refine fm_iadd S d_Mo_multiply_142 ?_
      refine lv_aload_n hx hb d_Mo_multiply_143 rfl (lv_at hl 2 rfl) ?_
      refine mo_get 3 S hK hm (by decide) k469 rfl rfl d_Mo_multiply_144 ?_
      refine fm_iconst S d_Mo_multiply_147 ?_
      refine mo_iald 2 S hK hm (by decide) (by simp only [moLen]; omega) d_Mo_multiply_148 ?_
      refine fm_iadd S d_Mo_multiply_149 ?_
      refine lv_dup2_11 hx hb d_Mo_multiply_150 rfl rfl ?_
      refine mo_iald 1 S hK hm (by decide) (by simp only [moLen]; omega) d_Mo_multiply_151 ?_
      refine lv_iload_n hx hb d_Mo_multiply_152 rfl (lv_at hl 1 rfl) ?_
      refine fm_iadd S d_Mo_multiply_153 ?_
      refine mo_iast 1 S hK hm (by decide) (by simp only [moLen]; omega) d_Mo_multiply_154 (fun M3 H locs eM3 hm => ?_)
      refine lv_iinc (v := iN ((i + 1))) (lv' := [(2, .int (iN ((i + 1)))), (4, .int (iN (k))), (3, .int (iN (cy))), (0, .ref (ad 0)), (1, .int (iN (n)))]) hx hb d_Mo_multiply_155 hl (k := 4) rfl (iN_add _ _) (by decide) rfl (fun ls hl => ?_)
      refine lv_goto (tgt := 40) hx hb d_Mo_multiply_158 (by decide) ?_
      exact ih M3 (i + 1) (ii + 1) _ _ _ (by omega) (by omega) (hc.put (k := ii + kk) (by omega) (by omega) (by omega) (by omega) (by omega) (by rw [hz]; omega) eM3 (by rw [hz, ha]; exact mul_out hgb.lt)) (lv_sub hl [0, 3, 4] rfl) hm

set_option maxHeartbeats 4000000 in
set_option maxRecDepth 100000 in
/-- multiply() -/
theorem t_Mo_multiply (l : Launch) (D : va_G) (cs : Nat → ClassId) (Z : (Nat → Prop) → State → Heap → Prop) (hZo : fm_Zok Z) (ad : Nat → Nat) (μ : fm_Mu) (V : Nat → Int) (M : Nat → Int → Int) (sz : Nat) (most : Nat) (na : Nat) (NA : Nat) (nb : Nat) (NB : Nat) (xa : Int) (sa : Int) (xb : Int) (sb : Int) (hM : moS cs μ ad V M) (hga : Rg M 0 na NA xa sa) (hgb : Rg M 1 nb NB xb sb) (hbd : na ≤ 100 ∧ nb ≤ 100 ∧ -150 ≤ xa ∧ -150 ≤ xb ∧ xa ≤ 150 ∧ xb ≤ 150) (hsz : -1 ≤ sa ∧ sa ≤ 1 ∧ -1 ≤ sb ∧ sb ≤ 1) (hpr : V 1 = (most : Int) ∧ 1 ≤ most ∧ most ≤ 31) : Met l y_Mo_multiply (Cond.code y_Mo_multiply c_Mo_multiply 6 (some .int) :: wA) ({ frames := 2, cells := 0, slots := 0, locals := 47 }) (fm_Pc D clsA (tysA cs) Z μ sz [.ref (ad 0)]) (moQi D cs ad μ sz (fun z V' M' => V' = V ∧ Fr M M' 2 ∧ cutOk M' 2 most (NA * NB) (xa + xb) (sa * sb) z)) 0 0 (fm_A μ sz) := by
  refine mo_of hM (by decide +kernel) (Nat.le_of_ble_eq_true rfl) (fun p e s m below meth c S hr hlocks hsz hm hK hZ hA ls hl => ?_)
  subst hsz
  obtain ⟨hx, hb, hml, hown, hts⟩ := id S
  have hl : lv_has ls 6 [(0, .ref (ad 0))] := hl
  have e20 := hga.1
  have e21 := hgb.1
  have e30 := hga.2.1
  have e31 := hgb.2.1
  have e40 := hga.2.2.1
  have e41 := hgb.2.2.1
  refine lv_aload_n hx hb d_Mo_multiply_0 rfl (lv_at hl 0 rfl) ?_
  refine mo_get 3 S hK hm (by decide) k469 rfl rfl d_Mo_multiply_1 ?_
  refine fm_iconst S d_Mo_multiply_4 ?_
  refine mo_iald 2 S hK hm (by decide) (by simp only [moLen]; omega) d_Mo_multiply_5 ?_
  refine lv_aload_n hx hb d_Mo_multiply_6 rfl (lv_at hl 0 rfl) ?_
  refine mo_get 3 S hK hm (by decide) k469 rfl rfl d_Mo_multiply_7 ?_
  refine fm_iconst S d_Mo_multiply_10 ?_
  refine mo_iald 2 S hK hm (by decide) (by simp only [moLen]; omega) d_Mo_multiply_11 ?_
  refine fm_iadd S d_Mo_multiply_12 ?_
  refine fm_topi (fun x1 hx1 => ?_)
  refine lv_istore_n (lv' := [(1, .int (iN (x1))), (0, .ref (ad 0))]) hx hb d_Mo_multiply_13 rfl hl (by decide) rfl (fun ls hl => ?_)
  refine fm_iconst S d_Mo_multiply_14 ?_
  refine lv_istore_n (lv' := [(2, .int (iN (0))), (1, .int (iN (x1))), (0, .ref (ad 0))]) hx hb d_Mo_multiply_15 rfl hl (by decide) rfl (fun ls hl => ?_)
  refine L_mul1 (Z := Z) S hK hZo hZ hA V M na NA nb NB xa sa xb sb hga hgb (by omega) x1 (by omega) (fun M2 k H locs ls hk hz hl hm => ?_) ((na + nb) + 1) M 0 _ _ _ (by omega) (by omega) (ZeI.start M) (lv_sub hl [0, 2, 1] rfl) hm
  refine fm_iconst S d_Mo_multiply_38 ?_
  refine lv_istore_n (lv' := [(2, .int (iN (0))), (0, .ref (ad 0)), (1, .int (iN (x1)))]) hx hb d_Mo_multiply_39 rfl hl (by decide) rfl (fun ls hl => ?_)
  have hz2 : ZeI M M2 ((na + nb : Nat) : Int) := by rw [hk, hx1, e20, e21] at hz; simpa using hz
  refine L_mul3 (Z := Z) S hK hZo hZ hA V M na NA nb NB xa sa xb sb hga hgb (by omega) x1 (by omega) (fun M3 i ii H locs ls hi hc hl hm => ?_) (na + 1) M2 0 0 _ _ _ (by omega) (by omega) (by simpa [Nat.mod_one] using hz2.mu nb) (lv_sub hl [0, 1, 2] rfl) hm
  obtain ⟨hi1, hi2⟩ := hi
  subst hi2
  rw [Nat.mod_eq_of_lt hga.lt] at hc
  refine lv_aload_n hx hb d_Mo_multiply_161 rfl (lv_at hl 1 rfl) ?_
  refine mo_get 3 S hK hm (by decide) k469 rfl rfl d_Mo_multiply_162 ?_
  refine fm_iconst S d_Mo_multiply_165 ?_
  refine lv_iload_n hx hb d_Mo_multiply_166 rfl (lv_at hl 2 rfl) ?_
  refine mo_iast 2 S hK hm (by decide) (by simp only [moLen]; omega) d_Mo_multiply_167 (fun M4 H locs eM4 hm => ?_)
  refine lv_aload_n hx hb d_Mo_multiply_168 rfl (lv_at hl 1 rfl) ?_
  refine mo_get 4 S hK hm (by decide) k470 rfl rfl d_Mo_multiply_169 ?_
  refine fm_iconst S d_Mo_multiply_172 ?_
  refine lv_aload_n hx hb d_Mo_multiply_173 rfl (lv_at hl 1 rfl) ?_
  refine mo_get 4 S hK hm (by decide) k470 rfl rfl d_Mo_multiply_174 ?_
  refine fm_iconst S d_Mo_multiply_177 ?_
  refine mo_iald 3 S hK hm (by decide) (by simp only [moLen]; omega) d_Mo_multiply_178 ?_
  refine lv_aload_n hx hb d_Mo_multiply_179 rfl (lv_at hl 1 rfl) ?_
  refine mo_get 4 S hK hm (by decide) k470 rfl rfl d_Mo_multiply_180 ?_
  refine fm_iconst S d_Mo_multiply_183 ?_
  refine mo_iald 3 S hK hm (by decide) (by simp only [moLen]; omega) d_Mo_multiply_184 ?_
  refine fm_iadd S d_Mo_multiply_185 ?_
  refine mo_iast 3 S hK hm (by decide) (by simp only [moLen]; omega) d_Mo_multiply_186 (fun M5 H locs eM5 hm => ?_)
  refine lv_aload_n hx hb d_Mo_multiply_187 rfl (lv_at hl 1 rfl) ?_
  refine mo_get 5 S hK hm (by decide) k471 rfl rfl d_Mo_multiply_188 ?_
  refine fm_iconst S d_Mo_multiply_191 ?_
  refine lv_aload_n hx hb d_Mo_multiply_192 rfl (lv_at hl 1 rfl) ?_
  refine mo_get 5 S hK hm (by decide) k471 rfl rfl d_Mo_multiply_193 ?_
  refine fm_iconst S d_Mo_multiply_196 ?_
  refine mo_iald 4 S hK hm (by decide) (by simp only [moLen]; omega) d_Mo_multiply_197 ?_
  refine lv_aload_n hx hb d_Mo_multiply_198 rfl (lv_at hl 1 rfl) ?_
  refine mo_get 5 S hK hm (by decide) k471 rfl rfl d_Mo_multiply_199 ?_
  refine fm_iconst S d_Mo_multiply_202 ?_
  refine mo_iald 4 S hK hm (by decide) (by simp only [moLen]; omega) d_Mo_multiply_203 ?_
  refine fm_imul S d_Mo_multiply_204 ?_
  refine mo_iast 4 S hK hm (by decide) (by simp only [moLen]; omega) d_Mo_multiply_205 (fun M6 H locs eM6 hm => ?_)
  obtain ⟨frS, rgS⟩ := MuI.fin (M3 := M6) hc eM4 eM5 eM6 (by omega) hga.2.1 hgb.2.1 hga.2.2.1 hgb.2.2.1
  refine lv_aload_n hx hb d_Mo_multiply_206 rfl (lv_at hl 1 rfl) ?_
  refine fm_iconst S d_Mo_multiply_207 ?_
  refine lv_aload_n hx hb d_Mo_multiply_208 rfl (lv_at hl 1 rfl) ?_
  refine mo_get 1 S hK hm (by decide) k467 rfl rfl d_Mo_multiply_209 ?_
  refine mo_ciS (n := 2) (As := [.int (iN (2)), .int (iN ((V 1)))]) (rest := []) S hK hZo hZ hA hm (fun μ sz hM => t_Mo_cut l D cs Z hZo ad μ V M6 sz 2 (V 1) most (ii + nb) (NA * NB) (xa + xb) (sa * sb) hM (by omega) (by omega) (by omega) (by omega) rgS) (gV k555 k557 ks21 k6 k558) (by decide) (by decide +kernel) rfl hl.1 rfl (Nat.le_of_ble_eq_true rfl) ⟨Nat.le_of_ble_eq_true rfl, Nat.le_of_ble_eq_true rfl⟩ d_Mo_multiply_212 (fun x9 M8 H locs q7 hm => ?_)
  obtain ⟨frM8, cuM8⟩ := q7
  refine mo_iret S hr hlocks hK hm d_Mo_multiply_215 ?_
  exact ⟨rfl, frS.tr frM8, cuM8⟩
end
section
-- QUOTIENTS (own work)
theorem Fr.r5 {M M' : Nat → Int → Int} (r : Int) (h : ∀ j, j ≠ 5 → M' j = M j) : Fr M M' r := ⟨fun k hk => h k (by omega), fun q _ => by rw [h 1 (by decide)], fun q _ => by rw [h 2 (by decide), h 3 (by decide), h 4 (by decide)]; exact ⟨rfl, rfl, rfl⟩⟩
/-- the rest's digits, one more than the divisor has -/
def Rs (M : Nat → Int → Int) (nb R : Nat) : Prop := dOk (M 5) 0 (nb + 1) ∧ dv (M 5) 0 (nb + 1) = R
theorem Rs.lt {M : Nat → Int → Int} {nb R : Nat} (h : Rs M nb R) : R < 10 ^ (nb + 1) := by
  have h1 := (dv_lt h.1).2
  rw [h.2, ← p10c] at h1
  omega
theorem Rs.dig {M : Nat → Int → Int} {nb R k : Nat} (h : Rs M nb R) (hk : k < nb + 1) : M 5 k = ((R / 10 ^ k % 10 : Nat) : Int) := by
  have h1 := dv_dig h.1 (k := k) hk
  rw [h.2, Int.zero_add] at h1
  rw [← h1]
  simp
theorem div_dig {NA more k : Nat} : NA * 10 ^ more / 10 ^ k % 10 = if more ≤ k then NA / 10 ^ (k - more) % 10 else 0 := by
  by_cases h : more ≤ k
  · rw [if_pos h]
    obtain ⟨j, rfl⟩ : ∃ j, k = more + j := ⟨k - more, by omega⟩
    rw [Nat.pow_add, ← Nat.div_div_eq_div_mul, Nat.mul_div_cancel _ (p10N _), Nat.add_sub_cancel_left]
  · rw [if_neg h]
    have e : more = k + (more - k - 1) + 1 := by omega
    rw [e, Nat.pow_succ, Nat.pow_add, Nat.mul_comm NA, Nat.mul_assoc, Nat.mul_assoc, Nat.mul_div_cancel_left _ (p10N _), ← Nat.mul_assoc, Nat.mul_comm _ 10, Nat.mul_assoc, Nat.mul_mod_right]
/-- taking the divisor off the rest: k digits are done -/
def LsI (M0 M : Nat → Int → Int) (nb k : Nat) (cy : Int) (R NB : Nat) : Prop := (∀ j, j ≠ 5 → M j = M0 j) ∧ dOk (M 5) 0 (nb + 1) ∧ -1 ≤ cy ∧ cy ≤ 0 ∧ dv (M 5) 0 (nb + 1) = (R : Int) - ((NB % 10 ^ k : Nat) : Int) - cy * 10 ^ k
theorem LsI.start {M : Nat → Int → Int} {nb R NB : Nat} (h : Rs M nb R) : LsI M M nb 0 0 R NB := ⟨fun _ _ => rfl, h.1, by omega, by omega, by rw [h.2]; simp [Nat.mod_one]⟩
theorem LsI.step {M0 M M1 : Nat → Int → Int} {nb k R NB : Nat} {cy cy' d q : Int} (h : LsI M0 M nb k cy R NB) (hq : q = k) (hk : k < nb + 1) (hd : d = M 5 q - ((NB / 10 ^ k % 10 : Nat) : Int) + cy) (hcy : (d < 0 ∧ cy' = -1) ∨ (0 ≤ d ∧ cy' = 0)) (e : M1 = setA M 5 q (d - 10 * cy')) : LsI M0 M1 nb (k + 1) cy' R NB := by
  obtain ⟨hs, hok, hc1, hc2, hv⟩ := h
  subst hq
  have hm := Nat.mod_lt (NB / 10 ^ k) (show 10 > 0 by decide)
  have h1 := hok k (by omega) (by omega)
  rw [Int.zero_add] at h1
  have d1 : M1 5 = uI (M 5) (0 + k) (d - 10 * cy') := by subst e; simp [setA]
  refine ⟨fun j hj => by subst e; rw [setA_n hj]; exact hs j hj, ?_, by omega, by omega, ?_⟩
  · intro q a b
    rw [d1]
    by_cases hq : q = k
    · rw [hq, uI_s]; omega
    · rw [uI_n (by omega)]; exact hok q a b
  · rw [d1, dv_set hk, hv, Int.zero_add, hd, Nat.pow_succ, Nat.mod_mul, Int.pow_succ]
    generalize NB / 10 ^ k % 10 = b
    generalize NB % 10 ^ k = g
    push_cast
    generalize (10 : Int) ^ k = p
    simp only [Int.add_mul, Int.sub_mul, Int.mul_add, Int.mul_sub, Int.mul_assoc, Int.mul_comm, Int.mul_left_comm]
    omega
theorem LsI.fin {M0 M : Nat → Int → Int} {nb R NB : Nat} {cy : Int} (h : LsI M0 M nb (nb + 1) cy R NB) (hB : NB < 10 ^ nb) (hR : R < 10 ^ (nb + 1)) (hle : NB ≤ R) : (∀ j, j ≠ 5 → M j = M0 j) ∧ Rs M nb (R - NB) := by
  obtain ⟨hs, hok, hc1, hc2, hv⟩ := h
  have h1 := dv_lt hok
  have h2 : NB < 10 ^ (nb + 1) := Nat.lt_of_lt_of_le hB (Nat.pow_le_pow_right (by decide) (by omega))
  rw [Nat.mod_eq_of_lt h2] at hv
  have h3 : (R : Int) < 10 ^ (nb + 1) := by rw [← p10c]; omega
  rcases (show cy = -1 ∨ cy = 0 by omega) with h | h
  · subst h; omega
  · subst h; exact ⟨hs, hok, by omega⟩
/-- moving the rest's digits up: those above i are moved -/
def ShI (M0 M : Nat → Int → Int) (nb : Nat) (i : Int) : Prop := (∀ j, j ≠ 5 → M j = M0 j) ∧ (∀ q : Int, i < q → q ≤ nb → M 5 q = M0 5 (q - 1)) ∧ ∀ q : Int, q ≤ i → M 5 q = M0 5 q
theorem ShI.start (M : Nat → Int → Int) (nb : Nat) : ShI M M nb nb := ⟨fun _ _ => rfl, fun q h1 h2 => by omega, fun _ _ => rfl⟩
theorem ShI.step {M0 M M1 : Nat → Int → Int} {nb : Nat} {i : Int} (h : ShI M0 M nb i) (e : M1 = setA M 5 i (M 5 (i - 1))) : ShI M0 M1 nb (i + -1) := by
  obtain ⟨h1, h2, h3⟩ := h
  subst e
  refine ⟨fun j hj => by rw [setA_n hj]; exact h1 j hj, fun q a b => ?_, fun q a => ?_⟩
  · rw [setA_s]
    by_cases hq : q = i
    · rw [hq, uI_s]; exact h3 _ (by omega)
    · rw [uI_n hq]; exact h2 q (by omega) b
  · rw [setA_s, uI_n (by omega)]; exact h3 q (by omega)
theorem ShI.fin {M0 M M1 : Nat → Int → Int} {nb R : Nat} {dg : Int} (h : ShI M0 M nb 0) (hr : Rs M0 nb R) (hR : R < 10 ^ nb) (hd : 0 ≤ dg ∧ dg ≤ 9) (e : M1 = setA M 5 0 dg) : (∀ j, j ≠ 5 → M1 j = M0 j) ∧ Rs M1 nb (10 * R + dg.toNat) := by
  obtain ⟨h1, h2, h3⟩ := h
  have s0 : M1 5 0 = dg := by subst e; rw [setA_s, uI_s]
  have s1 : ∀ q : Int, 1 ≤ q → q ≤ nb → M1 5 q = M0 5 (q - 1) := fun q a b => by subst e; rw [setA_s, uI_n (by omega)]; exact h2 q (by omega) b
  have hv : dv (M0 5) 0 nb = R := by
    have h4 := dv_mod (F := M0 5) (b := 0) (d := nb) (m := 1) (hr.1.le (by omega))
    rw [hr.2] at h4
    rw [← h4, Int.emod_eq_of_lt (by omega) (by rw [← p10c]; omega)]
  refine ⟨fun j hj => by subst e; rw [setA_n hj]; exact h1 j hj, ?_, ?_⟩
  · intro q a b
    rw [Int.zero_add]
    by_cases hq : q = 0
    · rw [hq, s0]; exact hd
    · rw [s1 q (by omega) (by omega)]
      have := hr.1 (q - 1) (by omega) (by omega)
      rw [Int.zero_add] at this
      exact this
  · rw [Nat.add_comm, dv_app, dv_congr (F := M1 5) (G := M0 5) (c := 0) (b := 0 + ((1 : Nat) : Int)) (n := nb) (fun k a b => by rw [s1 _ (by omega) (by omega)]; congr 1; omega), hv]
    show 0 + M1 5 (0 + ((0 : Nat) : Int)) * 10 ^ 0 + 10 ^ 1 * (R : Int) = _
    rw [show (0 : Int) + ((0 : Nat) : Int) = 0 by decide, s0]
    push_cast
    omega
/-- the quotient's digits from kk on, and the rest -/
def DvI (M0 M : Nat → Int → Int) (n nb kk D NB : Nat) : Prop := Fr M0 M 2 ∧ (M 2 = M0 2 ∧ M 3 = M0 3 ∧ M 4 = M0 4) ∧ dOk (M 1) (640 + kk) (n - kk) ∧ dv (M 1) (640 + kk) (n - kk) = ((D / 10 ^ kk / NB : Nat) : Int) ∧ Rs M nb (D / 10 ^ kk % NB)
theorem DvI.start {M0 M : Nat → Int → Int} {n nb D NB : Nat} (hD : D < 10 ^ n) (hs : ∀ j, j ≠ 5 → M j = M0 j) (hz : ∀ q : Int, 0 ≤ q → q < 40 → M 5 q = 0) (hnb : nb < 40) : DvI M0 M n nb n D NB := by
  refine ⟨Fr.r5 2 hs, ⟨hs 2 (by decide), hs 3 (by decide), hs 4 (by decide)⟩, ?_, ?_, ?_⟩
  · intro k h1 h2; omega
  · rw [Nat.div_eq_of_lt hD, Nat.zero_div, Nat.sub_self]; rfl
  · rw [Nat.div_eq_of_lt hD, Nat.zero_mod]
    exact ⟨fun k h1 h2 => by rw [Int.zero_add, hz k h1 (by omega)]; decide, dv_zero (fun k h1 h2 => by rw [Int.zero_add]; exact hz k h1 (by omega))⟩
theorem DvI.step {M0 M Ma Mb M1 : Nat → Int → Int} {n nb k D NB R' d : Nat} {q x : Int} (h : DvI M0 M n nb (k + 1) D NB) (hk : k < n) (hn : n ≤ 320) (hNB : 0 < NB) (hR : R' = 10 * (D / 10 ^ (k + 1) % NB) + D / 10 ^ k % 10) (ha : ∀ j, j ≠ 5 → Ma j = M j) (hb : ∀ j, j ≠ 5 → Mb j = Ma j) (hd : d * NB ≤ R') (hr : Rs Mb nb (R' - d * NB)) (hl : R' - d * NB < NB) (hq : q = 640 + k) (hx : x = d) (e : M1 = setA Mb 1 q x) : DvI M0 M1 n nb k D NB := by
  obtain ⟨hF, hs, hok, hv, hrs⟩ := h
  subst hq hx
  have hj : ∀ j, j ≠ 5 → Mb j = M j := fun j hj => (hb j hj).trans (ha j hj)
  have hlt : D / 10 ^ (k + 1) % NB < NB := Nat.mod_lt _ hNB
  have hm := Nat.mod_lt (D / 10 ^ k) (show 10 > 0 by decide)
  have hd9 : d ≤ 9 := by
    rcases Nat.lt_or_ge d 10 with h1 | h1
    · omega
    · have := Nat.mul_le_mul_right NB h1
      omega
  have eD : D / 10 ^ k = 10 * (D / 10 ^ (k + 1)) + D / 10 ^ k % 10 := by
    have : D / 10 ^ (k + 1) = D / 10 ^ k / 10 := by rw [Nat.div_div_eq_div_mul, Nat.pow_succ]
    omega
  have eD2 := Nat.div_add_mod (D / 10 ^ (k + 1)) NB
  have eQ : D / 10 ^ k = NB * (10 * (D / 10 ^ (k + 1) / NB) + d) + (R' - d * NB) := by
    rw [Nat.mul_add, Nat.mul_comm NB d, ← Nat.mul_assoc, Nat.mul_comm NB 10, Nat.mul_assoc]
    generalize NB * (D / 10 ^ (k + 1) / NB) = u at *
    generalize d * NB = v at *
    omega
  have eq1 : D / 10 ^ k / NB = 10 * (D / 10 ^ (k + 1) / NB) + d := by
    rw [eQ, Nat.mul_add_div hNB, Nat.div_eq_of_lt hl, Nat.add_zero]
  have eq2 : D / 10 ^ k % NB = R' - d * NB := by
    rw [eQ, Nat.mul_add_mod, Nat.mod_eq_of_lt hl]
  have d1 : M1 1 = uI (M 1) (640 + k) d := by subst e; rw [setA_s, hj 1 (by decide)]
  have hup : ∀ p : Int, 0 ≤ p → p < (n - (k + 1) : Nat) → M1 1 (640 + k + ((1 : Nat) : Int) + p) = M 1 (640 + ((k + 1 : Nat) : Int) + p) := fun p a b => by
    rw [d1, uI_n (by omega)]; congr 1
  have hF2 : Fr M Mb 2 := Fr.r5 2 hj
  have n1 : ∀ j, j ≠ 1 → M1 j = Mb j := fun j h1 => by subst e; exact setA_n h1
  refine ⟨hF.tr (hF2.tr (Fr.d (r := 2) (k := (k : Int)) e (by omega))), ?_, ?_, ?_, ?_⟩
  · rw [n1 2 (by decide), n1 3 (by decide), n1 4 (by decide), hj 2 (by decide), hj 3 (by decide), hj 4 (by decide)]; exact hs
  · intro p a b
    by_cases hp : p = 0
    · rw [hp, d1, Int.add_zero, uI_s]; omega
    · have h1 := hup (p - 1) (by omega) (by omega)
      rw [show 640 + (k : Int) + ((1 : Nat) : Int) + (p - 1) = 640 + k + p by omega] at h1
      rw [h1]
      exact hok (p - 1) (by omega) (by omega)
  · rw [show n - k = 1 + (n - (k + 1)) by omega, dv_app, dv_congr hup, hv, eq1]
    show 0 + M1 1 (640 + (k : Int) + ((0 : Nat) : Int)) * 10 ^ 0 + 10 ^ 1 * _ = _
    rw [show 640 + (k : Int) + ((0 : Nat) : Int) = 640 + k by omega, d1, uI_s]
    push_cast
    omega
  · rw [eq2]
    exact ⟨by rw [n1 5 (by decide)]; exact hr.1, by rw [n1 5 (by decide)]; exact hr.2⟩
theorem DvI.fin {M0 M M1 M2 M3 : Nat → Int → Int} {na nb NA NB n more D : Nat} {xa xb sa sb nn : Int} (h : DvI M0 M n nb 0 D NB) (hn : na = 0 → NA = 0) (hD : D = NA * 10 ^ more) (e1 : M1 = setA M 2 2 nn) (hnn : nn = if na = 0 then 0 else (n : Int)) (e2 : M2 = setA M1 3 2 (M1 3 0 - more - M1 3 1)) (e3 : M3 = setA M2 4 2 (M2 4 0 * M2 4 1)) (x0 : M0 3 0 = xa) (x1 : M0 3 1 = xb) (s0 : M0 4 0 = sa) (s1 : M0 4 1 = sb) : Fr M0 M3 2 ∧ ∃ n', n' ≤ n ∧ Rg M3 2 n' (NA * 10 ^ more / NB) (xa - more - xb) (sa * sb) := by
  obtain ⟨hF, hs, hok, hv, hrs⟩ := h
  have d1 : M3 1 = M 1 := by subst e3 e2 e1; simp [setA]
  have hF3 := hF.tr ((Fr.s e1 (by decide)).tr ((Fr.s e2 (by decide)).tr (Fr.s e3 (by decide))))
  have a2 : M3 3 2 = xa - more - xb := by subst e3 e2 e1; simp [setA, uI]; rw [hs.2.1, x0, x1]
  have a3 : M3 4 2 = sa * sb := by subst e3 e2 e1; simp [setA, uI]; rw [hs.2.2, s0, s1]
  have a1 : M3 2 2 = nn := by subst e3 e2 e1; simp [setA, uI]
  by_cases h0 : na = 0
  · refine ⟨hF3, 0, by omega, ?_, a2, a3, fun k h1 h2 => by omega, ?_⟩
    · rw [a1, hnn, if_pos h0]; rfl
    · rw [hn h0]; simp [dv]
  · refine ⟨hF3, n, Nat.le_refl _, ?_, a2, a3, ?_, ?_⟩
    · rw [a1, hnn, if_neg h0]
    · rw [d1]
      have : dOk (M 1) (640 + ((0 : Nat) : Int)) (n - 0) := hok
      rw [Nat.sub_zero, show (640 : Int) + ((0 : Nat) : Int) = 320 * 2 by decide] at this
      exact this
    · rw [d1, ← hD]
      have : dv (M 1) (640 + ((0 : Nat) : Int)) (n - 0) = _ := hv
      rw [Nat.sub_zero, show (640 : Int) + ((0 : Nat) : Int) = 320 * 2 by decide, Nat.pow_zero, Nat.div_one] at this
      exact this
theorem Rg.r5 {M M' : Nat → Int → Int} {r : Int} {n N : Nat} {x sg : Int} (hg : Rg M r n N x sg) (h : ∀ j, j ≠ 5 → M' j = M j) : Rg M' r n N x sg := by
  unfold Rg
  rw [h 1 (by decide), h 2 (by decide), h 3 (by decide), h 4 (by decide)]
  exact hg
end
section
set_option maxHeartbeats 4000000 in
set_option maxRecDepth 100000 in
/-- L_en -/
theorem L_en {p : Program} {l : Launch} {e : Env} {s : State} {m : MethodId} {args : Array Value} {below : List Frame} {meth : Method} {c : Code} {Q : State → Prop} {D : va_G} {cs : Nat → ClassId} {Z : (Nat → Prop) → State → Heap → Prop} {ad : Nat → Nat} {μ0 : fm_Mu} {A : Nat → Prop}  (S : CallFix p m c c_Mo_isEnough 4 s args wA "ArithmeticFormsModel") (hK : va_K D clsA (tysA cs) s) (hZo : fm_Zok Z) (hZ : Z A s s.heap) (hA : ∀ q, s.heap.size ≤ q → A q) (V : Nat → Int) (M0 : Nat → Int → Int) (nb NB R : Nat) (xb sb : Int) (hgb : Rg M0 1 nb NB xb sb) (hrs : Rs M0 nb R) (hnb : nb ≤ 38) (n : Int) (hnn : n = nb) (kk60 : ∀ (M : Nat → Int → Int) (k : Int) (H : Heap) (locs : List Loc) (ls : Array Slot), (M = M0) → (R = NB) → lv_has ls 4 [(2, .int (iN (k))), (0, .ref (ad 0)), (1, .int (iN (n)))] → moW D A s.heap μ0 cs ad V M H locs → W p l e ({ frames := 0, cells := 0, slots := 0, locals := 0 }) s m args below meth c H locs 0 0 Q (F0 m 60 ls [])) (kk44 : ∀ (M : Nat → Int → Int) (k : Int) (z : Int) (H : Heap) (locs : List Loc) (ls : Array Slot), (M = M0) → (ordOk R NB z ∧ z ≠ 0) → lv_has ls 4 [(3, .int (iN (z))), (2, .int (iN (k))), (0, .ref (ad 0)), (1, .int (iN (n)))] → moW D A s.heap μ0 cs ad V M H locs → W p l e ({ frames := 0, cells := 0, slots := 0, locals := 0 }) s m args below meth c H locs 0 0 Q (F0 m 44 ls [])) : ∀ (fu : Nat) (M : Nat → Int → Int) (k : Int) (H : Heap) (locs : List Loc) (ls : Array Slot), k + 1 < (fu : Int) → (M = M0) → (-1 ≤ k ∧ k ≤ n) → (R / 10 ^ (k + 1).toNat = NB / 10 ^ (k + 1).toNat) → lv_has ls 4 [(2, .int (iN (k))), (0, .ref (ad 0)), (1, .int (iN (n)))] → moW D A s.heap μ0 cs ad V M H locs → W p l e ({ frames := 0, cells := 0, slots := 0, locals := 0 }) s m args below meth c H locs 0 0 Q (F0 m 9 ls []) := by
  obtain ⟨hx, hb, hml, hown, hts⟩ := id S
  intro fu
  induction fu with
  | zero =>
    intro M k H locs ls hn hM0 hk hq hl hm
    exfalso; omega
  | succ fu ih =>
    intro M k H locs ls hn hM0 hk hq hl hm
    refine lv_iload_n hx hb d_Mo_isEnough_9 rfl (lv_at hl 0 rfl) ?_
    refine fm_if_lt (tgt := 60) S (by omega) d_Mo_isEnough_10 (by decide) (fun c1 => ?_) (fun c1 => ?_)
    · exact kk60 M k _ _ _ (hM0) (by rw [show (k + 1).toNat = 0 by omega] at hq; simpa using hq) (lv_sub hl [0, 1, 2] rfl) hm
    · obtain ⟨kk, hkk⟩ : ∃ kk : Nat, k = kk := ⟨k.toNat, by omega⟩
      have hR : M 5 k = ((R / 10 ^ kk % 10 : Nat) : Int) := by rw [hM0, hkk]; exact hrs.dig (by omega)
      have hD1 : k < n → M 1 (320 + k) = ((NB / 10 ^ kk % 10 : Nat) : Int) := fun h => by
        rw [hM0, show (320 : Int) + k = 320 * 1 + k by omega, hgb.dig (by omega) (by omega), show k.toNat = kk by omega]
      have hD2 : ¬ k < n → (0 : Int) = ((NB / 10 ^ kk % 10 : Nat) : Int) := fun h => by rw [hgb.hi (by omega)]; rfl
      have hm1 := Nat.mod_lt (R / 10 ^ kk) (show 10 > 0 by decide)
      have hm2 := Nat.mod_lt (NB / 10 ^ kk) (show 10 > 0 by decide)
      have hi3 : (k + 1).toNat = kk + 1 := by omega
      rw [hi3] at hq
      refine lv_aload_n hx hb d_Mo_isEnough_13 rfl (lv_at hl 1 rfl) ?_
      refine mo_get 6 S hK hm (by decide) k472 rfl rfl d_Mo_isEnough_14 ?_
      refine lv_iload_n hx hb d_Mo_isEnough_17 rfl (lv_at hl 0 rfl) ?_
      refine mo_iald 5 S hK hm (by decide) (by simp only [moLen]; omega) d_Mo_isEnough_18 ?_
      refine mo_join (P := fun y => y = ((NB / 10 ^ kk % 10 : Nat) : Int)) (g := fun y => F0 m 38 ls ([.int (iN (y)), .int (iN ((M 5 k)))])) (fun y hy => ?_) (fun key => ?_)
      · refine fm_isub S d_Mo_isEnough_38 ?_
        refine fm_topi (fun x2 hx2 => ?_)
        refine lv_istore_n (lv' := [(3, .int (iN (x2))), (2, .int (iN (k))), (0, .ref (ad 0)), (1, .int (iN (n)))]) hx hb d_Mo_isEnough_39 rfl hl (by decide) rfl (fun ls hl => ?_)
        refine lv_iload_n hx hb d_Mo_isEnough_40 rfl (lv_at hl 0 rfl) ?_
        refine fm_if_eq (tgt := 54) S (by omega) d_Mo_isEnough_41 (by decide) (fun c3 => ?_) (fun c3 => ?_)
        · refine lv_iinc (v := iN ((k + (-1)))) (lv' := [(2, .int (iN ((k + (-1))))), (3, .int (iN (x2))), (0, .ref (ad 0)), (1, .int (iN (n)))]) hx hb d_Mo_isEnough_54 hl (k := 1) rfl (iN_add _ _) (by decide) rfl (fun ls hl => ?_)
          refine lv_goto (tgt := 9) hx hb d_Mo_isEnough_57 (by decide) ?_
          exact ih M (k + -1) _ _ _ (by omega) (hM0) (by omega) (by rw [show (k + -1 + 1).toNat = kk by omega]; exact nat_same hq (by omega)) (lv_sub hl [0, 2, 3] rfl) hm
        · exact kk44 M k x2 _ _ _ (hM0) (⟨⟨by omega, by omega, fun h => nat_top hq (by omega), fun h => nat_top hq.symm (by omega), fun h => absurd h c3⟩, c3⟩) (lv_sub hl [0, 1, 2, 3] rfl) hm
      · refine lv_iload_n hx hb d_Mo_isEnough_19 rfl (lv_at hl 0 rfl) ?_
        refine lv_iload_n hx hb d_Mo_isEnough_20 rfl (lv_at hl 2 rfl) ?_
        refine fm_icmp_ge (tgt := 37) S (by omega) (by omega) d_Mo_isEnough_21 (by decide) (fun c4 => ?_) (fun c4 => ?_)
        · refine fm_iconst S d_Mo_isEnough_37 ?_
          exact key _ (by first | exact hD1 (by omega) | exact hD2 (by omega))
        · refine lv_aload_n hx hb d_Mo_isEnough_24 rfl (lv_at hl 1 rfl) ?_
          refine mo_get 2 S hK hm (by decide) k468 rfl rfl d_Mo_isEnough_25 ?_
          refine fm_sipush S d_Mo_isEnough_28 (by decide) ?_
          refine lv_iload_n hx hb d_Mo_isEnough_31 rfl (lv_at hl 0 rfl) ?_
          refine fm_iadd S d_Mo_isEnough_32 ?_
          refine mo_iald 1 S hK hm (by decide) (by simp only [moLen]; omega) d_Mo_isEnough_33 ?_
          refine lv_goto (tgt := 38) hx hb d_Mo_isEnough_34 (by decide) ?_
          exact key _ (by first | exact hD1 (by omega) | exact hD2 (by omega))

set_option maxHeartbeats 4000000 in
set_option maxRecDepth 100000 in
/-- isEnough() -/
theorem t_Mo_isEnough (l : Launch) (D : va_G) (cs : Nat → ClassId) (Z : (Nat → Prop) → State → Heap → Prop) (hZo : fm_Zok Z) (ad : Nat → Nat) (μ : fm_Mu) (V : Nat → Int) (M : Nat → Int → Int) (sz : Nat) (nb : Nat) (NB : Nat) (R : Nat) (xb : Int) (sb : Int) (hM : moS cs μ ad V M) (hgb : Rg M 1 nb NB xb sb) (hrs : Rs M nb R) (hnb : nb ≤ 38) : Met l y_Mo_isEnough (Cond.code y_Mo_isEnough c_Mo_isEnough 4 (some .boolean) :: wA) ({ frames := 0, cells := 0, slots := 0, locals := 0 }) (fm_Pc D clsA (tysA cs) Z μ sz [.ref (ad 0)]) (moQi D cs ad μ sz (fun z V' M' => V' = V ∧ M' = M ∧ ((z = 1 ∧ NB ≤ R) ∨ (z = 0 ∧ R < NB)))) 0 0 (fm_A μ sz) := by
  refine mo_of hM (by decide +kernel) (Nat.le_of_ble_eq_true rfl) (fun p e s m below meth c S hr hlocks hsz hm hK hZ hA ls hl => ?_)
  subst hsz
  obtain ⟨hx, hb, hml, hown, hts⟩ := id S
  have hl : lv_has ls 4 [(0, .ref (ad 0))] := hl
  have e21 := hgb.1
  refine lv_aload_n hx hb d_Mo_isEnough_0 rfl (lv_at hl 0 rfl) ?_
  refine mo_get 3 S hK hm (by decide) k469 rfl rfl d_Mo_isEnough_1 ?_
  refine fm_iconst S d_Mo_isEnough_4 ?_
  refine mo_iald 2 S hK hm (by decide) (by simp only [moLen]; omega) d_Mo_isEnough_5 ?_
  refine fm_topi (fun x1 hx1 => ?_)
  refine lv_istore_n (lv' := [(1, .int (iN (x1))), (0, .ref (ad 0))]) hx hb d_Mo_isEnough_6 rfl hl (by decide) rfl (fun ls hl => ?_)
  refine lv_iload_n hx hb d_Mo_isEnough_7 rfl (lv_at hl 0 rfl) ?_
  refine lv_istore_n (lv' := [(2, .int (iN (x1))), (1, .int (iN (x1))), (0, .ref (ad 0))]) hx hb d_Mo_isEnough_8 rfl hl (by decide) rfl (fun ls hl => ?_)
  refine L_en (Z := Z) S hK hZo hZ hA V M nb NB R xb sb hgb hrs hnb x1 (by omega) (fun M1 k H locs ls hM1 hq hl hm => ?_) (fun M1 k z H locs ls hM1 hq hl hm => ?_) (nb + 2) M x1 _ _ _ (by omega) rfl (by omega) (by rw [show (x1 + 1).toNat = nb + 1 by omega, Nat.div_eq_of_lt hrs.lt, hgb.hi (by omega)]) (lv_sub hl [0, 2, 1] rfl) hm
  · refine fm_iconst S d_Mo_isEnough_60 ?_
    refine mo_zret S hr hlocks hK hm (by omega) d_Mo_isEnough_61 ?_
    exact ⟨rfl, hM1, by omega⟩
  · obtain ⟨⟨ho1, ho2, ho3, ho4, ho5⟩, ho6⟩ := hq
    refine lv_iload_n hx hb d_Mo_isEnough_44 rfl (lv_at hl 0 rfl) ?_
    refine fm_if_le (tgt := 52) S (by omega) d_Mo_isEnough_45 (by decide) (fun c2 => ?_) (fun c2 => ?_)
    · refine fm_iconst S d_Mo_isEnough_52 ?_
      refine mo_zret S hr hlocks hK hm (by omega) d_Mo_isEnough_53 ?_
      exact ⟨rfl, hM1, by omega⟩
    · refine fm_iconst S d_Mo_isEnough_48 ?_
      refine lv_goto (tgt := 53) hx hb d_Mo_isEnough_49 (by decide) ?_
      refine mo_zret S hr hlocks hK hm (by omega) d_Mo_isEnough_53 ?_
      exact ⟨rfl, hM1, by omega⟩

set_option maxHeartbeats 4000000 in
set_option maxRecDepth 100000 in
/-- L_le -/
theorem L_le {p : Program} {l : Launch} {e : Env} {s : State} {m : MethodId} {args : Array Value} {below : List Frame} {meth : Method} {c : Code} {Q : State → Prop} {D : va_G} {cs : Nat → ClassId} {Z : (Nat → Prop) → State → Heap → Prop} {ad : Nat → Nat} {μ0 : fm_Mu} {A : Nat → Prop}  (S : CallFix p m c c_Mo_lessen 4 s args wA "ArithmeticFormsModel") (hK : va_K D clsA (tysA cs) s) (hZo : fm_Zok Z) (hZ : Z A s s.heap) (hA : ∀ q, s.heap.size ≤ q → A q) (V : Nat → Int) (M0 : Nat → Int → Int) (nb NB R : Nat) (xb sb : Int) (hgb : Rg M0 1 nb NB xb sb) (hrs : Rs M0 nb R) (hnb : nb ≤ 38) (kk76 : ∀ (M : Nat → Int → Int) (k : Int) (cy : Int) (kk : Nat) (H : Heap) (locs : List Loc) (ls : Array Slot), (kk = nb + 1) → (LsI M0 M nb kk cy R NB) → lv_has ls 4 [(2, .int (iN (k))), (1, .int (iN (cy))), (0, .ref (ad 0))] → moW D A s.heap μ0 cs ad V M H locs → W p l e ({ frames := 0, cells := 0, slots := 0, locals := 0 }) s m args below meth c H locs 0 0 Q (F0 m 76 ls [])) : ∀ (fu : Nat) (M : Nat → Int → Int) (k : Int) (cy : Int) (kk : Nat) (H : Heap) (locs : List Loc) (ls : Array Slot), nb + 1 - k < (fu : Int) → (k = kk ∧ kk ≤ nb + 1) → (LsI M0 M nb kk cy R NB) → lv_has ls 4 [(2, .int (iN (k))), (1, .int (iN (cy))), (0, .ref (ad 0))] → moW D A s.heap μ0 cs ad V M H locs → W p l e ({ frames := 0, cells := 0, slots := 0, locals := 0 }) s m args below meth c H locs 0 0 Q (F0 m 4 ls []) := by
  obtain ⟨hx, hb, hml, hown, hts⟩ := id S
  intro fu
  induction fu with
  | zero =>
    intro M k cy kk H locs ls hn hk hc hl hm
    exfalso; omega
  | succ fu ih =>
    intro M k cy kk H locs ls hn hk hc hl hm
    have e21 : M 2 1 = nb := by rw [hc.1 2 (by decide)]; exact hgb.1
    refine lv_iload_n hx hb d_Mo_lessen_4 rfl (lv_at hl 0 rfl) ?_
    refine lv_aload_n hx hb d_Mo_lessen_5 rfl (lv_at hl 2 rfl) ?_
    refine mo_get 3 S hK hm (by decide) k469 rfl rfl d_Mo_lessen_6 ?_
    refine fm_iconst S d_Mo_lessen_9 ?_
    refine mo_iald 2 S hK hm (by decide) (by simp only [moLen]; omega) d_Mo_lessen_10 ?_
    refine fm_icmp_gt (tgt := 76) S (by omega) (by omega) d_Mo_lessen_11 (by decide) (fun c1 => ?_) (fun c1 => ?_)
    · exact kk76 M k cy kk _ _ _ (by omega) (hc) (lv_sub hl [0, 1, 2] rfl) hm
    · have hR := hc.2.1 k (by omega) (by omega)
      rw [Int.zero_add] at hR
      have hD1 : k < nb → M 1 (320 + k) = ((NB / 10 ^ kk % 10 : Nat) : Int) := fun h => by
        rw [hc.1 1 (by decide), show (320 : Int) + k = 320 * 1 + k by omega, hgb.dig (by omega) (by omega), show k.toNat = kk by omega]
      have hD2 : ¬ k < nb → (0 : Int) = ((NB / 10 ^ kk % 10 : Nat) : Int) := fun h => by rw [hgb.hi (by omega)]; rfl
      have hm2 := Nat.mod_lt (NB / 10 ^ kk) (show 10 > 0 by decide)
      have hc3 := hc.2.2.1
      have hc4 := hc.2.2.2.1
      refine lv_aload_n hx hb d_Mo_lessen_14 rfl (lv_at hl 2 rfl) ?_
      refine mo_get 6 S hK hm (by decide) k472 rfl rfl d_Mo_lessen_15 ?_
      refine lv_iload_n hx hb d_Mo_lessen_18 rfl (lv_at hl 0 rfl) ?_
      refine mo_iald 5 S hK hm (by decide) (by simp only [moLen]; omega) d_Mo_lessen_19 ?_
      refine mo_join (P := fun y => y = ((NB / 10 ^ kk % 10 : Nat) : Int)) (g := fun y => F0 m 44 ls ([.int (iN (y)), .int (iN ((M 5 k)))])) (fun y hy => ?_) (fun key => ?_)
      · refine fm_isub S d_Mo_lessen_44 ?_
        refine lv_iload_n hx hb d_Mo_lessen_45 rfl (lv_at hl 1 rfl) ?_
        refine fm_iadd S d_Mo_lessen_46 ?_
        refine fm_topi (fun x2 hx2 => ?_)
        refine lv_istore_n (lv' := [(3, .int (iN (x2))), (2, .int (iN (k))), (1, .int (iN (cy))), (0, .ref (ad 0))]) hx hb d_Mo_lessen_47 rfl hl (by decide) rfl (fun ls hl => ?_)
        refine mo_join (P := fun y2 => (x2 < 0 ∧ y2 = -1) ∨ (0 ≤ x2 ∧ y2 = 0)) (g := fun y2 => F0 m 57 ls ([.int (iN (y2))])) (fun y2 hy2 => ?_) (fun key => ?_)
        · refine lv_istore_n (lv' := [(1, .int (iN (y2))), (3, .int (iN (x2))), (2, .int (iN (k))), (0, .ref (ad 0))]) hx hb d_Mo_lessen_57 rfl hl (by decide) rfl (fun ls hl => ?_)
          refine lv_aload_n hx hb d_Mo_lessen_58 rfl (lv_at hl 3 rfl) ?_
          refine mo_get 6 S hK hm (by decide) k472 rfl rfl d_Mo_lessen_59 ?_
          refine lv_iload_n hx hb d_Mo_lessen_62 rfl (lv_at hl 2 rfl) ?_
          refine lv_iload_n hx hb d_Mo_lessen_63 rfl (lv_at hl 1 rfl) ?_
          refine fm_bipush S d_Mo_lessen_64 (by decide) ?_
          refine lv_iload_n hx hb d_Mo_lessen_66 rfl (lv_at hl 0 rfl) ?_
          refine fm_imul S d_Mo_lessen_67 ?_
          refine fm_isub S d_Mo_lessen_68 ?_
          refine mo_iast 5 S hK hm (by decide) (by simp only [moLen]; omega) d_Mo_lessen_69 (fun M3 H locs eM3 hm => ?_)
          refine lv_iinc (v := iN ((k + 1))) (lv' := [(2, .int (iN ((k + 1)))), (1, .int (iN (y2))), (3, .int (iN (x2))), (0, .ref (ad 0))]) hx hb d_Mo_lessen_70 hl (k := 2) rfl (iN_add _ _) (by decide) rfl (fun ls hl => ?_)
          refine lv_goto (tgt := 4) hx hb d_Mo_lessen_73 (by decide) ?_
          exact ih M3 (k + 1) y2 (kk + 1) _ _ _ (by omega) (by omega) (hc.step (q := k) (by omega) (by omega) (by rw [hx2, hy]) hy2 eM3) (lv_sub hl [0, 1, 3] rfl) hm
        · refine lv_iload_n hx hb d_Mo_lessen_48 rfl (lv_at hl 0 rfl) ?_
          refine fm_if_ge (tgt := 56) S (by omega) d_Mo_lessen_49 (by decide) (fun c4 => ?_) (fun c4 => ?_)
          · refine fm_iconst S d_Mo_lessen_56 ?_
            exact key _ (by omega)
          · refine fm_iconst S d_Mo_lessen_52 ?_
            refine lv_goto (tgt := 57) hx hb d_Mo_lessen_53 (by decide) ?_
            exact key _ (by omega)
      · refine lv_iload_n hx hb d_Mo_lessen_20 rfl (lv_at hl 0 rfl) ?_
        refine lv_aload_n hx hb d_Mo_lessen_21 rfl (lv_at hl 2 rfl) ?_
        refine mo_get 3 S hK hm (by decide) k469 rfl rfl d_Mo_lessen_22 ?_
        refine fm_iconst S d_Mo_lessen_25 ?_
        refine mo_iald 2 S hK hm (by decide) (by simp only [moLen]; omega) d_Mo_lessen_26 ?_
        refine fm_icmp_ge (tgt := 43) S (by omega) (by omega) d_Mo_lessen_27 (by decide) (fun c5 => ?_) (fun c5 => ?_)
        · refine fm_iconst S d_Mo_lessen_43 ?_
          exact key _ (by first | exact hD1 (by omega) | exact hD2 (by omega))
        · refine lv_aload_n hx hb d_Mo_lessen_30 rfl (lv_at hl 2 rfl) ?_
          refine mo_get 2 S hK hm (by decide) k468 rfl rfl d_Mo_lessen_31 ?_
          refine fm_sipush S d_Mo_lessen_34 (by decide) ?_
          refine lv_iload_n hx hb d_Mo_lessen_37 rfl (lv_at hl 0 rfl) ?_
          refine fm_iadd S d_Mo_lessen_38 ?_
          refine mo_iald 1 S hK hm (by decide) (by simp only [moLen]; omega) d_Mo_lessen_39 ?_
          refine lv_goto (tgt := 44) hx hb d_Mo_lessen_40 (by decide) ?_
          exact key _ (by first | exact hD1 (by omega) | exact hD2 (by omega))

set_option maxHeartbeats 4000000 in
set_option maxRecDepth 100000 in
/-- lessen() -/
theorem t_Mo_lessen (l : Launch) (D : va_G) (cs : Nat → ClassId) (Z : (Nat → Prop) → State → Heap → Prop) (hZo : fm_Zok Z) (ad : Nat → Nat) (μ : fm_Mu) (V : Nat → Int) (M : Nat → Int → Int) (sz : Nat) (nb : Nat) (NB : Nat) (R : Nat) (xb : Int) (sb : Int) (hM : moS cs μ ad V M) (hgb : Rg M 1 nb NB xb sb) (hrs : Rs M nb R) (hnb : nb ≤ 38) (hle : NB ≤ R) : Met l y_Mo_lessen (Cond.code y_Mo_lessen c_Mo_lessen 4 none :: wA) ({ frames := 0, cells := 0, slots := 0, locals := 0 }) (fm_Pc D clsA (tysA cs) Z μ sz [.ref (ad 0)]) (moQv D cs ad μ sz (fun V' M' => V' = V ∧ (∀ j, j ≠ 5 → M' j = M j) ∧ Rs M' nb (R - NB))) 0 0 (fm_A μ sz) := by
  refine mo_of hM (by decide +kernel) (Nat.le_of_ble_eq_true rfl) (fun p e s m below meth c S hr hlocks hsz hm hK hZ hA ls hl => ?_)
  subst hsz
  obtain ⟨hx, hb, hml, hown, hts⟩ := id S
  have hl : lv_has ls 4 [(0, .ref (ad 0))] := hl
  refine fm_iconst S d_Mo_lessen_0 ?_
  refine lv_istore_n (lv' := [(1, .int (iN (0))), (0, .ref (ad 0))]) hx hb d_Mo_lessen_1 rfl hl (by decide) rfl (fun ls hl => ?_)
  refine fm_iconst S d_Mo_lessen_2 ?_
  refine lv_istore_n (lv' := [(2, .int (iN (0))), (1, .int (iN (0))), (0, .ref (ad 0))]) hx hb d_Mo_lessen_3 rfl hl (by decide) rfl (fun ls hl => ?_)
  refine L_le (Z := Z) S hK hZo hZ hA V M nb NB R xb sb hgb hrs hnb (fun M1 k cy kk H locs ls hk hc hl hm => ?_) (nb + 2) M 0 0 0 _ _ _ (by omega) (by omega) (LsI.start hrs) (lv_sub hl [0, 1, 2] rfl) hm
  refine mo_vret S hr hlocks hK hm d_Mo_lessen_76 ?_
  subst hk
  exact ⟨rfl, hc.fin hgb.lt hrs.lt hle⟩

set_option maxHeartbeats 4000000 in
set_option maxRecDepth 100000 in
/-- L_div1 -/
theorem L_div1 {p : Program} {l : Launch} {e : Env} {s : State} {m : MethodId} {args : Array Value} {below : List Frame} {meth : Method} {c : Code} {Q : State → Prop} {D : va_G} {cs : Nat → ClassId} {Z : (Nat → Prop) → State → Heap → Prop} {ad : Nat → Nat} {μ0 : fm_Mu} {A : Nat → Prop}  (S : CallFix p m c c_Mo_divide 5 s args wA "ArithmeticFormsModel") (hK : va_K D clsA (tysA cs) s) (hZo : fm_Zok Z) (hZ : Z A s s.heap) (hA : ∀ q, s.heap.size ≤ q → A q) (V : Nat → Int) (M0 : Nat → Int → Int) (na NA nb NB : Nat) (xa sa xb sb : Int) (hga : Rg M0 0 na NA xa sa) (hgb : Rg M0 1 nb NB xb sb) (hbd : na ≤ 100 ∧ nb ≤ 38 ∧ 0 < NB) (more n : Int) (mr nn DD : Nat) (hmr : more = mr ∧ n = nn ∧ nn = na + mr ∧ nn ≤ 320) (hDD : DD = NA * 10 ^ mr) (kk53 : ∀ (M : Nat → Int → Int) (k : Int) (H : Heap) (locs : List Loc) (ls : Array Slot), (∀ j, j ≠ 5 → M j = M0 j) → (∀ q : Int, 0 ≤ q → q < 40 → M 5 q = 0) → lv_has ls 5 [(3, .int (iN (k))), (0, .ref (ad 0)), (1, .int (iN (more))), (2, .int (iN (n)))] → moW D A s.heap μ0 cs ad V M H locs → W p l e ({ frames := 2, cells := 0, slots := 0, locals := 47 }) s m args below meth c H locs 0 0 Q (F0 m 53 ls [])) : ∀ (fu : Nat) (M : Nat → Int → Int) (k : Int) (H : Heap) (locs : List Loc) (ls : Array Slot), 40 - k < (fu : Int) → (0 ≤ k ∧ k ≤ 40) → (∀ j, j ≠ 5 → M j = M0 j) → (∀ q : Int, 0 ≤ q → q < k → M 5 q = 0) → lv_has ls 5 [(3, .int (iN (k))), (0, .ref (ad 0)), (1, .int (iN (more))), (2, .int (iN (n)))] → moW D A s.heap μ0 cs ad V M H locs → W p l e ({ frames := 2, cells := 0, slots := 0, locals := 47 }) s m args below meth c H locs 0 0 Q (F0 m 34 ls []) := by
  obtain ⟨hx, hb, hml, hown, hts⟩ := id S
  intro fu
  induction fu with
  | zero =>
    intro M k H locs ls hn hk hs hz hl hm
    exfalso; omega
  | succ fu ih =>
    intro M k H locs ls hn hk hs hz hl hm
    refine lv_iload_n hx hb d_Mo_divide_34 rfl (lv_at hl 0 rfl) ?_
    refine fm_bipush S d_Mo_divide_35 (by decide) ?_
    refine fm_icmp_ge (tgt := 53) S (by omega) (by omega) d_Mo_divide_37 (by decide) (fun c1 => ?_) (fun c1 => ?_)
    · exact kk53 M k _ _ _ (hs) (fun q h1 h2 => hz q h1 (by omega)) (lv_sub hl [0, 1, 2, 3] rfl) hm
    · refine lv_aload_n hx hb d_Mo_divide_40 rfl (lv_at hl 1 rfl) ?_
      refine mo_get 6 S hK hm (by decide) k472 rfl rfl d_Mo_divide_41 ?_
      refine lv_iload_n hx hb d_Mo_divide_44 rfl (lv_at hl 0 rfl) ?_
      refine fm_iconst S d_Mo_divide_45 ?_
      refine mo_iast 5 S hK hm (by decide) (by simp only [moLen]; omega) d_Mo_divide_46 (fun M2 H locs eM2 hm => ?_)
      refine lv_iinc (v := iN ((k + 1))) (lv' := [(3, .int (iN ((k + 1)))), (0, .ref (ad 0)), (1, .int (iN (more))), (2, .int (iN (n)))]) hx hb d_Mo_divide_47 hl (k := 0) rfl (iN_add _ _) (by decide) rfl (fun ls hl => ?_)
      refine lv_goto (tgt := 34) hx hb d_Mo_divide_50 (by decide) ?_
      exact ih M2 (k + 1) _ _ _ (by omega) (by omega) (fun j hj => by rw [eM2, setA_n hj]; exact hs j hj) (fun q h1 h2 => by
            rw [eM2, setA_s]
            by_cases hq : q = k
            · rw [hq, uI_s]
            · rw [uI_n hq]; exact hz q h1 (by omega)) (lv_sub hl [0, 1, 2, 3] rfl) hm

set_option maxHeartbeats 4000000 in
set_option maxRecDepth 100000 in
/-- L_div3 -/
theorem L_div3 {p : Program} {l : Launch} {e : Env} {s : State} {m : MethodId} {args : Array Value} {below : List Frame} {meth : Method} {c : Code} {Q : State → Prop} {D : va_G} {cs : Nat → ClassId} {Z : (Nat → Prop) → State → Heap → Prop} {ad : Nat → Nat} {μ0 : fm_Mu} {A : Nat → Prop}  (S : CallFix p m c c_Mo_divide 5 s args wA "ArithmeticFormsModel") (hK : va_K D clsA (tysA cs) s) (hZo : fm_Zok Z) (hZ : Z A s s.heap) (hA : ∀ q, s.heap.size ≤ q → A q) (V : Nat → Int) (M0 : Nat → Int → Int) (nb : Nat) (more n k : Int) (hnb : nb ≤ 38) (kk96 : ∀ (M : Nat → Int → Int) (i : Int) (H : Heap) (locs : List Loc) (ls : Array Slot), (ShI M0 M nb 0) → lv_has ls 5 [(4, .int (iN (i))), (0, .ref (ad 0)), (1, .int (iN (more))), (2, .int (iN (n))), (3, .int (iN (k)))] → moW D A s.heap μ0 cs ad V M H locs → W p l e ({ frames := 2, cells := 0, slots := 0, locals := 47 }) s m args below meth c H locs 0 0 Q (F0 m 96 ls [])) : ∀ (fu : Nat) (M : Nat → Int → Int) (i : Int) (H : Heap) (locs : List Loc) (ls : Array Slot), i < (fu : Int) → (0 ≤ i ∧ i ≤ nb) → (ShI M0 M nb i) → lv_has ls 5 [(4, .int (iN (i))), (0, .ref (ad 0)), (1, .int (iN (more))), (2, .int (iN (n))), (3, .int (iN (k)))] → moW D A s.heap μ0 cs ad V M H locs → W p l e ({ frames := 2, cells := 0, slots := 0, locals := 47 }) s m args below meth c H locs 0 0 Q (F0 m 69 ls []) := by
  obtain ⟨hx, hb, hml, hown, hts⟩ := id S
  intro fu
  induction fu with
  | zero =>
    intro M i H locs ls hn hi hc hl hm
    exfalso; omega
  | succ fu ih =>
    intro M i H locs ls hn hi hc hl hm
    refine lv_iload hx hb d_Mo_divide_69 (lv_at hl 0 rfl) ?_
    refine fm_if_le (tgt := 96) S (by omega) d_Mo_divide_71 (by decide) (fun c1 => ?_) (fun c1 => ?_)
    · exact kk96 M i _ _ _ (by rw [show i = 0 by omega] at hc; exact hc) (lv_sub hl [0, 1, 2, 3, 4] rfl) hm
    · refine lv_aload_n hx hb d_Mo_divide_74 rfl (lv_at hl 1 rfl) ?_
      refine mo_get 6 S hK hm (by decide) k472 rfl rfl d_Mo_divide_75 ?_
      refine lv_iload hx hb d_Mo_divide_78 (lv_at hl 0 rfl) ?_
      refine lv_aload_n hx hb d_Mo_divide_80 rfl (lv_at hl 1 rfl) ?_
      refine mo_get 6 S hK hm (by decide) k472 rfl rfl d_Mo_divide_81 ?_
      refine lv_iload hx hb d_Mo_divide_84 (lv_at hl 0 rfl) ?_
      refine fm_iconst S d_Mo_divide_86 ?_
      refine fm_isub S d_Mo_divide_87 ?_
      refine mo_iald 5 S hK hm (by decide) (by simp only [moLen]; omega) d_Mo_divide_88 ?_
      refine mo_iast 5 S hK hm (by decide) (by simp only [moLen]; omega) d_Mo_divide_89 (fun M2 H locs eM2 hm => ?_)
      refine lv_iinc (v := iN ((i + (-1)))) (lv' := [(4, .int (iN ((i + (-1))))), (0, .ref (ad 0)), (1, .int (iN (more))), (2, .int (iN (n))), (3, .int (iN (k)))]) hx hb d_Mo_divide_90 hl (k := 0) rfl (iN_add _ _) (by decide) rfl (fun ls hl => ?_)
      refine lv_goto (tgt := 69) hx hb d_Mo_divide_93 (by decide) ?_
      exact ih M2 (i + -1) _ _ _ (by omega) (by omega) (hc.step eM2) (lv_sub hl [0, 1, 2, 3, 4] rfl) hm

set_option maxHeartbeats 4000000 in
set_option maxRecDepth 100000 in
/-- L_div4 -/
theorem L_div4 {p : Program} {l : Launch} {e : Env} {s : State} {m : MethodId} {args : Array Value} {below : List Frame} {meth : Method} {c : Code} {Q : State → Prop} {D : va_G} {cs : Nat → ClassId} {Z : (Nat → Prop) → State → Heap → Prop} {ad : Nat → Nat} {μ0 : fm_Mu} {A : Nat → Prop}  (S : CallFix p m c c_Mo_divide 5 s args wA "ArithmeticFormsModel") (hK : va_K D clsA (tysA cs) s) (hZo : fm_Zok Z) (hZ : Z A s s.heap) (hA : ∀ q, s.heap.size ≤ q → A q) (V : Nat → Int) (M0 : Nat → Int → Int) (nb NB R' : Nat) (xb sb more n k : Int) (hgb : Rg M0 1 nb NB xb sb) (hnb : nb ≤ 38 ∧ 0 < NB) (kk141 : ∀ (M : Nat → Int → Int) (d : Int) (dd : Nat) (H : Heap) (locs : List Loc) (ls : Array Slot), (d = dd ∧ dd * NB ≤ R') → (∀ j, j ≠ 5 → M j = M0 j) → (Rs M nb (R' - dd * NB)) → (R' - dd * NB < NB) → lv_has ls 5 [(4, .int (iN (d))), (0, .ref (ad 0)), (1, .int (iN (more))), (2, .int (iN (n))), (3, .int (iN (k)))] → moW D A s.heap μ0 cs ad V M H locs → W p l e ({ frames := 2, cells := 0, slots := 0, locals := 47 }) s m args below meth c H locs 0 0 Q (F0 m 141 ls [])) : ∀ (fu : Nat) (M : Nat → Int → Int) (d : Int) (dd : Nat) (H : Heap) (locs : List Loc) (ls : Array Slot), ((R' - dd * NB : Nat) : Int) < (fu : Int) → (d = dd ∧ dd * NB ≤ R') → (∀ j, j ≠ 5 → M j = M0 j) → (Rs M nb (R' - dd * NB)) → lv_has ls 5 [(4, .int (iN (d))), (0, .ref (ad 0)), (1, .int (iN (more))), (2, .int (iN (n))), (3, .int (iN (k)))] → moW D A s.heap μ0 cs ad V M H locs → W p l e ({ frames := 2, cells := 0, slots := 0, locals := 47 }) s m args below meth c H locs 0 0 Q (F0 m 124 ls []) := by
  obtain ⟨hx, hb, hml, hown, hts⟩ := id S
  intro fu
  induction fu with
  | zero =>
    intro M d dd H locs ls hn hd hs hr hl hm
    exfalso; omega
  | succ fu ih =>
    intro M d dd H locs ls hn hd hs hr hl hm
    refine lv_aload_n hx hb d_Mo_divide_124 rfl (lv_at hl 1 rfl) ?_
    refine mo_ciS (n := 0) (As := []) (rest := []) S hK hZo hZ hA hm (fun μ sz hM => t_Mo_isEnough l D cs Z hZo ad μ V M sz nb NB (R' - dd * NB) xb sb hM (hgb.r5 hs) hr (by omega)) (gV k611 k613 ks34 k6 k614) (by decide) (by decide +kernel) rfl hl.1 rfl (Nat.le_of_ble_eq_true rfl) ⟨Nat.le_of_ble_eq_true rfl, Nat.le_of_ble_eq_true rfl⟩ d_Mo_divide_125 (fun x3 M2 H locs q1 hm => ?_)
    rw [q1.1] at hm
    have hqe := q1.2
    refine fm_if_eq (tgt := 141) S (by omega) d_Mo_divide_128 (by decide) (fun c4 => ?_) (fun c4 => ?_)
    · exact kk141 M d dd _ _ _ (hd) (hs) (hr) (by omega) (lv_sub hl [0, 1, 2, 3, 4] rfl) hm
    · refine lv_aload_n hx hb d_Mo_divide_131 rfl (lv_at hl 1 rfl) ?_
      refine mo_cvS (n := 0) (As := []) (rest := []) S hK hZo hZ hA hm (fun μ sz hM => t_Mo_lessen l D cs Z hZo ad μ V M sz nb NB (R' - dd * NB) xb sb hM (hgb.r5 hs) hr (by omega) (by omega)) (gV k615 k617 ks35 k6 k618) (by decide) (by decide +kernel) rfl hl.1 rfl (Nat.le_of_ble_eq_true rfl) ⟨Nat.le_of_ble_eq_true rfl, Nat.le_of_ble_eq_true rfl⟩ d_Mo_divide_132 (fun M6 H locs q5 hm => ?_)
      have hmul : (dd + 1) * NB = dd * NB + NB := by rw [Nat.add_mul, Nat.one_mul]
      refine lv_iinc (v := iN ((d + 1))) (lv' := [(4, .int (iN ((d + 1)))), (0, .ref (ad 0)), (1, .int (iN (more))), (2, .int (iN (n))), (3, .int (iN (k)))]) hx hb d_Mo_divide_135 hl (k := 0) rfl (iN_add _ _) (by decide) rfl (fun ls hl => ?_)
      refine lv_goto (tgt := 124) hx hb d_Mo_divide_138 (by decide) ?_
      exact ih M6 (d + 1) (dd + 1) _ _ _ (by omega) (by rw [Nat.add_mul, Nat.one_mul]; omega) (fun j hj => (q5.1 j hj).trans (hs j hj)) (by rw [Nat.add_mul, Nat.one_mul, ← Nat.sub_sub]; exact q5.2) (lv_sub hl [0, 1, 2, 3, 4] rfl) hm

set_option maxHeartbeats 4000000 in
set_option maxRecDepth 100000 in
/-- L_div2 -/
theorem L_div2 {p : Program} {l : Launch} {e : Env} {s : State} {m : MethodId} {args : Array Value} {below : List Frame} {meth : Method} {c : Code} {Q : State → Prop} {D : va_G} {cs : Nat → ClassId} {Z : (Nat → Prop) → State → Heap → Prop} {ad : Nat → Nat} {μ0 : fm_Mu} {A : Nat → Prop}  (S : CallFix p m c c_Mo_divide 5 s args wA "ArithmeticFormsModel") (hK : va_K D clsA (tysA cs) s) (hZo : fm_Zok Z) (hZ : Z A s s.heap) (hA : ∀ q, s.heap.size ≤ q → A q) (V : Nat → Int) (M0 : Nat → Int → Int) (na NA nb NB : Nat) (xa sa xb sb : Int) (hga : Rg M0 0 na NA xa sa) (hgb : Rg M0 1 nb NB xb sb) (hbd : na ≤ 100 ∧ nb ≤ 38 ∧ 0 < NB) (more n : Int) (mr nn DD : Nat) (hmr : more = mr ∧ n = nn ∧ nn = na + mr ∧ nn ≤ 320) (hDD : DD = NA * 10 ^ mr) (kk159 : ∀ (M : Nat → Int → Int) (k : Int) (kk : Nat) (H : Heap) (locs : List Loc) (ls : Array Slot), (DvI M0 M nn nb 0 DD NB) → lv_has ls 5 [(3, .int (iN (k))), (0, .ref (ad 0)), (1, .int (iN (more))), (2, .int (iN (n)))] → moW D A s.heap μ0 cs ad V M H locs → W p l e ({ frames := 2, cells := 0, slots := 0, locals := 47 }) s m args below meth c H locs 0 0 Q (F0 m 159 ls [])) : ∀ (fu : Nat) (M : Nat → Int → Int) (k : Int) (kk : Nat) (H : Heap) (locs : List Loc) (ls : Array Slot), k + 1 < (fu : Int) → (k = (kk : Int) - 1 ∧ kk ≤ nn) → (DvI M0 M nn nb kk DD NB) → lv_has ls 5 [(3, .int (iN (k))), (0, .ref (ad 0)), (1, .int (iN (more))), (2, .int (iN (n)))] → moW D A s.heap μ0 cs ad V M H locs → W p l e ({ frames := 2, cells := 0, slots := 0, locals := 47 }) s m args below meth c H locs 0 0 Q (F0 m 57 ls []) := by
  obtain ⟨hx, hb, hml, hown, hts⟩ := id S
  intro fu
  induction fu with
  | zero =>
    intro M k kk H locs ls hn hk hc hl hm
    exfalso; omega
  | succ fu ih =>
    intro M k kk H locs ls hn hk hc hl hm
    have g0 := hc.1.rg (by decide) (by omega) hga
    have g1 := hc.1.rg (by decide) (by omega) hgb
    have e21 := g1.1
    refine lv_iload_n hx hb d_Mo_divide_57 rfl (lv_at hl 0 rfl) ?_
    refine fm_if_lt (tgt := 159) S (by omega) d_Mo_divide_58 (by decide) (fun c1 => ?_) (fun c1 => ?_)
    · exact kk159 M k kk _ _ _ (by rw [show kk = 0 by omega] at hc; exact hc) (lv_sub hl [0, 1, 2, 3] rfl) hm
    · obtain ⟨j, rfl⟩ : ∃ j : Nat, kk = j + 1 := ⟨kk - 1, by omega⟩
      refine lv_aload_n hx hb d_Mo_divide_61 rfl (lv_at hl 1 rfl) ?_
      refine mo_get 3 S hK hm (by decide) k469 rfl rfl d_Mo_divide_62 ?_
      refine fm_iconst S d_Mo_divide_65 ?_
      refine mo_iald 2 S hK hm (by decide) (by simp only [moLen]; omega) d_Mo_divide_66 ?_
      refine fm_topi (fun x2 hx2 => ?_)
      refine lv_istore (lv' := [(4, .int (iN (x2))), (3, .int (iN (k))), (0, .ref (ad 0)), (1, .int (iN (more))), (2, .int (iN (n)))]) hx hb d_Mo_divide_67 hl (by decide) rfl (fun ls hl => ?_)
      refine L_div3 (Z := Z) S hK hZo hZ hA V M nb more n k (by omega) (fun M3 i H locs ls hsh hl hm => ?_) (nb + 1) M x2 _ _ _ (by omega) (by omega) (by rw [hx2, e21]; exact ShI.start _ _) (lv_sub hl [0, 2, 3, 4, 1] rfl) hm
      have hA1 : more ≤ k → M3 1 (0 + k - more) = ((DD / 10 ^ j % 10 : Nat) : Int) := fun h => by
        rw [hsh.1 1 (by decide), show (0 : Int) + k - more = 320 * 0 + (k - more) by omega, g0.dig (by omega) (by omega), hDD, div_dig, if_pos (by omega), show (k - more).toNat = j - mr by omega]
      have hA2 : ¬ more ≤ k → (0 : Int) = ((DD / 10 ^ j % 10 : Nat) : Int) := fun h => by rw [hDD, div_dig, if_neg (by omega)]; rfl
      have hm1 := Nat.mod_lt (DD / 10 ^ j) (show 10 > 0 by decide)
      refine lv_aload_n hx hb d_Mo_divide_96 rfl (lv_at hl 1 rfl) ?_
      refine mo_get 6 S hK hm (by decide) k472 rfl rfl d_Mo_divide_97 ?_
      refine fm_iconst S d_Mo_divide_100 ?_
      refine mo_join (P := fun y => y = ((DD / 10 ^ j % 10 : Nat) : Int)) (g := fun y => F0 m 120 ls ([.int (iN (y)), .int (iN (0)), .ref (ad 5)])) (fun y hy => ?_) (fun key => ?_)
      · refine mo_iast 5 S hK hm (by decide) (by simp only [moLen]; omega) d_Mo_divide_120 (fun M4 H locs eM4 hm => ?_)
        refine fm_iconst S d_Mo_divide_121 ?_
        refine lv_istore (lv' := [(4, .int (iN (0))), (0, .ref (ad 0)), (1, .int (iN (more))), (2, .int (iN (n))), (3, .int (iN (k)))]) hx hb d_Mo_divide_122 hl (by decide) rfl (fun ls hl => ?_)
        have hlt := Nat.mod_lt (DD / 10 ^ (j + 1)) hbd.2.2
        obtain ⟨hs1, hr1⟩ := hsh.fin hc.2.2.2.2 (Nat.lt_trans hlt hgb.lt) (by omega) eM4
        obtain ⟨R', hR'⟩ : ∃ R' : Nat, R' = 10 * (DD / 10 ^ (j + 1) % NB) + DD / 10 ^ j % 10 := ⟨_, rfl⟩
        rw [show y.toNat = DD / 10 ^ j % 10 by omega, ← hR'] at hr1
        refine L_div4 (Z := Z) S hK hZo hZ hA V M4 nb NB R' xb sb more n k (g1.r5 hs1) (by omega) (fun M5 d dd H locs ls hd hs2 hr2 hl2 hl hm => ?_) (R' + 1) M4 0 0 _ _ _ (by omega) (by omega) (fun _ _ => rfl) (by simpa using hr1) (lv_sub hl [0, 1, 2, 3, 4] rfl) hm
        refine lv_aload_n hx hb d_Mo_divide_141 rfl (lv_at hl 1 rfl) ?_
        refine mo_get 2 S hK hm (by decide) k468 rfl rfl d_Mo_divide_142 ?_
        refine fm_sipush S d_Mo_divide_145 (by decide) ?_
        refine lv_iload_n hx hb d_Mo_divide_148 rfl (lv_at hl 4 rfl) ?_
        refine fm_iadd S d_Mo_divide_149 ?_
        refine lv_iload hx hb d_Mo_divide_150 (lv_at hl 0 rfl) ?_
        refine mo_iast 1 S hK hm (by decide) (by simp only [moLen]; omega) d_Mo_divide_152 (fun M6 H locs eM6 hm => ?_)
        refine lv_iinc (v := iN ((k + (-1)))) (lv' := [(3, .int (iN ((k + (-1))))), (4, .int (iN (d))), (0, .ref (ad 0)), (1, .int (iN (more))), (2, .int (iN (n)))]) hx hb d_Mo_divide_153 hl (k := 4) rfl (iN_add _ _) (by decide) rfl (fun ls hl => ?_)
        refine lv_goto (tgt := 57) hx hb d_Mo_divide_156 (by decide) ?_
        exact ih M6 (k + -1) j _ _ _ (by omega) (by omega) (hc.step (by omega) (by omega) hbd.2.2 hR' hs1 hs2 hd.2 hr2 hl2 (by omega) hd.1 eM6) (lv_sub hl [0, 2, 3, 4] rfl) hm
      · refine lv_iload_n hx hb d_Mo_divide_101 rfl (lv_at hl 4 rfl) ?_
        refine lv_iload_n hx hb d_Mo_divide_102 rfl (lv_at hl 2 rfl) ?_
        refine fm_icmp_lt (tgt := 119) S (by omega) (by omega) d_Mo_divide_103 (by decide) (fun c7 => ?_) (fun c7 => ?_)
        · refine fm_iconst S d_Mo_divide_119 ?_
          exact key _ (by first | exact hA1 (by omega) | exact hA2 (by omega))
        · refine lv_aload_n hx hb d_Mo_divide_106 rfl (lv_at hl 1 rfl) ?_
          refine mo_get 2 S hK hm (by decide) k468 rfl rfl d_Mo_divide_107 ?_
          refine fm_iconst S d_Mo_divide_110 ?_
          refine lv_iload_n hx hb d_Mo_divide_111 rfl (lv_at hl 4 rfl) ?_
          refine fm_iadd S d_Mo_divide_112 ?_
          refine lv_iload_n hx hb d_Mo_divide_113 rfl (lv_at hl 2 rfl) ?_
          refine fm_isub S d_Mo_divide_114 ?_
          refine mo_iald 1 S hK hm (by decide) (by simp only [moLen]; omega) d_Mo_divide_115 ?_
          refine lv_goto (tgt := 120) hx hb d_Mo_divide_116 (by decide) ?_
          exact key _ (by first | exact hA1 (by omega) | exact hA2 (by omega))

set_option maxHeartbeats 4000000 in
set_option maxRecDepth 100000 in
/-- divide() -/
theorem t_Mo_divide (l : Launch) (D : va_G) (cs : Nat → ClassId) (Z : (Nat → Prop) → State → Heap → Prop) (hZo : fm_Zok Z) (ad : Nat → Nat) (μ : fm_Mu) (V : Nat → Int) (M : Nat → Int → Int) (sz : Nat) (most : Nat) (na : Nat) (NA : Nat) (nb : Nat) (NB : Nat) (xa : Int) (sa : Int) (xb : Int) (sb : Int) (hM : moS cs μ ad V M) (hga : Rg M 0 na NA xa sa) (hgb : Rg M 1 nb NB xb sb) (hbd : na ≤ 100 ∧ nb ≤ 38 ∧ -150 ≤ xa ∧ -150 ≤ xb ∧ xa ≤ 150 ∧ xb ≤ 150) (hnz : nb ≠ 0 → NB ≠ 0) (hsz : -1 ≤ sa ∧ sa ≤ 1 ∧ -1 ≤ sb ∧ sb ≤ 1) (hpr : V 1 = (most : Int) ∧ 1 ≤ most ∧ most ≤ 31) : Met l y_Mo_divide (Cond.code y_Mo_divide c_Mo_divide 5 (some .int) :: wA) ({ frames := 2, cells := 0, slots := 0, locals := 47 }) (fm_Pc D clsA (tysA cs) Z μ sz [.ref (ad 0)]) (moQi D cs ad μ sz (fun z V' M' => V' = V ∧ Fr M M' 2 ∧ ((NB = 0 ∧ z = 2) ∨ (NB ≠ 0 ∧ cutOk M' 2 most (NA * 10 ^ (most + nb) / NB) (xa - (most + nb : Nat) - xb) (sa * sb) z)))) 0 0 (fm_A μ sz) := by
  refine mo_of hM (by decide +kernel) (Nat.le_of_ble_eq_true rfl) (fun p e s m below meth c S hr hlocks hsz hm hK hZ hA ls hl => ?_)
  subst hsz
  obtain ⟨hx, hb, hml, hown, hts⟩ := id S
  have hl : lv_has ls 5 [(0, .ref (ad 0))] := hl
  have e20 := hga.1
  have e21 := hgb.1
  have e30 := hga.2.1
  have e31 := hgb.2.1
  have e40 := hga.2.2.1
  have e41 := hgb.2.2.1
  refine lv_aload_n hx hb d_Mo_divide_0 rfl (lv_at hl 0 rfl) ?_
  refine mo_get 3 S hK hm (by decide) k469 rfl rfl d_Mo_divide_1 ?_
  refine fm_iconst S d_Mo_divide_4 ?_
  refine mo_iald 2 S hK hm (by decide) (by simp only [moLen]; omega) d_Mo_divide_5 ?_
  refine fm_if_ne (tgt := 11) S (by omega) d_Mo_divide_6 (by decide) (fun c1 => ?_) (fun c1 => ?_)
  · refine lv_aload_n hx hb d_Mo_divide_11 rfl (lv_at hl 0 rfl) ?_
    refine mo_get 1 S hK hm (by decide) k467 rfl rfl d_Mo_divide_12 ?_
    refine lv_aload_n hx hb d_Mo_divide_15 rfl (lv_at hl 0 rfl) ?_
    refine mo_get 3 S hK hm (by decide) k469 rfl rfl d_Mo_divide_16 ?_
    refine fm_iconst S d_Mo_divide_19 ?_
    refine mo_iald 2 S hK hm (by decide) (by simp only [moLen]; omega) d_Mo_divide_20 ?_
    refine fm_iadd S d_Mo_divide_21 ?_
    refine fm_topi (fun x2 hx2 => ?_)
    refine lv_istore_n (lv' := [(1, .int (iN (x2))), (0, .ref (ad 0))]) hx hb d_Mo_divide_22 rfl hl (by decide) rfl (fun ls hl => ?_)
    refine lv_aload_n hx hb d_Mo_divide_23 rfl (lv_at hl 1 rfl) ?_
    refine mo_get 3 S hK hm (by decide) k469 rfl rfl d_Mo_divide_24 ?_
    refine fm_iconst S d_Mo_divide_27 ?_
    refine mo_iald 2 S hK hm (by decide) (by simp only [moLen]; omega) d_Mo_divide_28 ?_
    refine lv_iload_n hx hb d_Mo_divide_29 rfl (lv_at hl 0 rfl) ?_
    refine fm_iadd S d_Mo_divide_30 ?_
    refine fm_topi (fun x3 hx3 => ?_)
    refine lv_istore_n (lv' := [(2, .int (iN (x3))), (1, .int (iN (x2))), (0, .ref (ad 0))]) hx hb d_Mo_divide_31 rfl hl (by decide) rfl (fun ls hl => ?_)
    refine fm_iconst S d_Mo_divide_32 ?_
    refine lv_istore_n (lv' := [(3, .int (iN (0))), (2, .int (iN (x3))), (1, .int (iN (x2))), (0, .ref (ad 0))]) hx hb d_Mo_divide_33 rfl hl (by decide) rfl (fun ls hl => ?_)
    have hNB : 0 < NB := by
      rcases Nat.eq_zero_or_pos NB with h | h
      · exfalso; exact hnz (by omega) h
      · exact h
    refine L_div1 (Z := Z) S hK hZo hZ hA V M na NA nb NB xa sa xb sb hga hgb (by omega) x2 x3 (most + nb) (na + (most + nb)) (NA * 10 ^ (most + nb)) (by omega) rfl (fun M4 k H locs ls hs hz hl hm => ?_) (41) M 0 _ _ _ (by omega) (by omega) (fun _ _ => rfl) (fun q h1 h2 => by omega) (lv_sub hl [0, 3, 2, 1] rfl) hm
    refine lv_iload_n hx hb d_Mo_divide_53 rfl (lv_at hl 3 rfl) ?_
    refine fm_iconst S d_Mo_divide_54 ?_
    refine fm_isub S d_Mo_divide_55 ?_
    refine fm_topi (fun x5 hx5 => ?_)
    refine lv_istore_n (lv' := [(3, .int (iN (x5))), (0, .ref (ad 0)), (1, .int (iN (x2))), (2, .int (iN (x3)))]) hx hb d_Mo_divide_56 rfl hl (by decide) rfl (fun ls hl => ?_)
    have hDl : NA * 10 ^ (most + nb) < 10 ^ (na + (most + nb)) := by rw [Nat.pow_add 10 na]; exact Nat.mul_lt_mul_of_pos_right hga.lt (p10N _)
    refine L_div2 (Z := Z) S hK hZo hZ hA V M na NA nb NB xa sa xb sb hga hgb (by omega) x2 x3 (most + nb) (na + (most + nb)) (NA * 10 ^ (most + nb)) (by omega) rfl (fun M6 k kk H locs ls hc hl hm => ?_) ((na + (most + nb)) + 1) M4 x5 (na + (most + nb)) _ _ _ (by omega) (by omega) (DvI.start hDl hs hz (by omega)) (lv_sub hl [0, 1, 2, 3] rfl) hm
    have e60 : M6 2 0 = na := by rw [hc.2.1.1]; exact hga.1
    refine lv_aload_n hx hb d_Mo_divide_159 rfl (lv_at hl 1 rfl) ?_
    refine mo_get 3 S hK hm (by decide) k469 rfl rfl d_Mo_divide_160 ?_
    refine fm_iconst S d_Mo_divide_163 ?_
    refine mo_join (P := fun y => y = if na = 0 then 0 else ((na + (most + nb) : Nat) : Int)) (g := fun y => F0 m 178 ls ([.int (iN (y)), .int (iN (2)), .ref (ad 2)])) (fun y hy => ?_) (fun key => ?_)
    · refine mo_iast 2 S hK hm (by decide) (by simp only [moLen]; omega) d_Mo_divide_178 (fun M7 H locs eM7 hm => ?_)
      refine lv_aload_n hx hb d_Mo_divide_179 rfl (lv_at hl 1 rfl) ?_
      refine mo_get 4 S hK hm (by decide) k470 rfl rfl d_Mo_divide_180 ?_
      refine fm_iconst S d_Mo_divide_183 ?_
      refine lv_aload_n hx hb d_Mo_divide_184 rfl (lv_at hl 1 rfl) ?_
      refine mo_get 4 S hK hm (by decide) k470 rfl rfl d_Mo_divide_185 ?_
      refine fm_iconst S d_Mo_divide_188 ?_
      refine mo_iald 3 S hK hm (by decide) (by simp only [moLen]; omega) d_Mo_divide_189 ?_
      refine lv_iload_n hx hb d_Mo_divide_190 rfl (lv_at hl 2 rfl) ?_
      refine fm_isub S d_Mo_divide_191 ?_
      refine lv_aload_n hx hb d_Mo_divide_192 rfl (lv_at hl 1 rfl) ?_
      refine mo_get 4 S hK hm (by decide) k470 rfl rfl d_Mo_divide_193 ?_
      refine fm_iconst S d_Mo_divide_196 ?_
      refine mo_iald 3 S hK hm (by decide) (by simp only [moLen]; omega) d_Mo_divide_197 ?_
      refine fm_isub S d_Mo_divide_198 ?_
      refine mo_iast 3 S hK hm (by decide) (by simp only [moLen]; omega) d_Mo_divide_199 (fun M8 H locs eM8 hm => ?_)
      refine lv_aload_n hx hb d_Mo_divide_200 rfl (lv_at hl 1 rfl) ?_
      refine mo_get 5 S hK hm (by decide) k471 rfl rfl d_Mo_divide_201 ?_
      refine fm_iconst S d_Mo_divide_204 ?_
      refine lv_aload_n hx hb d_Mo_divide_205 rfl (lv_at hl 1 rfl) ?_
      refine mo_get 5 S hK hm (by decide) k471 rfl rfl d_Mo_divide_206 ?_
      refine fm_iconst S d_Mo_divide_209 ?_
      refine mo_iald 4 S hK hm (by decide) (by simp only [moLen]; omega) d_Mo_divide_210 ?_
      refine lv_aload_n hx hb d_Mo_divide_211 rfl (lv_at hl 1 rfl) ?_
      refine mo_get 5 S hK hm (by decide) k471 rfl rfl d_Mo_divide_212 ?_
      refine fm_iconst S d_Mo_divide_215 ?_
      refine mo_iald 4 S hK hm (by decide) (by simp only [moLen]; omega) d_Mo_divide_216 ?_
      refine fm_imul S d_Mo_divide_217 ?_
      refine mo_iast 4 S hK hm (by decide) (by simp only [moLen]; omega) d_Mo_divide_218 (fun M9 H locs eM9 hm => ?_)
      obtain ⟨frS, n1, hn1, rgS⟩ := DvI.fin (M3 := M9) (na := na) hc (fun h => by have h2 := hga.lt; rw [h] at h2; simp at h2; exact h2) rfl eM7 hy (by rw [eM8, show x2 = ((most + nb : Nat) : Int) by omega]) eM9 hga.2.1 hgb.2.1 hga.2.2.1 hgb.2.2.1
      refine lv_aload_n hx hb d_Mo_divide_219 rfl (lv_at hl 1 rfl) ?_
      refine fm_iconst S d_Mo_divide_220 ?_
      refine lv_aload_n hx hb d_Mo_divide_221 rfl (lv_at hl 1 rfl) ?_
      refine mo_get 1 S hK hm (by decide) k467 rfl rfl d_Mo_divide_222 ?_
      refine mo_ciS (n := 2) (As := [.int (iN (2)), .int (iN ((V 1)))]) (rest := []) S hK hZo hZ hA hm (fun μ sz hM => t_Mo_cut l D cs Z hZo ad μ V M9 sz 2 (V 1) most n1 (NA * 10 ^ (most + nb) / NB) (xa - (most + nb : Nat) - xb) (sa * sb) hM (by omega) (by omega) (by omega) (by omega) rgS) (gV k555 k557 ks21 k6 k558) (by decide) (by decide +kernel) rfl hl.1 rfl (Nat.le_of_ble_eq_true rfl) ⟨Nat.le_of_ble_eq_true rfl, Nat.le_of_ble_eq_true rfl⟩ d_Mo_divide_225 (fun x12 M11 H locs q10 hm => ?_)
      obtain ⟨frM11, cuM11⟩ := q10
      refine mo_iret S hr hlocks hK hm d_Mo_divide_228 ?_
      exact ⟨rfl, frS.tr frM11, Or.inr ⟨by omega, cuM11⟩⟩
    · refine lv_aload_n hx hb d_Mo_divide_164 rfl (lv_at hl 1 rfl) ?_
      refine mo_get 3 S hK hm (by decide) k469 rfl rfl d_Mo_divide_165 ?_
      refine fm_iconst S d_Mo_divide_168 ?_
      refine mo_iald 2 S hK hm (by decide) (by simp only [moLen]; omega) d_Mo_divide_169 ?_
      refine fm_if_ne (tgt := 177) S (by omega) d_Mo_divide_170 (by decide) (fun c13 => ?_) (fun c13 => ?_)
      · refine lv_iload_n hx hb d_Mo_divide_177 rfl (lv_at hl 3 rfl) ?_
        exact key _ (by split <;> omega)
      · refine fm_iconst S d_Mo_divide_173 ?_
        refine lv_goto (tgt := 178) hx hb d_Mo_divide_174 (by decide) ?_
        exact key _ (by split <;> omega)
  · refine fm_iconst S d_Mo_divide_9 ?_
    refine mo_iret S hr hlocks hK hm d_Mo_divide_10 ?_
    exact ⟨rfl, Fr.rf, Or.inl ⟨by have h2 := hgb.lt; rw [show nb = 0 by omega] at h2; simp at h2; exact h2, rfl⟩⟩
end
section
-- VALUES (own work): a decimal is v : Int, its value times 10^300
theorem nd_mul {n : Nat} (h : n ≠ 0) (k : Nat) : nd (n * 10 ^ k) = nd n + k := by
  have h1 := nd_lt n
  have h2 := nd_ge h
  have h3 : nd n ≠ 0 := by rw [nd_pos h]; omega
  obtain ⟨j, hj⟩ : ∃ j, nd n = j + 1 := ⟨nd n - 1, by omega⟩
  rw [hj] at h1 h2 ⊢
  rw [Nat.add_sub_cancel] at h2
  rw [show j + 1 + k = j + k + 1 by omega]
  refine nd_uniq ?_ ?_
  · rw [Nat.pow_add]; exact Nat.mul_le_mul_right _ h2
  · rw [show j + k + 1 = j + 1 + k by omega, Nat.pow_add]; exact Nat.mul_lt_mul_of_pos_right h1 (p10N k)
theorem tz_mul {n : Nat} (h : n ≠ 0) (k : Nat) : tz (n * 10 ^ k) = tz n + k := by
  have h1 := tz_spec h
  refine tz_uniq ?_ ?_
  · rw [Nat.pow_add, Nat.mul_mod_mul_right, h1.1, Nat.zero_mul]
  · rw [Nat.pow_add, Nat.mul_div_mul_right _ _ (p10N k)]; exact h1.2
def st (n : Nat) : Nat := n / 10 ^ tz n
theorem st_mul {n : Nat} (h : n ≠ 0) (k : Nat) : st (n * 10 ^ k) = st n := by
  unfold st
  rw [tz_mul h, Nat.pow_add, Nat.mul_div_mul_right _ _ (p10N k)]
theorem st_back {n : Nat} (h : n ≠ 0) : st n * 10 ^ tz n = n := Nat.div_mul_cancel (Nat.dvd_of_mod_eq_zero (tz_spec h).1)
theorem st_ne {n : Nat} (h : n ≠ 0) : st n % 10 ≠ 0 := (tz_spec h).2
theorem cutC_mul {N : Nat} (h : N ≠ 0) (P k : Nat) (x : Int) : cutC P (N * 10 ^ k) = cutC P N ∧ cutX P (N * 10 ^ k) (x - k) = cutX P N x := by
  unfold cutC cutX
  rw [nd_mul h]
  by_cases hP : P ≤ nd N
  · have e : nd N + k - P = nd N - P + k := by omega
    have e2 : N * 10 ^ k / 10 ^ (nd N - P + k) = N / 10 ^ (nd N - P) := by rw [Nat.pow_add, Nat.mul_div_mul_right _ _ (p10N k)]
    rw [e, e2]
    exact ⟨rfl, by omega⟩
  · have e : nd N - P = 0 := by omega
    rw [e, Nat.pow_zero, Nat.div_one]
    obtain ⟨j, hj⟩ : ∃ j, k = nd N + k - P + j := ⟨k - (nd N + k - P), by omega⟩
    generalize nd N + k - P = f at *
    subst hj
    rw [Nat.pow_add, Nat.mul_comm (10 ^ f), ← Nat.mul_assoc, Nat.mul_div_cancel _ (p10N f)]
    refine ⟨st_mul h j, ?_⟩
    rw [tz_mul h]
    omega
def cuz (N : Nat) (x : Int) : Int := if N ≠ 0 ∧ 99 ≤ (nd N : Int) + x - 1 then 1 else 0
def cuv (P N : Nat) (x : Int) : Int := if N = 0 ∨ (nd N : Int) + x - 1 < -99 then 0 else (cutC P N : Int) * 10 ^ (cutX P N x + 300).toNat
theorem cuz_mul {N : Nat} {x : Int} (k : Nat) : cuz (N * 10 ^ k) (x - k) = cuz N x := by
  unfold cuz
  by_cases h : N = 0
  · subst h; simp
  · have h2 : N * 10 ^ k ≠ 0 := Nat.ne_of_gt (Nat.mul_pos (Nat.pos_of_ne_zero h) (p10N k))
    rw [nd_mul h]
    by_cases h3 : 99 ≤ (nd N : Int) + x - 1
    · rw [if_pos ⟨h2, by omega⟩, if_pos ⟨h, h3⟩]
    · rw [if_neg (fun q => h3 (by have := q.2; omega)), if_neg (fun q => h3 q.2)]
theorem cuv_mul {P N : Nat} {x : Int} (k : Nat) : cuv P (N * 10 ^ k) (x - k) = cuv P N x := by
  unfold cuv
  by_cases h : N = 0
  · subst h; simp
  · have h2 : N * 10 ^ k ≠ 0 := Nat.ne_of_gt (Nat.mul_pos (Nat.pos_of_ne_zero h) (p10N k))
    rw [nd_mul h, (cutC_mul h P k x).1, (cutC_mul h P k x).2]
    by_cases h3 : (nd N : Int) + x - 1 < -99
    · rw [if_pos (Or.inr (by omega)), if_pos (Or.inr h3)]
    · rw [if_neg (fun q => q.elim h2 (fun q => h3 (by omega))), if_neg (fun q => q.elim h h3)]
/-- only the first P digits count -/
theorem cut_more {N2 P i : Nat} {x : Int} (hP : 1 ≤ P) (h : P ≤ nd (N2 / 10 ^ i)) : cuz N2 (x - i) = cuz (N2 / 10 ^ i) x ∧ cuv P N2 (x - i) = cuv P (N2 / 10 ^ i) x := by
  have h1 := nd_div (n := N2) (k := i)
  have hN1 : N2 / 10 ^ i ≠ 0 := fun e => by rw [e, nd_0] at h; omega
  have hN2 : N2 ≠ 0 := fun e => hN1 (by rw [e]; simp)
  have e1 : (nd N2 : Int) + (x - i) - 1 = (nd (N2 / 10 ^ i) : Int) + x - 1 := by omega
  have e2 : N2 / 10 ^ (nd N2 - P) = N2 / 10 ^ i / 10 ^ (nd (N2 / 10 ^ i) - P) := by
    rw [Nat.div_div_eq_div_mul, ← Nat.pow_add, h1]; congr 2; omega
  have e3 : cutC P N2 = cutC P (N2 / 10 ^ i) := by unfold cutC; rw [e2]
  have e4 : cutX P N2 (x - i) = cutX P (N2 / 10 ^ i) x := by unfold cutX; rw [e2, h1]; omega
  refine ⟨?_, ?_⟩
  · unfold cuz
    rw [e1]
    simp [hN1, hN2]
  · unfold cuv
    rw [e1, e3, e4]
    simp [hN1, hN2]
/-- coefficient and exponent of a value -/
def cN (v : Int) : Nat := st v.natAbs
def cX (v : Int) : Int := if v = 0 then 0 else (tz v.natAbs : Int) - 300
/-- register r holds v -/
def Rv (M : Nat → Int → Int) (r v : Int) : Prop := Rg M r (nd (cN v)) (cN v) (cX v) (sgn v)
theorem cN_0 : cN 0 = 0 := by unfold cN st; simp
theorem nz_0 : nd (cN 0) = 0 := by rw [cN_0, nd_0]
theorem Rv.zero {M : Nat → Int → Int} {r : Int} (h : Rg M r 0 0 0 0) : Rv M r 0 := by
  unfold Rv; rw [cN_0, nd_0]; exact h
theorem val_c {c : Nat} {X sg : Int} (hc : c % 10 ≠ 0) (hX : 0 ≤ X + 300) (hs : sg = 1 ∨ sg = -1) : cN (sg * ((c : Int) * 10 ^ (X + 300).toNat)) = c ∧ cX (sg * ((c : Int) * 10 ^ (X + 300).toNat)) = X ∧ sgn (sg * ((c : Int) * 10 ^ (X + 300).toNat)) = sg := by
  have h0 : c ≠ 0 := fun e => by subst e; exact hc rfl
  have e1 : (sg * ((c : Int) * 10 ^ (X + 300).toNat)).natAbs = c * 10 ^ (X + 300).toNat := by
    rw [Int.natAbs_mul, ← p10c, ← Int.natCast_mul, Int.natAbs_natCast]
    rcases hs with h | h <;> subst h <;> simp
  have h2 : c * 10 ^ (X + 300).toNat ≠ 0 := Nat.ne_of_gt (Nat.mul_pos (Nat.pos_of_ne_zero h0) (p10N _))
  have hv : sg * ((c : Int) * 10 ^ (X + 300).toNat) ≠ 0 := fun e => by rw [e] at e1; exact h2 e1.symm
  refine ⟨?_, ?_, ?_⟩
  · unfold cN; rw [e1, st_mul h0]; unfold st; rw [tz_n hc]; simp
  · unfold cX; rw [if_neg hv, e1, tz_mul h0, tz_n hc]; omega
  · have h3 : (0 : Int) < (c : Int) * 10 ^ (X + 300).toNat := Int.mul_pos (by omega) (p10 _)
    unfold sgn
    rcases hs with h | h <;> subst h
    · rw [Int.one_mul, if_neg (by omega), if_pos h3]
    · rw [if_pos (by omega)]
theorem cutC_ne {P N : Nat} (hP : 1 ≤ P) (h : N ≠ 0) : cutC P N % 10 ≠ 0 := by
  have h2 := nd_div (n := N) (k := nd N - P)
  have h3 : N / 10 ^ (nd N - P) ≠ 0 := fun e => by
    rw [e, nd_0] at h2
    have : nd N ≠ 0 := by rw [nd_pos h]; omega
    omega
  exact st_ne h3
theorem cut_fin {M : Nat → Int → Int} {r x sg z : Int} {P N N2 K : Nat} (hc : cutOk M r P N x sg z) (hP : 1 ≤ P ∧ P ≤ 31) (hs : N ≠ 0 → sg = 1 ∨ sg = -1) (hK : 0 ≤ x + K) (h2 : N2 = N * 10 ^ (x + K).toNat) : z = cuz N2 (-K) ∧ Rv M r (sg * cuv P N2 (-K)) := by
  have ez : cuz N2 (-K) = cuz N x := by
    have := cuz_mul (N := N) (x := x) (x + K).toNat
    rw [show x - ((x + K).toNat : Int) = -K by omega] at this
    rw [h2, this]
  have ev : cuv P N2 (-K) = cuv P N x := by
    have := cuv_mul (P := P) (N := N) (x := x) (x + K).toNat
    rw [show x - ((x + K).toNat : Int) = -K by omega] at this
    rw [h2, this]
  rw [ez, ev]
  rcases hc with ⟨h1, hz, hg⟩ | ⟨h1, h3, hz, hg⟩
  · refine ⟨?_, ?_⟩
    · unfold cuz
      rw [hz, if_neg (fun q => by have := q.1; have := q.2; omega)]
    · unfold cuv
      rw [if_pos h1, Int.mul_zero]
      exact Rv.zero hg
  · refine ⟨?_, ?_⟩
    · unfold cuz
      rw [hz]
      by_cases h4 : 99 ≤ (nd N : Int) + x - 1
      · rw [if_pos h4, if_pos ⟨h1, h4⟩]
      · rw [if_neg h4, if_neg (fun q => h4 q.2)]
    · unfold cuv
      rw [if_neg (fun q => q.elim h1 (fun q => by omega))]
      have hb := (cut_nd (x := x) (N := N) hP.1).2 h1
      have hle : nd (cutC P N) ≤ P := by
        have h5 := nd_div (n := N) (k := nd N - P)
        have h6 := nd_div (n := N / 10 ^ (nd N - P)) (k := tz (N / 10 ^ (nd N - P)))
        unfold cutC
        omega
      obtain ⟨v1, v2, v3⟩ := val_c (X := cutX P N x) (cutC_ne hP.1 h1) (by omega) (hs h1)
      unfold Rv
      rw [v1, v2, v3]
      exact hg
/-- what comes of an exact result -/
def fin (P N : Nat) (x sg : Int) : Int × Int := if cuz N x = 0 then (0, sg * cuv P N x) else (1, 0)
def sAdd (P : Nat) (a b : Int) : Int × Int := fin P (a + b).natAbs (-300) (sgn (a + b))
def sMul (P : Nat) (a b : Int) : Int × Int := fin P (a * b).natAbs (-600) (sgn a * sgn b)
def sDiv (P : Nat) (a b : Int) : Int × Int := if b = 0 then (2, 0) else fin P (a.natAbs * 10 ^ 400 / b.natAbs) (-400) (sgn a * sgn b)
/-- register 2 holds what comes, if it isn't raised -/
def resOk (M : Nat → Int → Int) (z : Int) (w : Int × Int) : Prop := z = w.1 ∧ (z = 0 → Rv M 2 w.2)
theorem fin_ok {M : Nat → Int → Int} {z sg x : Int} {P N : Nat} (h1 : z = cuz N x) (h2 : Rv M 2 (sg * cuv P N x)) : resOk M z (fin P N x sg) := by
  unfold fin
  have h3 : cuz N x = 0 ∨ cuz N x = 1 := by unfold cuz; split <;> simp
  rcases h3 with h | h
  · rw [if_pos h]; exact ⟨h1.trans h, fun _ => h2⟩
  · rw [if_neg (by rw [h]; decide)]; exact ⟨h1.trans h, fun h0 => by rw [h1, h] at h0; cases h0⟩
end
section
-- VALUES OF OPERATIONS (own work)
theorem cut_fin0 {M : Nat → Int → Int} {r x sg z : Int} {P N : Nat} (hc : cutOk M r P N x sg z) (hP : 1 ≤ P ∧ P ≤ 31) (hs : N ≠ 0 → sg = 1 ∨ sg = -1) (hx : -500 ≤ x) : z = cuz N x ∧ Rv M r (sg * cuv P N x) := by
  have h := cut_fin (K := 500) hc hP hs (by omega) rfl
  have ez := cuz_mul (N := N) (x := x) (x + (500 : Nat)).toNat
  have ev := cuv_mul (P := P) (N := N) (x := x) (x + (500 : Nat)).toNat
  rw [show x - ((x + (500 : Nat)).toNat : Int) = -(500 : Nat) by omega] at ez ev
  rw [ez, ev] at h
  exact h
theorem sgn_in (v : Int) : -1 ≤ sgn v ∧ sgn v ≤ 1 := by unfold sgn; split; omega; split <;> omega
theorem sgn_0 : sgn 0 = 0 := by decide
theorem sgn_nz {v : Int} (h : v ≠ 0) : sgn v = 1 ∨ sgn v = -1 := by unfold sgn; split; omega; split <;> omega
theorem sgn_abs (v : Int) : sgn v * (v.natAbs : Int) = v := by
  unfold sgn
  split
  · omega
  · split
    · omega
    · rw [show v = 0 by omega]; rfl
theorem cN_nz {v : Int} (h : v ≠ 0) : cN v ≠ 0 := fun e => by
  have h1 : v.natAbs ≠ 0 := by omega
  have h2 := st_back h1
  unfold cN at e
  rw [e] at h2
  omega
theorem cN_z {v : Int} : cN v = 0 ↔ v = 0 := ⟨fun h => Classical.byContradiction fun q => cN_nz q h, fun h => by subst h; exact cN_0⟩
theorem nd_z {n : Nat} : nd n = 0 ↔ n = 0 := ⟨fun h => Classical.byContradiction fun q => by rw [nd_pos q] at h; omega, fun h => by subst h; exact nd_0⟩
theorem cN_back {v : Int} (h : v ≠ 0) : cN v * 10 ^ (cX v + 300).toNat = v.natAbs := by
  unfold cN cX
  rw [if_neg h, show ((tz v.natAbs : Int) - 300 + 300).toNat = tz v.natAbs by omega]
  exact st_back (by omega)
theorem cX_ge {v : Int} : -300 ≤ cX v := by unfold cX; split <;> omega
theorem vI_back (v : Int) : vI (sgn v) (cN v) (cX v) = v := by
  by_cases h : v = 0
  · subst h; unfold vI; rw [sgn_0]; simp
  · unfold vI
    rw [Int.mul_assoc, ← p10c, ← Int.natCast_mul, cN_back h, sgn_abs]
/-- bounds of the values that come up -/
def vB (v : Int) : Prop := nd (cN v) ≤ 31 ∧ -140 ≤ cX v ∧ cX v + nd (cN v) ≤ 110
theorem cuv0 (P : Nat) (x : Int) : cuv P 0 x = 0 := by unfold cuv; simp
theorem add_res {M : Nat → Int → Int} {z a b : Int} {P : Nat} (hP : 1 ≤ P ∧ P ≤ 31) (h : ∃ (N : Nat) (x sg : Int), (N ≠ 0 → sg = 1 ∨ sg = -1) ∧ vI sg N x = vI (sgn a) (cN a) (cX a) + vI (sgn b) (cN b) (cX b) ∧ -150 ≤ x ∧ cutOk M 2 P N x sg z) : resOk M z (sAdd P a b) := by
  obtain ⟨N, x, sg, hs, hv, hx, hc⟩ := h
  rw [vI_back, vI_back] at hv
  have h1 := cut_fin (K := 300) hc hP hs (by omega) rfl
  unfold sAdd
  generalize a + b = w at *
  by_cases h0 : N = 0
  · subst h0
    have hw : w = 0 := by rw [← hv]; unfold vI; simp
    subst hw
    rw [Nat.zero_mul, cuv0, Int.mul_zero] at h1
    exact fin_ok h1.1 (by rw [show (0 : Int).natAbs = 0 from rfl, cuv0, Int.mul_zero]; exact h1.2)
  · have h2 : w.natAbs = N * 10 ^ (x + 300).toNat := by
      rw [← hv]; unfold vI
      rw [Int.mul_assoc, Int.natAbs_mul, ← p10c, ← Int.natCast_mul, Int.natAbs_natCast]
      rcases hs h0 with h | h <;> rw [h] <;> simp
    have h3 : (0 : Int) < (N : Int) * 10 ^ (x + 300).toNat := Int.mul_pos (by omega) (p10 _)
    have h4 : sgn w = sg := by
      rw [← hv]; unfold vI sgn; rw [Int.mul_assoc]
      rcases hs h0 with h | h <;> rw [h]
      · rw [Int.one_mul, if_neg (by omega), if_pos h3]
      · rw [if_pos (by omega)]
    refine fin_ok ?_ ?_
    · rw [h2]; exact h1.1
    · rw [h2, h4]; exact h1.2
theorem mul_res {M : Nat → Int → Int} {z a b : Int} {P : Nat} (hP : 1 ≤ P ∧ P ≤ 31) (ha : vB a) (hb : vB b) (hc : cutOk M 2 P (cN a * cN b) (cX a + cX b) (sgn a * sgn b) z) : resOk M z (sMul P a b) := by
  have hs : cN a * cN b ≠ 0 → sgn a * sgn b = 1 ∨ sgn a * sgn b = -1 := fun h => by
    have h1 : a ≠ 0 := fun e => h (by rw [e, cN_0, Nat.zero_mul])
    have h2 : b ≠ 0 := fun e => h (by rw [e, cN_0, Nat.mul_zero])
    rcases sgn_nz h1 with e | e <;> rcases sgn_nz h2 with f | f <;> rw [e, f] <;> decide
  have h1 := cut_fin (K := 600) hc hP hs (by have := ha.2.1; have := hb.2.1; omega) rfl
  have e : cN a * cN b * 10 ^ (cX a + cX b + (600 : Nat)).toNat = (a * b).natAbs := by
    by_cases h0 : a = 0
    · subst h0; rw [cN_0]; simp
    · by_cases h2 : b = 0
      · subst h2; rw [cN_0]; simp
      · rw [Int.natAbs_mul, ← cN_back h0, ← cN_back h2]
        have g1 := cX_ge (v := a)
        have g2 := cX_ge (v := b)
        rw [show (cX a + cX b + (600 : Nat)).toNat = (cX a + 300).toNat + (cX b + 300).toNat by omega, Nat.pow_add]
        simp only [Nat.mul_assoc, Nat.mul_comm, Nat.mul_left_comm]
  rw [e] at h1
  exact fin_ok h1.1 h1.2
theorem div_res {M : Nat → Int → Int} {z a b : Int} {P : Nat} (hP : 1 ≤ P ∧ P ≤ 31) (ha : vB a) (hb : vB b) (hc : (cN b = 0 ∧ z = 2) ∨ (cN b ≠ 0 ∧ cutOk M 2 P (cN a * 10 ^ (P + nd (cN b)) / cN b) (cX a - (P + nd (cN b) : Nat) - cX b) (sgn a * sgn b) z)) : resOk M z (sDiv P a b) := by
  unfold sDiv
  rcases hc with ⟨h0, hz⟩ | ⟨h0, hc⟩
  · rw [if_pos (cN_z.mp h0)]
    exact ⟨hz, fun h => by rw [hz] at h; cases h⟩
  · have hb0 : b ≠ 0 := fun e => h0 (by rw [e, cN_0])
    rw [if_neg hb0]
    obtain ⟨a1, a2, a3⟩ := ha
    obtain ⟨b1, b2, b3⟩ := hb
    by_cases ha0 : a = 0
    · subst ha0
      rw [cN_0, Nat.zero_mul, Nat.zero_div] at hc
      have h1 := cut_fin0 hc hP (fun h => absurd rfl h) (by rw [show cX 0 = 0 from rfl]; omega)
      rw [cuv0, Int.mul_zero] at h1
      refine fin_ok ?_ ?_
      · rw [h1.1]; unfold cuz; simp
      · rw [show (0 : Int).natAbs = 0 from rfl, Nat.zero_mul, Nat.zero_div, cuv0, Int.mul_zero]; exact h1.2
    · have hs : cN a * 10 ^ (P + nd (cN b)) / cN b ≠ 0 → sgn a * sgn b = 1 ∨ sgn a * sgn b = -1 := fun _ => by
        rcases sgn_nz ha0 with e | e <;> rcases sgn_nz hb0 with f | f <;> rw [e, f] <;> decide
      have h1 := cut_fin0 hc hP hs (by omega)
      obtain ⟨i, hi⟩ : ∃ i : Nat, cX a - (P + nd (cN b) : Nat) - cX b + 400 = i := ⟨(cX a - (P + nd (cN b) : Nat) - cX b + 400).toNat, by omega⟩
      have hN1 : a.natAbs * 10 ^ 400 / b.natAbs / 10 ^ i = cN a * 10 ^ (P + nd (cN b)) / cN b := by
        rw [Nat.div_div_eq_div_mul, ← cN_back ha0, ← cN_back hb0, Nat.mul_assoc, ← Nat.pow_add, Nat.mul_assoc, ← Nat.pow_add]
        rw [show (cX a + 300).toNat + 400 = (P + nd (cN b)) + ((cX b + 300).toNat + i) by omega, Nat.pow_add, ← Nat.mul_assoc, Nat.mul_div_mul_right _ _ (p10N _)]
      have hge : P ≤ nd (cN a * 10 ^ (P + nd (cN b)) / cN b) := by
        have g1 : 10 ^ P ≤ cN a * 10 ^ (P + nd (cN b)) / cN b := by
          rw [Nat.le_div_iff_mul_le (Nat.pos_of_ne_zero h0), Nat.pow_add]
          have g2 := nd_lt (cN b)
          have g3 : 1 ≤ cN a := Nat.pos_of_ne_zero (cN_nz ha0)
          calc 10 ^ P * cN b ≤ 10 ^ P * 10 ^ nd (cN b) := Nat.mul_le_mul_left _ (Nat.le_of_lt g2)
            _ = 1 * (10 ^ P * 10 ^ nd (cN b)) := (Nat.one_mul _).symm
            _ ≤ cN a * (10 ^ P * 10 ^ nd (cN b)) := Nat.mul_le_mul_right _ g3
        rcases Nat.lt_or_ge (nd (cN a * 10 ^ (P + nd (cN b)) / cN b)) P with g | g
        · have g4 := nd_lt (cN a * 10 ^ (P + nd (cN b)) / cN b)
          have g5 : 10 ^ nd (cN a * 10 ^ (P + nd (cN b)) / cN b) ≤ 10 ^ P := Nat.pow_le_pow_right (by decide) (by omega)
          omega
        · exact g
      rw [← hN1] at h1 hge
      have h2 := cut_more (x := cX a - (P + nd (cN b) : Nat) - cX b) hP.1 hge
      rw [show cX a - (P + nd (cN b) : Nat) - cX b - (i : Int) = -400 by omega] at h2
      refine fin_ok ?_ ?_
      · rw [h2.1]; exact h1.1
      · rw [h2.2]; exact h1.2
/-- the exponent of a power: 100 where there is none -/
def pw (b : Int) : Int := if b = 0 then 0 else if cX b < 0 ∨ 2 < (nd (cN b) : Int) + cX b then 100 else sgn b * ((cN b * 10 ^ (cX b).toNat : Nat) : Int)
theorem pw_dig {b : Int} (hx : 0 ≤ cX b) (ht : (nd (cN b) : Int) + cX b ≤ 2) : dgt (cN b) (cX b) 0 + 10 * dgt (cN b) (cX b) 1 = ((cN b * 10 ^ (cX b).toNat : Nat) : Int) ∧ cN b * 10 ^ (cX b).toNat < 100 := by
  have h1 := sc_lt (x := cX b) (low := 0) (h := 2) (nd_lt (cN b)) hx (by omega)
  rw [dgt_sh (low := 0) hx (by decide), dgt_sh (low := 0) hx (by decide)]
  rw [Int.sub_zero] at *
  generalize cN b * 10 ^ (cX b).toNat = N at *
  simp at *
  omega
theorem pw_in {b : Int} : -99 ≤ pw b ∧ pw b ≤ 100 := by
  unfold pw
  split
  · omega
  · split
    · omega
    · have h := (pw_dig (b := b) (by omega) (by omega)).2
      have h2 := sgn_in b
      rcases (show sgn b = -1 ∨ sgn b = 0 ∨ sgn b = 1 by omega) with e | e | e <;> rw [e] <;> omega
def one300 : Int := 10 ^ 300
def sPowN (P : Nat) (a : Int) : Nat → Int × Int
  | 0 => (0, one300)
  | n + 1 => if (sPowN P a n).1 = 0 then sMul P (sPowN P a n).2 a else sPowN P a n
def sPow (P : Nat) (a b : Int) : Int × Int := if pw b = 100 ∨ (pw b = 0 ∧ a = 0) then (1, 0) else if pw b < 0 ∧ a = 0 then (2, 0) else if 0 ≤ pw b ∨ (sPowN P a (pw b).natAbs).1 ≠ 0 then sPowN P a (pw b).natAbs else sDiv P one300 (sPowN P a (pw b).natAbs).2
/-- an operation -/
def sOp (P : Nat) (op a b : Int) : Int × Int := if op = 0 then sAdd P a b else if op = 1 then sAdd P a (-b) else if op = 2 then sMul P a b else if op = 3 then sDiv P a b else if op = 4 then sPow P a b else (0, -a)
/-- registers 3 and 4 and the arrays from 6 on are as they were -/
def FrO (M M' : Nat → Int → Int) : Prop := (∀ k : Nat, k = 0 ∨ 6 ≤ k → M' k = M k) ∧ (∀ q : Int, 960 ≤ q → q < 1600 → M' 1 q = M 1 q) ∧ (∀ q : Int, q = 3 ∨ q = 4 → M' 2 q = M 2 q ∧ M' 3 q = M 3 q ∧ M' 4 q = M 4 q)
theorem FrO.rf {M : Nat → Int → Int} : FrO M M := ⟨fun _ _ => rfl, fun _ _ _ => rfl, fun _ _ => ⟨rfl, rfl, rfl⟩⟩
theorem FrO.tr {M M' M'' : Nat → Int → Int} (h1 : FrO M M') (h2 : FrO M' M'') : FrO M M'' := ⟨fun k h => (h2.1 k h).trans (h1.1 k h), fun q a b => (h2.2.1 q a b).trans (h1.2.1 q a b), fun q h => ⟨((h2.2.2 q h).1).trans (h1.2.2 q h).1, ((h2.2.2 q h).2.1).trans (h1.2.2 q h).2.1, ((h2.2.2 q h).2.2).trans (h1.2.2 q h).2.2⟩⟩
theorem Fr.o {M M' : Nat → Int → Int} {r : Int} (h : Fr M M' r) (hr : r ≤ 2 ∨ 5 ≤ r) : FrO M M' := ⟨h.1, fun q a b => h.2.1 q (by omega), fun q hq => h.2.2 q (by omega)⟩
theorem FrO.rg {M M' : Nat → Int → Int} {r : Int} {n N : Nat} {x sg : Int} (h : FrO M M') (hr : r = 3 ∨ r = 4) (hn : n ≤ 320) (hg : Rg M r n N x sg) : Rg M' r n N x sg := by
  obtain ⟨h1, h2, h3, h4, h5⟩ := hg
  have e := h.2.2 r hr
  have ed : ∀ k : Int, 0 ≤ k → k < n → M' 1 (320 * r + k) = M 1 (320 * r + k) := fun k a b => h.2.1 _ (by omega) (by omega)
  refine ⟨e.1.trans h1, e.2.1.trans h2, e.2.2.trans h3, fun k a b => by rw [ed k a b]; exact h4 k a b, ?_⟩
  rw [← h5]
  exact dv_congr ed
theorem Rv.neg {M M1 : Nat → Int → Int} {r v y : Int} (h : Rv M r v) (e : M1 = setA M 4 r y) (hy : y = - sgn v) : Rv M1 r (-v) := by
  have h1 : cN (-v) = cN v := by unfold cN; rw [Int.natAbs_neg]
  have h2 : cX (-v) = cX v := by unfold cX; rw [Int.natAbs_neg]; by_cases h : v = 0 <;> simp [h]
  have h3 : sgn (-v) = - sgn v := by unfold sgn; (repeat' split) <;> omega
  obtain ⟨g1, g2, g3, g4, g5⟩ := h
  have d1 : M1 1 = M 1 := by subst e; simp [setA]
  unfold Rv
  rw [h1, h2, h3]
  refine ⟨?_, ?_, ?_, ?_, ?_⟩
  · subst e; simp [setA]; exact g1
  · subst e; simp [setA]; exact g2
  · subst e; simp [setA, uI]; exact hy
  · rw [d1]; exact g4
  · rw [d1]; exact g5
theorem vB_0 : vB 0 := by unfold vB; rw [cN_0, nd_0]; decide
theorem vB_neg {v : Int} (h : vB v) : vB (-v) := by
  have h1 : cN (-v) = cN v := by unfold cN; rw [Int.natAbs_neg]
  have h2 : cX (-v) = cX v := by unfold cX; rw [Int.natAbs_neg]; by_cases h : v = 0 <;> simp [h]
  unfold vB; rw [h1, h2]; exact h
end
section
-- MORE OF VALUES (own work)
theorem mul_bd {a b : Int} (ha : vB a) (hb : vB b) : nd (cN a) ≤ 100 ∧ nd (cN b) ≤ 100 ∧ -150 ≤ cX a ∧ -150 ≤ cX b ∧ cX a ≤ 150 ∧ cX b ≤ 150 := by unfold vB at ha hb; omega
theorem add_bd {a b : Int} (ha : vB a) (hb : vB b) : nd (cN a) ≤ 100 ∧ nd (cN b) ≤ 100 ∧ -150 ≤ cX a ∧ -150 ≤ cX b ∧ cX a + nd (cN a) ≤ 120 ∧ cX b + nd (cN b) ≤ 120 := by unfold vB at ha hb; omega
theorem div_bd {a b : Int} (ha : vB a) (hb : vB b) : nd (cN a) ≤ 100 ∧ nd (cN b) ≤ 38 ∧ -150 ≤ cX a ∧ -150 ≤ cX b ∧ cX a ≤ 150 ∧ cX b ≤ 150 := by unfold vB at ha hb; omega
theorem sg_bd (a b : Int) : -1 ≤ sgn a ∧ sgn a ≤ 1 ∧ -1 ≤ sgn b ∧ sgn b ≤ 1 := by have := sgn_in a; have := sgn_in b; omega
theorem sg_nz {a : Int} (h : nd (cN a) ≠ 0) : sgn a = 1 ∨ sgn a = -1 := sgn_nz (fun e => h (by rw [e]; exact nz_0))
theorem ndc_nz {a : Int} (h : nd (cN a) ≠ 0) : cN a ≠ 0 := fun e => h (by rw [e]; exact nd_0)
theorem ndc_0 {a : Int} (h : nd (cN a) = 0) : a = 0 := cN_z.mp (nd_z.mp h)
theorem pw_0 {b : Int} (h : nd (cN b) = 0) : pw b = 0 := by unfold pw; rw [if_pos (ndc_0 h)]
theorem pw_100 {b : Int} (h : nd (cN b) ≠ 0) (h2 : cX b < 0 ∨ 2 < (nd (cN b) : Int) + cX b) : pw b = 100 := by unfold pw; rw [if_neg (fun e => h (by rw [e]; exact nz_0)), if_pos h2]
theorem pw_v {b : Int} (h : nd (cN b) ≠ 0) (h2 : ¬ (cX b < 0 ∨ 2 < (nd (cN b) : Int) + cX b)) : pw b = sgn b * (dgt (cN b) (cX b) 0 + 10 * dgt (cN b) (cX b) 1) := by unfold pw; rw [if_neg (fun e => h (by rw [e]; exact nz_0)), if_neg h2, (pw_dig (by omega) (by omega)).1]
theorem vB_c {c : Nat} {X sg : Int} (hc : c % 10 ≠ 0) (hs : sg = 1 ∨ sg = -1) (h1 : nd c ≤ 31) (h2 : -140 ≤ X) (h3 : X + nd c ≤ 110) : vB (sg * ((c : Int) * 10 ^ (X + 300).toNat)) := by
  obtain ⟨v1, v2, v3⟩ := val_c hc (show 0 ≤ X + 300 by omega) hs
  unfold vB; rw [v1, v2]; exact ⟨h1, h2, h3⟩
theorem cutC_nd {P N : Nat} : nd (cutC P N) ≤ P := by
  have h5 := nd_div (n := N) (k := nd N - P)
  have h6 := nd_div (n := N / 10 ^ (nd N - P)) (k := tz (N / 10 ^ (nd N - P)))
  unfold cutC
  omega
theorem fin_vB {P N : Nat} {x sg : Int} (hP : 1 ≤ P ∧ P ≤ 31) (hs : N ≠ 0 → sg = 1 ∨ sg = -1) : vB (fin P N x sg).2 := by
  unfold fin
  split
  · rename_i hz
    show vB (sg * cuv P N x)
    unfold cuv
    split
    · rw [Int.mul_zero]; exact vB_0
    · rename_i h
      have h0 : N ≠ 0 := fun e => h (Or.inl e)
      have h1 : -99 ≤ (nd N : Int) + x - 1 := by
        rcases (show (nd N : Int) + x - 1 < -99 ∨ -99 ≤ (nd N : Int) + x - 1 by omega) with g | g
        · exact absurd (Or.inr g) h
        · exact g
      have h2 : (nd N : Int) + x - 1 < 99 := by
        rcases (show (nd N : Int) + x - 1 < 99 ∨ 99 ≤ (nd N : Int) + x - 1 by omega) with g | g
        · exact g
        · unfold cuz at hz; rw [if_pos ⟨h0, g⟩] at hz; cases hz
      have hb := (cut_nd (x := x) (N := N) hP.1).2 h0
      have hc := cutC_nd (P := P) (N := N)
      exact vB_c (cutC_ne hP.1 h0) (hs h0) (by omega) (by omega) (by omega)
  · exact vB_0
theorem sAdd_vB {P : Nat} {a b : Int} (hP : 1 ≤ P ∧ P ≤ 31) : vB (sAdd P a b).2 := fin_vB hP (fun h => sgn_nz (fun e => h (by rw [e]; rfl)))
theorem sg_mul {a b : Int} (h1 : a ≠ 0) (h2 : b ≠ 0) : sgn a * sgn b = 1 ∨ sgn a * sgn b = -1 := by rcases sgn_nz h1 with e | e <;> rcases sgn_nz h2 with f | f <;> rw [e, f] <;> decide
theorem sMul_vB {P : Nat} {a b : Int} (hP : 1 ≤ P ∧ P ≤ 31) : vB (sMul P a b).2 := fin_vB hP (fun h => sg_mul (fun e => h (by rw [e]; simp)) (fun e => h (by rw [e]; simp)))
theorem sDiv_vB {P : Nat} {a b : Int} (hP : 1 ≤ P ∧ P ≤ 31) : vB (sDiv P a b).2 := by
  unfold sDiv
  split
  · exact vB_0
  · rename_i hb
    exact fin_vB hP (fun h => sg_mul (fun e => h (by rw [e]; simp)) hb)
theorem one_st : st (10 ^ 300) = 1 ∧ tz (10 ^ 300) = 300 := by
  have h1 := st_mul (n := 1) (by decide) 300
  have h2 := tz_mul (n := 1) (by decide) 300
  rw [Nat.one_mul] at h1 h2
  have e : tz 1 = 0 := tz_n (by decide)
  refine ⟨by rw [h1]; unfold st; rw [e], by rw [h2, e]⟩
theorem one_nz : one300 ≠ 0 := Int.ne_of_gt (p10 300)
theorem one_abs : one300.natAbs = 10 ^ 300 := by unfold one300; rw [← p10c]; exact Int.natAbs_natCast _
theorem one_c : cN one300 = 1 ∧ cX one300 = 0 ∧ sgn one300 = 1 := by
  refine ⟨?_, ?_, ?_⟩
  · unfold cN; rw [one_abs]; exact one_st.1
  · unfold cX; rw [if_neg one_nz, one_abs, one_st.2]; decide
  · unfold sgn
    have : (0 : Int) < one300 := p10 300
    rw [if_neg (by omega), if_pos this]
theorem nd_1 : nd 1 = 1 := nd_uniq (k := 0) (by decide) (by decide)
theorem one_rv {M : Nat → Int → Int} {r : Int} (h : Rg M r (nd (1 : Int).natAbs) (1 : Int).natAbs (if (1 : Int) = 0 then 0 else 0) (sgn 1)) : Rv M r one300 := by
  unfold Rv; rw [one_c.1, one_c.2.1, one_c.2.2]; exact h
theorem one_vB : vB one300 := by unfold vB; rw [one_c.1, one_c.2.1, nd_1]; decide
theorem sPowN_vB {P : Nat} {a : Int} (hP : 1 ≤ P ∧ P ≤ 31) (n : Nat) : vB (sPowN P a n).2 := by
  induction n with
  | zero => exact one_vB
  | succ n ih =>
    show vB (if (sPowN P a n).1 = 0 then sMul P (sPowN P a n).2 a else sPowN P a n).2
    split
    · exact sMul_vB hP
    · exact ih
theorem sPowN_s {P : Nat} {a : Int} {n : Nat} (h : (sPowN P a n).1 = 0) : sPowN P a (n + 1) = sMul P (sPowN P a n).2 a := if_pos h
theorem sPowN_stop {P : Nat} {a : Int} {n m : Nat} (h : (sPowN P a n).1 ≠ 0) (hm : n ≤ m) : sPowN P a m = sPowN P a n := by
  induction m with
  | zero => rw [show n = 0 by omega]
  | succ m ih =>
    by_cases e : n = m + 1
    · rw [e]
    · have h1 := ih (by omega)
      show (if (sPowN P a m).1 = 0 then _ else sPowN P a m) = _
      rw [h1, if_neg h]
theorem sPow_vB {P : Nat} {a b : Int} (hP : 1 ≤ P ∧ P ≤ 31) : vB (sPow P a b).2 := by
  unfold sPow
  split
  · exact vB_0
  · split
    · exact vB_0
    · split
      · exact sPowN_vB hP _
      · exact sDiv_vB hP
theorem sOp_vB {P : Nat} {op a b : Int} (hP : 1 ≤ P ∧ P ≤ 31) (ha : vB a) : vB (sOp P op a b).2 := by
  unfold sOp
  split
  · exact sAdd_vB hP
  · split
    · exact sAdd_vB hP
    · split
      · exact sMul_vB hP
      · split
        · exact sDiv_vB hP
        · split
          · exact sPow_vB hP
          · exact vB_neg ha
theorem Fr.rv {M M' : Nat → Int → Int} {r r' v : Int} (h : Fr M M' r) (hne : r' ≠ r) (hb : vB v) (hg : Rv M r' v) : Rv M' r' v := Fr.rg h hne (by have := hb.1; omega) hg
theorem FrO.rv {M M' : Nat → Int → Int} {r v : Int} (h : FrO M M') (hr : r = 3 ∨ r = 4) (hb : vB v) (hg : Rv M r v) : Rv M' r v := FrO.rg h hr (by have := hb.1; omega) hg
theorem fin_1 (P N : Nat) (x sg : Int) : (fin P N x sg).1 = 0 ∨ (fin P N x sg).1 = 1 := by unfold fin; split <;> simp
theorem sPowN_1 (P : Nat) (a : Int) (n : Nat) : (sPowN P a n).1 = 0 ∨ (sPowN P a n).1 = 1 := by
  induction n with
  | zero => exact Or.inl rfl
  | succ n ih =>
    show (if (sPowN P a n).1 = 0 then sMul P (sPowN P a n).2 a else sPowN P a n).1 = 0 ∨ _ = 1
    show (if (sPowN P a n).1 = 0 then sMul P (sPowN P a n).2 a else sPowN P a n).1 = 0 ∨ (if (sPowN P a n).1 = 0 then sMul P (sPowN P a n).2 a else sPowN P a n).1 = 1
    split
    · exact fin_1 _ _ _ _
    · exact ih
theorem sPow_1 {P : Nat} {a b : Int} (h : pw b = 100 ∨ (pw b = 0 ∧ a = 0)) : sPow P a b = (1, 0) := by unfold sPow; rw [if_pos h]
theorem sPow_2 {P : Nat} {a b : Int} (h : pw b < 0) (h2 : a = 0) : sPow P a b = (2, 0) := by unfold sPow; rw [if_neg (fun q => by omega), if_pos ⟨h, h2⟩]
theorem sPow_r {P : Nat} {a b : Int} (h : pw b ≠ 100) (h2 : a = 0 → 0 < pw b) (h3 : 0 ≤ pw b ∨ (sPowN P a (pw b).natAbs).1 ≠ 0) : sPow P a b = sPowN P a (pw b).natAbs := by
  unfold sPow
  rw [if_neg (fun q => q.elim h (fun q => by have := h2 q.2; omega)), if_neg (fun q => by have := h2 q.2; omega), if_pos h3]
theorem sPow_d {P : Nat} {a b : Int} (h2 : a ≠ 0) (h3 : pw b < 0) (h4 : (sPowN P a (pw b).natAbs).1 = 0) : sPow P a b = sDiv P one300 (sPowN P a (pw b).natAbs).2 := by
  unfold sPow
  rw [if_neg (fun q => q.elim (fun q => by omega) (fun q => h2 q.2)), if_neg (fun q => h2 q.2), if_neg (fun q => q.elim (fun q => by omega) (fun q => q h4))]
theorem res_r {M : Nat → Int → Int} {z : Int} (h : z ≠ 0) : resOk M z (z, 0) := ⟨rfl, fun e => absurd e h⟩
end
section
set_option maxHeartbeats 4000000 in
set_option maxRecDepth 100000 in
/-- power() -/
theorem t_Mo_power (l : Launch) (D : va_G) (cs : Nat → ClassId) (Z : (Nat → Prop) → State → Heap → Prop) (hZo : fm_Zok Z) (ad : Nat → Nat) (μ : fm_Mu) (V : Nat → Int) (M : Nat → Int → Int) (sz : Nat) (b : Int) (hM : moS cs μ ad V M) (hb1 : Rv M 1 b) (hvb : vB b) : Met l y_Mo_power (Cond.code y_Mo_power c_Mo_power 1 (some .int) :: wA) ({ frames := 1, cells := 0, slots := 0, locals := 23 }) (fm_Pc D clsA (tysA cs) Z μ sz [.ref (ad 0)]) (fm_Si (fun z => z = pw b)) 0 0 (fun _ => False) := by
  refine mo_of hM (by decide +kernel) (Nat.le_of_ble_eq_true rfl) (fun p e s m below meth c S hr hlocks hsz hm hK hZ hA ls hl => ?_)
  subst hsz
  obtain ⟨hx, hb, hml, hown, hts⟩ := id S
  have hl : lv_has ls 1 [(0, .ref (ad 0))] := hl
  have e21 := hb1.1
  have e31 := hb1.2.1
  have e41 := hb1.2.2.1
  have hv1 := hvb.1
  have hv2 := hvb.2.1
  have hv3 := hvb.2.2
  refine lv_aload_n hx hb d_Mo_power_0 rfl (lv_at hl 0 rfl) ?_
  refine mo_get 3 S hK hm (by decide) k469 rfl rfl d_Mo_power_1 ?_
  refine fm_iconst S d_Mo_power_4 ?_
  refine mo_iald 2 S hK hm (by decide) (by simp only [moLen]; omega) d_Mo_power_5 ?_
  refine fm_if_ne (tgt := 11) S (by omega) d_Mo_power_6 (by decide) (fun c1 => ?_) (fun c1 => ?_)
  · refine lv_aload_n hx hb d_Mo_power_11 rfl (lv_at hl 0 rfl) ?_
    refine mo_get 4 S hK hm (by decide) k470 rfl rfl d_Mo_power_12 ?_
    refine fm_iconst S d_Mo_power_15 ?_
    refine mo_iald 3 S hK hm (by decide) (by simp only [moLen]; omega) d_Mo_power_16 ?_
    refine fm_if_lt (tgt := 29) S (by omega) d_Mo_power_17 (by decide) (fun c2 => ?_) (fun c2 => ?_)
    · refine fm_bipush S d_Mo_power_29 (by decide) ?_
      refine fm_iretS S hr hlocks d_Mo_power_31 ?_
      exact (pw_100 (by omega) (by omega)).symm
    · refine lv_aload_n hx hb d_Mo_power_20 rfl (lv_at hl 0 rfl) ?_
      refine fm_iconst S d_Mo_power_21 ?_
      refine mo_pi (n := 1) (As := [.int (iN (1))]) (rest := []) S hK hZo hZ hA hm (fun μ sz hM => t_Mo_topOf l D cs Z hZo ad μ V M sz 1 hM (by omega)) (gV k591 k593 ks29 k6 k594) (by decide) (by decide +kernel) rfl hl.1 rfl (Nat.le_of_ble_eq_true rfl) ⟨Nat.le_of_ble_eq_true rfl, Nat.le_of_ble_eq_true rfl⟩ d_Mo_power_22 (fun x4 q3 => ?_)
      refine fm_iconst S d_Mo_power_25 ?_
      refine fm_icmp_le (tgt := 32) S (by omega) (by omega) d_Mo_power_26 (by decide) (fun c5 => ?_) (fun c5 => ?_)
      · refine lv_aload_n hx hb d_Mo_power_32 rfl (lv_at hl 0 rfl) ?_
        refine mo_get 5 S hK hm (by decide) k471 rfl rfl d_Mo_power_33 ?_
        refine fm_iconst S d_Mo_power_36 ?_
        refine mo_iald 4 S hK hm (by decide) (by simp only [moLen]; omega) d_Mo_power_37 ?_
        refine lv_aload_n hx hb d_Mo_power_38 rfl (lv_at hl 0 rfl) ?_
        refine fm_iconst S d_Mo_power_39 ?_
        refine fm_iconst S d_Mo_power_40 ?_
        refine mo_pi (n := 2) (As := [.int (iN (1)), .int (iN (0))]) (rest := [.int (iN ((M 4 1)))]) S hK hZo hZ hA hm (fun μ sz hM => t_Mo_digitAt l D cs Z hZo ad μ V M sz 1 0 (nd (cN b)) (cN b) (cX b) (sgn b) hM (by omega) hb1 (by omega)) (gV k599 k601 ks31 k6 k602) (by decide) (by decide +kernel) rfl hl.1 rfl (Nat.le_of_ble_eq_true rfl) ⟨Nat.le_of_ble_eq_true rfl, Nat.le_of_ble_eq_true rfl⟩ d_Mo_power_41 (fun x7 q6 => ?_)
        have hdi1 := dgt_in (cN b) (cX b) 0
        refine fm_bipush S d_Mo_power_44 (by decide) ?_
        refine lv_aload_n hx hb d_Mo_power_46 rfl (lv_at hl 0 rfl) ?_
        refine fm_iconst S d_Mo_power_47 ?_
        refine fm_iconst S d_Mo_power_48 ?_
        refine mo_pi (n := 2) (As := [.int (iN (1)), .int (iN (1))]) (rest := [.int (iN (10)), .int (iN (x7)), .int (iN ((M 4 1)))]) S hK hZo hZ hA hm (fun μ sz hM => t_Mo_digitAt l D cs Z hZo ad μ V M sz 1 1 (nd (cN b)) (cN b) (cX b) (sgn b) hM (by omega) hb1 (by omega)) (gV k599 k601 ks31 k6 k602) (by decide) (by decide +kernel) rfl hl.1 rfl (Nat.le_of_ble_eq_true rfl) ⟨Nat.le_of_ble_eq_true rfl, Nat.le_of_ble_eq_true rfl⟩ d_Mo_power_49 (fun x9 q8 => ?_)
        have hdi2 := dgt_in (cN b) (cX b) 1
        refine fm_imul S d_Mo_power_52 ?_
        refine fm_iadd S d_Mo_power_53 ?_
        refine fm_imul S d_Mo_power_54 ?_
        refine fm_iretS S hr hlocks d_Mo_power_55 ?_
        rw [pw_v (by omega) (by omega), e41, q6, q8]
      · refine fm_bipush S d_Mo_power_29 (by decide) ?_
        refine fm_iretS S hr hlocks d_Mo_power_31 ?_
        exact (pw_100 (by omega) (by omega)).symm
  · refine fm_iconst S d_Mo_power_9 ?_
    refine fm_iretS S hr hlocks d_Mo_power_10 ?_
    exact (pw_0 (by omega)).symm

set_option maxHeartbeats 4000000 in
set_option maxRecDepth 100000 in
/-- L_raise -/
theorem L_raise {p : Program} {l : Launch} {e : Env} {s : State} {m : MethodId} {args : Array Value} {below : List Frame} {meth : Method} {c : Code} {Q : State → Prop} {D : va_G} {cs : Nat → ClassId} {Z : (Nat → Prop) → State → Heap → Prop} {ad : Nat → Nat} {μ0 : fm_Mu} {A : Nat → Prop}  (S : CallFix p m c c_Mo_raise 4 s args wA "ArithmeticFormsModel") (hK : va_K D clsA (tysA cs) s) (hZo : fm_Zok Z) (hZ : Z A s s.heap) (hA : ∀ q, s.heap.size ≤ q → A q) (V : Nat → Int) (M0 : Nat → Int → Int) (a n : Int) (most : Nat) (hva : vB a) (hn0 : -100 ≤ n ∧ n ≤ 100) (hpr : V 1 = (most : Int) ∧ 1 ≤ most ∧ most ≤ 31) (kk102 : ∀ (M : Nat → Int → Int) (k : Int) (bad : Int) (kk : Nat) (H : Heap) (locs : List Loc) (ls : Array Slot), (kk ≤ n.natAbs ∧ (kk = n.natAbs ∨ bad ≠ 0)) → (bad = (sPowN most a kk).1) → (bad = 0 → Rv M 2 (sPowN most a kk).2) → (FrO M0 M) → lv_has ls 4 [(3, .int (iN (k))), (2, .int (iN (bad))), (0, .ref (ad 0)), (1, .int (iN (n)))] → moW D A s.heap μ0 cs ad V M H locs → W p l e ({ frames := 3, cells := 0, slots := 0, locals := 72 }) s m args below meth c H locs 0 0 Q (F0 m 102 ls [])) : ∀ (fu : Nat) (M : Nat → Int → Int) (k : Int) (bad : Int) (kk : Nat) (H : Heap) (locs : List Loc) (ls : Array Slot), (n.natAbs : Int) - k < (fu : Int) → (k = kk ∧ kk ≤ n.natAbs) → (bad = (sPowN most a kk).1) → (bad = 0 → Rv M 2 (sPowN most a kk).2) → (Rv M 6 a) → (FrO M0 M) → lv_has ls 4 [(3, .int (iN (k))), (2, .int (iN (bad))), (0, .ref (ad 0)), (1, .int (iN (n)))] → moW D A s.heap μ0 cs ad V M H locs → W p l e ({ frames := 3, cells := 0, slots := 0, locals := 72 }) s m args below meth c H locs 0 0 Q (F0 m 59 ls []) := by
  obtain ⟨hx, hb, hml, hown, hts⟩ := id S
  intro fu
  induction fu with
  | zero =>
    intro M k bad kk H locs ls hn hk hbd0 hC hQ hF hl hm
    exfalso; omega
  | succ fu ih =>
    intro M k bad kk H locs ls hn hk hbd0 hC hQ hF hl hm
    have hb01 := sPowN_1 most a kk
    rw [← hbd0] at hb01
    refine lv_iload_n hx hb d_Mo_raise_59 rfl (lv_at hl 0 rfl) ?_
    refine mo_join (P := fun y => y = (n.natAbs : Int)) (g := fun y => F0 m 71 ls ([.int (iN (y)), .int (iN (k))])) (fun y hy => ?_) (fun key => ?_)
    · refine fm_icmp_ge (tgt := 102) S (by omega) (by omega) d_Mo_raise_71 (by decide) (fun c1 => ?_) (fun c1 => ?_)
      · exact kk102 M k bad kk _ _ _ (by omega) (hbd0) (hC) (hF) (lv_sub hl [0, 1, 2, 3] rfl) hm
      · refine lv_iload_n hx hb d_Mo_raise_74 rfl (lv_at hl 1 rfl) ?_
        refine fm_if_ne (tgt := 102) S (by omega) d_Mo_raise_75 (by decide) (fun c2 => ?_) (fun c2 => ?_)
        · exact kk102 M k bad kk _ _ _ (by omega) (hbd0) (hC) (hF) (lv_sub hl [0, 1, 2, 3] rfl) hm
        · have hC1 := hC c2
          have hvC := sPowN_vB (a := a) hpr.2 kk
          have h31 := hvC.1
          have h32 := hva.1
          rw [c2] at hbd0
          refine lv_aload_n hx hb d_Mo_raise_78 rfl (lv_at hl 2 rfl) ?_
          refine fm_iconst S d_Mo_raise_79 ?_
          refine fm_iconst S d_Mo_raise_80 ?_
          refine mo_cvS (n := 2) (As := [.int (iN (2)), .int (iN (0))]) (rest := []) S hK hZo hZ hA hm (fun μ sz hM => t_Mo_copy l D cs Z hZo ad μ V M sz 2 0 (nd (cN (sPowN most a kk).2)) (cN (sPowN most a kk).2) (cX (sPowN most a kk).2) (sgn (sPowN most a kk).2) hM hC1 (by omega)) (gV k587 k589 ks28 k6 k590) (by decide) (by decide +kernel) rfl hl.1 rfl (Nat.le_of_ble_eq_true rfl) ⟨Nat.le_of_ble_eq_true rfl, Nat.le_of_ble_eq_true rfl⟩ d_Mo_raise_81 (fun M4 H locs q3 hm => ?_)
          obtain ⟨frM4, rgM4⟩ := q3
          have hQ1 := frM4.rv (by decide) hva hQ
          refine lv_aload_n hx hb d_Mo_raise_84 rfl (lv_at hl 2 rfl) ?_
          refine fm_bipush S d_Mo_raise_85 (by decide) ?_
          refine fm_iconst S d_Mo_raise_87 ?_
          refine mo_cvS (n := 2) (As := [.int (iN (6)), .int (iN (1))]) (rest := []) S hK hZo hZ hA hm (fun μ sz hM => t_Mo_copy l D cs Z hZo ad μ V M4 sz 6 1 (nd (cN a)) (cN a) (cX a) (sgn a) hM hQ1 (by omega)) (gV k587 k589 ks28 k6 k590) (by decide) (by decide +kernel) rfl hl.1 rfl (Nat.le_of_ble_eq_true rfl) ⟨Nat.le_of_ble_eq_true rfl, Nat.le_of_ble_eq_true rfl⟩ d_Mo_raise_88 (fun M6 H locs q5 hm => ?_)
          obtain ⟨frM6, rgM6⟩ := q5
          have hA2 : Rv M6 0 (sPowN most a kk).2 := frM6.rv (by decide) hvC rgM4
          refine lv_aload_n hx hb d_Mo_raise_91 rfl (lv_at hl 2 rfl) ?_
          refine mo_ciS (n := 0) (As := []) (rest := []) S hK hZo hZ hA hm (fun μ sz hM => t_Mo_multiply l D cs Z hZo ad μ V M6 sz most (nd (cN (sPowN most a kk).2)) (cN (sPowN most a kk).2) (nd (cN a)) (cN a) (cX (sPowN most a kk).2) (sgn (sPowN most a kk).2) (cX a) (sgn a) hM hA2 rgM6 (mul_bd hvC hva) (sg_bd _ _) hpr) (gV k603 k605 ks32 k6 k606) (by decide) (by decide +kernel) rfl hl.1 rfl (Nat.le_of_ble_eq_true rfl) ⟨Nat.le_of_ble_eq_true rfl, Nat.le_of_ble_eq_true rfl⟩ d_Mo_raise_92 (fun x9 M8 H locs q7 hm => ?_)
          have frM8 := q7.1
          have rsM8 := mul_res hpr.2 hvC hva q7.2
          rw [← sPowN_s hbd0.symm] at rsM8
          have hFm := ((hF.tr (frM4.o (by decide))).tr (frM6.o (by decide))).tr (frM8.o (by decide))
          have hQm := frM8.rv (by decide) hva (frM6.rv (by decide) hva hQ1)
          refine lv_istore_n (lv' := [(2, .int (iN (x9))), (3, .int (iN (k))), (0, .ref (ad 0)), (1, .int (iN (n)))]) hx hb d_Mo_raise_95 rfl hl (by decide) rfl (fun ls hl => ?_)
          refine lv_iinc (v := iN ((k + 1))) (lv' := [(3, .int (iN ((k + 1)))), (2, .int (iN (x9))), (0, .ref (ad 0)), (1, .int (iN (n)))]) hx hb d_Mo_raise_96 hl (k := 1) rfl (iN_add _ _) (by decide) rfl (fun ls hl => ?_)
          refine lv_goto (tgt := 59) hx hb d_Mo_raise_99 (by decide) ?_
          exact ih M8 (k + 1) x9 (kk + 1) _ _ _ (by omega) (by omega) (rsM8.1) (rsM8.2) (hQm) (hFm) (lv_sub hl [0, 1, 2, 3] rfl) hm
    · refine lv_iload_n hx hb d_Mo_raise_60 rfl (lv_at hl 3 rfl) ?_
      refine fm_if_ge (tgt := 70) S (by omega) d_Mo_raise_61 (by decide) (fun c10 => ?_) (fun c10 => ?_)
      · refine lv_iload_n hx hb d_Mo_raise_70 rfl (lv_at hl 3 rfl) ?_
        exact key _ (by omega)
      · refine fm_iconst S d_Mo_raise_64 ?_
        refine lv_iload_n hx hb d_Mo_raise_65 rfl (lv_at hl 3 rfl) ?_
        refine fm_isub S d_Mo_raise_66 ?_
        refine lv_goto (tgt := 71) hx hb d_Mo_raise_67 (by decide) ?_
        exact key _ (by omega)

set_option maxHeartbeats 4000000 in
set_option maxRecDepth 100000 in
/-- raise() -/
theorem t_Mo_raise (l : Launch) (D : va_G) (cs : Nat → ClassId) (Z : (Nat → Prop) → State → Heap → Prop) (hZo : fm_Zok Z) (ad : Nat → Nat) (μ : fm_Mu) (V : Nat → Int) (M : Nat → Int → Int) (sz : Nat) (most : Nat) (a : Int) (b : Int) (hM : moS cs μ ad V M) (hra : Rv M 0 a) (hrb : Rv M 1 b) (hva : vB a) (hvb : vB b) (hpr : V 1 = (most : Int) ∧ 1 ≤ most ∧ most ≤ 31) : Met l y_Mo_raise (Cond.code y_Mo_raise c_Mo_raise 4 (some .int) :: wA) ({ frames := 3, cells := 0, slots := 0, locals := 72 }) (fm_Pc D clsA (tysA cs) Z μ sz [.ref (ad 0)]) (moQi D cs ad μ sz (fun z V' M' => V' = V ∧ FrO M M' ∧ resOk M' z (sPow most a b))) 0 0 (fm_A μ sz) := by
  refine mo_of hM (by decide +kernel) (Nat.le_of_ble_eq_true rfl) (fun p e s m below meth c S hr hlocks hsz hm hK hZ hA ls hl => ?_)
  subst hsz
  obtain ⟨hx, hb, hml, hown, hts⟩ := id S
  have hl : lv_has ls 4 [(0, .ref (ad 0))] := hl
  have e20 := hra.1
  have hv1 := hva.1
  refine lv_aload_n hx hb d_Mo_raise_0 rfl (lv_at hl 0 rfl) ?_
  refine mo_pi (n := 0) (As := []) (rest := []) S hK hZo hZ hA hm (fun μ sz hM => t_Mo_power l D cs Z hZo ad μ V M sz b hM hrb hvb) (gV k623 k625 ks37 k6 k626) (by decide) (by decide +kernel) rfl hl.1 rfl (Nat.le_of_ble_eq_true rfl) ⟨Nat.le_of_ble_eq_true rfl, Nat.le_of_ble_eq_true rfl⟩ d_Mo_raise_1 (fun x2 q1 => ?_)
  have hpi := pw_in (b := b)
  rw [← q1] at hpi
  refine lv_istore_n (lv' := [(1, .int (iN (x2))), (0, .ref (ad 0))]) hx hb d_Mo_raise_4 rfl hl (by decide) rfl (fun ls hl => ?_)
  refine lv_iload_n hx hb d_Mo_raise_5 rfl (lv_at hl 0 rfl) ?_
  refine fm_bipush S d_Mo_raise_6 (by decide) ?_
  refine fm_icmp_eq (tgt := 24) S (by omega) (by omega) d_Mo_raise_8 (by decide) (fun c3 => ?_) (fun c3 => ?_)
  · refine fm_iconst S d_Mo_raise_24 ?_
    refine mo_iret S hr hlocks hK hm d_Mo_raise_25 ?_
    rw [sPow_1 (by rw [← q1]; first | exact Or.inl (by omega) | exact Or.inr ⟨by omega, ndc_0 (by omega)⟩)]
    exact ⟨rfl, FrO.rf, res_r (by decide)⟩
  · refine lv_iload_n hx hb d_Mo_raise_11 rfl (lv_at hl 0 rfl) ?_
    refine fm_if_ne (tgt := 26) S (by omega) d_Mo_raise_12 (by decide) (fun c4 => ?_) (fun c4 => ?_)
    · refine lv_iload_n hx hb d_Mo_raise_26 rfl (lv_at hl 0 rfl) ?_
      refine fm_if_ge (tgt := 41) S (by omega) d_Mo_raise_27 (by decide) (fun c5 => ?_) (fun c5 => ?_)
      · have hza : a = 0 → 0 < x2 := fun e => by
          have h9 : nd (cN a) = 0 := by rw [e]; exact nz_0
          omega
        refine lv_aload_n hx hb d_Mo_raise_41 rfl (lv_at hl 1 rfl) ?_
        refine fm_iconst S d_Mo_raise_42 ?_
        refine fm_bipush S d_Mo_raise_43 (by decide) ?_
        refine mo_cvS (n := 2) (As := [.int (iN (0)), .int (iN (6))]) (rest := []) S hK hZo hZ hA hm (fun μ sz hM => t_Mo_copy l D cs Z hZo ad μ V M sz 0 6 (nd (cN a)) (cN a) (cX a) (sgn a) hM hra (by omega)) (gV k587 k589 ks28 k6 k590) (by decide) (by decide +kernel) rfl hl.1 rfl (Nat.le_of_ble_eq_true rfl) ⟨Nat.le_of_ble_eq_true rfl, Nat.le_of_ble_eq_true rfl⟩ d_Mo_raise_45 (fun M7 H locs q6 hm => ?_)
        obtain ⟨frM7, rgM7⟩ := q6
        refine lv_aload_n hx hb d_Mo_raise_48 rfl (lv_at hl 1 rfl) ?_
        refine fm_lconst1 S d_Mo_raise_49 ?_
        refine fm_iconst S d_Mo_raise_50 ?_
        refine fm_iconst S d_Mo_raise_51 ?_
        refine mo_cvS (n := 3) (As := [.long (jN (1)), .int (iN (0)), .int (iN (2))]) (rest := []) S hK hZo hZ hA hm (fun μ sz hM => t_Mo_whole l D cs Z hZo ad μ V M7 sz 1 0 2 hM (by omega) (by omega)) (gV k546 k548 ks19 k6 k549) (by decide) (by decide +kernel) rfl hl.1 rfl (Nat.le_of_ble_eq_true rfl) ⟨Nat.le_of_ble_eq_true rfl, Nat.le_of_ble_eq_true rfl⟩ d_Mo_raise_52 (fun M9 H locs q8 hm => ?_)
        obtain ⟨frM9, rgM9⟩ := q8
        refine fm_iconst S d_Mo_raise_55 ?_
        refine lv_istore_n (lv' := [(2, .int (iN (0))), (1, .int (iN (x2))), (0, .ref (ad 0))]) hx hb d_Mo_raise_56 rfl hl (by decide) rfl (fun ls hl => ?_)
        refine fm_iconst S d_Mo_raise_57 ?_
        refine lv_istore_n (lv' := [(3, .int (iN (0))), (2, .int (iN (0))), (1, .int (iN (x2))), (0, .ref (ad 0))]) hx hb d_Mo_raise_58 rfl hl (by decide) rfl (fun ls hl => ?_)
        have hC0 := one_rv rgM9
        have hQ0 : Rv M9 6 a := frM9.rv (by decide) hva rgM7
        have hF0 := (frM7.o (by decide)).tr (frM9.o (by decide))
        refine L_raise (Z := Z) S hK hZo hZ hA V M a x2 most hva (by omega) hpr (fun M10 k bad kk H locs ls hkk hbd0 hC hF hl hm => ?_) (x2.natAbs + 1) M9 0 0 0 _ _ _ (by omega) (by omega) (rfl) (fun _ => hC0) (hQ0) (hF0) (lv_sub hl [0, 1, 3, 2] rfl) hm
        have hb01 := sPowN_1 most a kk
        rw [← hbd0] at hb01
        have hS : sPowN most a (pw b).natAbs = sPowN most a kk := by
          rw [← q1]
          rcases hkk.2 with e | e
          · rw [e]
          · exact sPowN_stop (by rw [← hbd0]; exact e) hkk.1
        refine lv_iload_n hx hb d_Mo_raise_102 rfl (lv_at hl 3 rfl) ?_
        refine fm_if_ge (tgt := 110) S (by omega) d_Mo_raise_103 (by decide) (fun c11 => ?_) (fun c11 => ?_)
        · refine lv_iload_n hx hb d_Mo_raise_110 rfl (lv_at hl 1 rfl) ?_
          refine mo_iret S hr hlocks hK hm d_Mo_raise_111 ?_
          rw [sPow_r (by rw [← q1]; omega) (by rw [← q1]; exact hza) (by rw [← q1, q1, hS, ← hbd0]; omega), hS]
          exact ⟨rfl, hF, hbd0, hC⟩
        · refine lv_iload_n hx hb d_Mo_raise_106 rfl (lv_at hl 1 rfl) ?_
          refine fm_if_eq (tgt := 112) S (by omega) d_Mo_raise_107 (by decide) (fun c12 => ?_) (fun c12 => ?_)
          · have hC1 := hC c12
            have hvC := sPowN_vB (a := a) hpr.2 kk
            have h31 := hvC.1
            refine lv_aload_n hx hb d_Mo_raise_112 rfl (lv_at hl 2 rfl) ?_
            refine fm_iconst S d_Mo_raise_113 ?_
            refine fm_iconst S d_Mo_raise_114 ?_
            refine mo_cvS (n := 2) (As := [.int (iN (2)), .int (iN (1))]) (rest := []) S hK hZo hZ hA hm (fun μ sz hM => t_Mo_copy l D cs Z hZo ad μ V M10 sz 2 1 (nd (cN (sPowN most a kk).2)) (cN (sPowN most a kk).2) (cX (sPowN most a kk).2) (sgn (sPowN most a kk).2) hM hC1 (by omega)) (gV k587 k589 ks28 k6 k590) (by decide) (by decide +kernel) rfl hl.1 rfl (Nat.le_of_ble_eq_true rfl) ⟨Nat.le_of_ble_eq_true rfl, Nat.le_of_ble_eq_true rfl⟩ d_Mo_raise_115 (fun M14 H locs q13 hm => ?_)
            obtain ⟨frM14, rgM14⟩ := q13
            refine lv_aload_n hx hb d_Mo_raise_118 rfl (lv_at hl 2 rfl) ?_
            refine fm_lconst1 S d_Mo_raise_119 ?_
            refine fm_iconst S d_Mo_raise_120 ?_
            refine fm_iconst S d_Mo_raise_121 ?_
            refine mo_cvS (n := 3) (As := [.long (jN (1)), .int (iN (0)), .int (iN (0))]) (rest := []) S hK hZo hZ hA hm (fun μ sz hM => t_Mo_whole l D cs Z hZo ad μ V M14 sz 1 0 0 hM (by omega) (by omega)) (gV k546 k548 ks19 k6 k549) (by decide) (by decide +kernel) rfl hl.1 rfl (Nat.le_of_ble_eq_true rfl) ⟨Nat.le_of_ble_eq_true rfl, Nat.le_of_ble_eq_true rfl⟩ d_Mo_raise_122 (fun M16 H locs q15 hm => ?_)
            obtain ⟨frM16, rgM16⟩ := q15
            have hA2 := one_rv rgM16
            have hB2 : Rv M16 1 (sPowN most a kk).2 := frM16.rv (by decide) hvC rgM14
            refine lv_aload_n hx hb d_Mo_raise_125 rfl (lv_at hl 2 rfl) ?_
            refine mo_ciS (n := 0) (As := []) (rest := []) S hK hZo hZ hA hm (fun μ sz hM => t_Mo_divide l D cs Z hZo ad μ V M16 sz most (nd (cN one300)) (cN one300) (nd (cN (sPowN most a kk).2)) (cN (sPowN most a kk).2) (cX one300) (sgn one300) (cX (sPowN most a kk).2) (sgn (sPowN most a kk).2) hM hA2 hB2 (div_bd one_vB hvC) ndc_nz (sg_bd _ _) hpr) (gV k607 k609 ks33 k6 k610) (by decide) (by decide +kernel) rfl hl.1 rfl (Nat.le_of_ble_eq_true rfl) ⟨Nat.le_of_ble_eq_true rfl, Nat.le_of_ble_eq_true rfl⟩ d_Mo_raise_126 (fun x19 M18 H locs q17 hm => ?_)
            have frM18 := q17.1
            have rsM18 := div_res hpr.2 one_vB hvC q17.2
            refine mo_iret S hr hlocks hK hm d_Mo_raise_129 ?_
            rw [sPow_d (fun e => by have := hza e; omega) (by rw [← q1]; omega) (by rw [hS, ← hbd0]; exact c12), hS]
            exact ⟨rfl, ((hF.tr (frM14.o (by decide))).tr (frM16.o (by decide))).tr (frM18.o (by decide)), rsM18⟩
          · refine lv_iload_n hx hb d_Mo_raise_110 rfl (lv_at hl 1 rfl) ?_
            refine mo_iret S hr hlocks hK hm d_Mo_raise_111 ?_
            rw [sPow_r (by rw [← q1]; omega) (by rw [← q1]; exact hza) (by rw [← q1, q1, hS, ← hbd0]; omega), hS]
            exact ⟨rfl, hF, hbd0, hC⟩
      · refine lv_aload_n hx hb d_Mo_raise_30 rfl (lv_at hl 1 rfl) ?_
        refine mo_get 3 S hK hm (by decide) k469 rfl rfl d_Mo_raise_31 ?_
        refine fm_iconst S d_Mo_raise_34 ?_
        refine mo_iald 2 S hK hm (by decide) (by simp only [moLen]; omega) d_Mo_raise_35 ?_
        refine fm_if_ne (tgt := 41) S (by omega) d_Mo_raise_36 (by decide) (fun c20 => ?_) (fun c20 => ?_)
        · have hza : a = 0 → 0 < x2 := fun e => by
            have h9 : nd (cN a) = 0 := by rw [e]; exact nz_0
            omega
          refine lv_aload_n hx hb d_Mo_raise_41 rfl (lv_at hl 1 rfl) ?_
          refine fm_iconst S d_Mo_raise_42 ?_
          refine fm_bipush S d_Mo_raise_43 (by decide) ?_
          refine mo_cvS (n := 2) (As := [.int (iN (0)), .int (iN (6))]) (rest := []) S hK hZo hZ hA hm (fun μ sz hM => t_Mo_copy l D cs Z hZo ad μ V M sz 0 6 (nd (cN a)) (cN a) (cX a) (sgn a) hM hra (by omega)) (gV k587 k589 ks28 k6 k590) (by decide) (by decide +kernel) rfl hl.1 rfl (Nat.le_of_ble_eq_true rfl) ⟨Nat.le_of_ble_eq_true rfl, Nat.le_of_ble_eq_true rfl⟩ d_Mo_raise_45 (fun M22 H locs q21 hm => ?_)
          obtain ⟨frM22, rgM22⟩ := q21
          refine lv_aload_n hx hb d_Mo_raise_48 rfl (lv_at hl 1 rfl) ?_
          refine fm_lconst1 S d_Mo_raise_49 ?_
          refine fm_iconst S d_Mo_raise_50 ?_
          refine fm_iconst S d_Mo_raise_51 ?_
          refine mo_cvS (n := 3) (As := [.long (jN (1)), .int (iN (0)), .int (iN (2))]) (rest := []) S hK hZo hZ hA hm (fun μ sz hM => t_Mo_whole l D cs Z hZo ad μ V M22 sz 1 0 2 hM (by omega) (by omega)) (gV k546 k548 ks19 k6 k549) (by decide) (by decide +kernel) rfl hl.1 rfl (Nat.le_of_ble_eq_true rfl) ⟨Nat.le_of_ble_eq_true rfl, Nat.le_of_ble_eq_true rfl⟩ d_Mo_raise_52 (fun M24 H locs q23 hm => ?_)
          obtain ⟨frM24, rgM24⟩ := q23
          refine fm_iconst S d_Mo_raise_55 ?_
          refine lv_istore_n (lv' := [(2, .int (iN (0))), (1, .int (iN (x2))), (0, .ref (ad 0))]) hx hb d_Mo_raise_56 rfl hl (by decide) rfl (fun ls hl => ?_)
          refine fm_iconst S d_Mo_raise_57 ?_
          refine lv_istore_n (lv' := [(3, .int (iN (0))), (2, .int (iN (0))), (1, .int (iN (x2))), (0, .ref (ad 0))]) hx hb d_Mo_raise_58 rfl hl (by decide) rfl (fun ls hl => ?_)
          have hC0 := one_rv rgM24
          have hQ0 : Rv M24 6 a := frM24.rv (by decide) hva rgM22
          have hF0 := (frM22.o (by decide)).tr (frM24.o (by decide))
          refine L_raise (Z := Z) S hK hZo hZ hA V M a x2 most hva (by omega) hpr (fun M25 k bad kk H locs ls hkk hbd0 hC hF hl hm => ?_) (x2.natAbs + 1) M24 0 0 0 _ _ _ (by omega) (by omega) (rfl) (fun _ => hC0) (hQ0) (hF0) (lv_sub hl [0, 1, 3, 2] rfl) hm
          have hb01 := sPowN_1 most a kk
          rw [← hbd0] at hb01
          have hS : sPowN most a (pw b).natAbs = sPowN most a kk := by
            rw [← q1]
            rcases hkk.2 with e | e
            · rw [e]
            · exact sPowN_stop (by rw [← hbd0]; exact e) hkk.1
          refine lv_iload_n hx hb d_Mo_raise_102 rfl (lv_at hl 3 rfl) ?_
          refine fm_if_ge (tgt := 110) S (by omega) d_Mo_raise_103 (by decide) (fun c26 => ?_) (fun c26 => ?_)
          · refine lv_iload_n hx hb d_Mo_raise_110 rfl (lv_at hl 1 rfl) ?_
            refine mo_iret S hr hlocks hK hm d_Mo_raise_111 ?_
            rw [sPow_r (by rw [← q1]; omega) (by rw [← q1]; exact hza) (by rw [← q1, q1, hS, ← hbd0]; omega), hS]
            exact ⟨rfl, hF, hbd0, hC⟩
          · refine lv_iload_n hx hb d_Mo_raise_106 rfl (lv_at hl 1 rfl) ?_
            refine fm_if_eq (tgt := 112) S (by omega) d_Mo_raise_107 (by decide) (fun c27 => ?_) (fun c27 => ?_)
            · have hC1 := hC c27
              have hvC := sPowN_vB (a := a) hpr.2 kk
              have h31 := hvC.1
              refine lv_aload_n hx hb d_Mo_raise_112 rfl (lv_at hl 2 rfl) ?_
              refine fm_iconst S d_Mo_raise_113 ?_
              refine fm_iconst S d_Mo_raise_114 ?_
              refine mo_cvS (n := 2) (As := [.int (iN (2)), .int (iN (1))]) (rest := []) S hK hZo hZ hA hm (fun μ sz hM => t_Mo_copy l D cs Z hZo ad μ V M25 sz 2 1 (nd (cN (sPowN most a kk).2)) (cN (sPowN most a kk).2) (cX (sPowN most a kk).2) (sgn (sPowN most a kk).2) hM hC1 (by omega)) (gV k587 k589 ks28 k6 k590) (by decide) (by decide +kernel) rfl hl.1 rfl (Nat.le_of_ble_eq_true rfl) ⟨Nat.le_of_ble_eq_true rfl, Nat.le_of_ble_eq_true rfl⟩ d_Mo_raise_115 (fun M29 H locs q28 hm => ?_)
              obtain ⟨frM29, rgM29⟩ := q28
              refine lv_aload_n hx hb d_Mo_raise_118 rfl (lv_at hl 2 rfl) ?_
              refine fm_lconst1 S d_Mo_raise_119 ?_
              refine fm_iconst S d_Mo_raise_120 ?_
              refine fm_iconst S d_Mo_raise_121 ?_
              refine mo_cvS (n := 3) (As := [.long (jN (1)), .int (iN (0)), .int (iN (0))]) (rest := []) S hK hZo hZ hA hm (fun μ sz hM => t_Mo_whole l D cs Z hZo ad μ V M29 sz 1 0 0 hM (by omega) (by omega)) (gV k546 k548 ks19 k6 k549) (by decide) (by decide +kernel) rfl hl.1 rfl (Nat.le_of_ble_eq_true rfl) ⟨Nat.le_of_ble_eq_true rfl, Nat.le_of_ble_eq_true rfl⟩ d_Mo_raise_122 (fun M31 H locs q30 hm => ?_)
              obtain ⟨frM31, rgM31⟩ := q30
              have hA2 := one_rv rgM31
              have hB2 : Rv M31 1 (sPowN most a kk).2 := frM31.rv (by decide) hvC rgM29
              refine lv_aload_n hx hb d_Mo_raise_125 rfl (lv_at hl 2 rfl) ?_
              refine mo_ciS (n := 0) (As := []) (rest := []) S hK hZo hZ hA hm (fun μ sz hM => t_Mo_divide l D cs Z hZo ad μ V M31 sz most (nd (cN one300)) (cN one300) (nd (cN (sPowN most a kk).2)) (cN (sPowN most a kk).2) (cX one300) (sgn one300) (cX (sPowN most a kk).2) (sgn (sPowN most a kk).2) hM hA2 hB2 (div_bd one_vB hvC) ndc_nz (sg_bd _ _) hpr) (gV k607 k609 ks33 k6 k610) (by decide) (by decide +kernel) rfl hl.1 rfl (Nat.le_of_ble_eq_true rfl) ⟨Nat.le_of_ble_eq_true rfl, Nat.le_of_ble_eq_true rfl⟩ d_Mo_raise_126 (fun x34 M33 H locs q32 hm => ?_)
              have frM33 := q32.1
              have rsM33 := div_res hpr.2 one_vB hvC q32.2
              refine mo_iret S hr hlocks hK hm d_Mo_raise_129 ?_
              rw [sPow_d (fun e => by have := hza e; omega) (by rw [← q1]; omega) (by rw [hS, ← hbd0]; exact c27), hS]
              exact ⟨rfl, ((hF.tr (frM29.o (by decide))).tr (frM31.o (by decide))).tr (frM33.o (by decide)), rsM33⟩
            · refine lv_iload_n hx hb d_Mo_raise_110 rfl (lv_at hl 1 rfl) ?_
              refine mo_iret S hr hlocks hK hm d_Mo_raise_111 ?_
              rw [sPow_r (by rw [← q1]; omega) (by rw [← q1]; exact hza) (by rw [← q1, q1, hS, ← hbd0]; omega), hS]
              exact ⟨rfl, hF, hbd0, hC⟩
        · refine fm_iconst S d_Mo_raise_39 ?_
          refine mo_iret S hr hlocks hK hm d_Mo_raise_40 ?_
          rw [sPow_2 (by rw [← q1]; omega) (ndc_0 (by omega))]
          exact ⟨rfl, FrO.rf, res_r (by decide)⟩
    · refine lv_aload_n hx hb d_Mo_raise_15 rfl (lv_at hl 1 rfl) ?_
      refine mo_get 3 S hK hm (by decide) k469 rfl rfl d_Mo_raise_16 ?_
      refine fm_iconst S d_Mo_raise_19 ?_
      refine mo_iald 2 S hK hm (by decide) (by simp only [moLen]; omega) d_Mo_raise_20 ?_
      refine fm_if_ne (tgt := 26) S (by omega) d_Mo_raise_21 (by decide) (fun c35 => ?_) (fun c35 => ?_)
      · refine lv_iload_n hx hb d_Mo_raise_26 rfl (lv_at hl 0 rfl) ?_
        refine fm_if_ge (tgt := 41) S (by omega) d_Mo_raise_27 (by decide) (fun c36 => ?_) (fun c36 => ?_)
        · have hza : a = 0 → 0 < x2 := fun e => by
            have h9 : nd (cN a) = 0 := by rw [e]; exact nz_0
            omega
          refine lv_aload_n hx hb d_Mo_raise_41 rfl (lv_at hl 1 rfl) ?_
          refine fm_iconst S d_Mo_raise_42 ?_
          refine fm_bipush S d_Mo_raise_43 (by decide) ?_
          refine mo_cvS (n := 2) (As := [.int (iN (0)), .int (iN (6))]) (rest := []) S hK hZo hZ hA hm (fun μ sz hM => t_Mo_copy l D cs Z hZo ad μ V M sz 0 6 (nd (cN a)) (cN a) (cX a) (sgn a) hM hra (by omega)) (gV k587 k589 ks28 k6 k590) (by decide) (by decide +kernel) rfl hl.1 rfl (Nat.le_of_ble_eq_true rfl) ⟨Nat.le_of_ble_eq_true rfl, Nat.le_of_ble_eq_true rfl⟩ d_Mo_raise_45 (fun M38 H locs q37 hm => ?_)
          obtain ⟨frM38, rgM38⟩ := q37
          refine lv_aload_n hx hb d_Mo_raise_48 rfl (lv_at hl 1 rfl) ?_
          refine fm_lconst1 S d_Mo_raise_49 ?_
          refine fm_iconst S d_Mo_raise_50 ?_
          refine fm_iconst S d_Mo_raise_51 ?_
          refine mo_cvS (n := 3) (As := [.long (jN (1)), .int (iN (0)), .int (iN (2))]) (rest := []) S hK hZo hZ hA hm (fun μ sz hM => t_Mo_whole l D cs Z hZo ad μ V M38 sz 1 0 2 hM (by omega) (by omega)) (gV k546 k548 ks19 k6 k549) (by decide) (by decide +kernel) rfl hl.1 rfl (Nat.le_of_ble_eq_true rfl) ⟨Nat.le_of_ble_eq_true rfl, Nat.le_of_ble_eq_true rfl⟩ d_Mo_raise_52 (fun M40 H locs q39 hm => ?_)
          obtain ⟨frM40, rgM40⟩ := q39
          refine fm_iconst S d_Mo_raise_55 ?_
          refine lv_istore_n (lv' := [(2, .int (iN (0))), (1, .int (iN (x2))), (0, .ref (ad 0))]) hx hb d_Mo_raise_56 rfl hl (by decide) rfl (fun ls hl => ?_)
          refine fm_iconst S d_Mo_raise_57 ?_
          refine lv_istore_n (lv' := [(3, .int (iN (0))), (2, .int (iN (0))), (1, .int (iN (x2))), (0, .ref (ad 0))]) hx hb d_Mo_raise_58 rfl hl (by decide) rfl (fun ls hl => ?_)
          have hC0 := one_rv rgM40
          have hQ0 : Rv M40 6 a := frM40.rv (by decide) hva rgM38
          have hF0 := (frM38.o (by decide)).tr (frM40.o (by decide))
          refine L_raise (Z := Z) S hK hZo hZ hA V M a x2 most hva (by omega) hpr (fun M41 k bad kk H locs ls hkk hbd0 hC hF hl hm => ?_) (x2.natAbs + 1) M40 0 0 0 _ _ _ (by omega) (by omega) (rfl) (fun _ => hC0) (hQ0) (hF0) (lv_sub hl [0, 1, 3, 2] rfl) hm
          have hb01 := sPowN_1 most a kk
          rw [← hbd0] at hb01
          have hS : sPowN most a (pw b).natAbs = sPowN most a kk := by
            rw [← q1]
            rcases hkk.2 with e | e
            · rw [e]
            · exact sPowN_stop (by rw [← hbd0]; exact e) hkk.1
          refine lv_iload_n hx hb d_Mo_raise_102 rfl (lv_at hl 3 rfl) ?_
          refine fm_if_ge (tgt := 110) S (by omega) d_Mo_raise_103 (by decide) (fun c42 => ?_) (fun c42 => ?_)
          · refine lv_iload_n hx hb d_Mo_raise_110 rfl (lv_at hl 1 rfl) ?_
            refine mo_iret S hr hlocks hK hm d_Mo_raise_111 ?_
            rw [sPow_r (by rw [← q1]; omega) (by rw [← q1]; exact hza) (by rw [← q1, q1, hS, ← hbd0]; omega), hS]
            exact ⟨rfl, hF, hbd0, hC⟩
          · refine lv_iload_n hx hb d_Mo_raise_106 rfl (lv_at hl 1 rfl) ?_
            refine fm_if_eq (tgt := 112) S (by omega) d_Mo_raise_107 (by decide) (fun c43 => ?_) (fun c43 => ?_)
            · have hC1 := hC c43
              have hvC := sPowN_vB (a := a) hpr.2 kk
              have h31 := hvC.1
              refine lv_aload_n hx hb d_Mo_raise_112 rfl (lv_at hl 2 rfl) ?_
              refine fm_iconst S d_Mo_raise_113 ?_
              refine fm_iconst S d_Mo_raise_114 ?_
              refine mo_cvS (n := 2) (As := [.int (iN (2)), .int (iN (1))]) (rest := []) S hK hZo hZ hA hm (fun μ sz hM => t_Mo_copy l D cs Z hZo ad μ V M41 sz 2 1 (nd (cN (sPowN most a kk).2)) (cN (sPowN most a kk).2) (cX (sPowN most a kk).2) (sgn (sPowN most a kk).2) hM hC1 (by omega)) (gV k587 k589 ks28 k6 k590) (by decide) (by decide +kernel) rfl hl.1 rfl (Nat.le_of_ble_eq_true rfl) ⟨Nat.le_of_ble_eq_true rfl, Nat.le_of_ble_eq_true rfl⟩ d_Mo_raise_115 (fun M45 H locs q44 hm => ?_)
              obtain ⟨frM45, rgM45⟩ := q44
              refine lv_aload_n hx hb d_Mo_raise_118 rfl (lv_at hl 2 rfl) ?_
              refine fm_lconst1 S d_Mo_raise_119 ?_
              refine fm_iconst S d_Mo_raise_120 ?_
              refine fm_iconst S d_Mo_raise_121 ?_
              refine mo_cvS (n := 3) (As := [.long (jN (1)), .int (iN (0)), .int (iN (0))]) (rest := []) S hK hZo hZ hA hm (fun μ sz hM => t_Mo_whole l D cs Z hZo ad μ V M45 sz 1 0 0 hM (by omega) (by omega)) (gV k546 k548 ks19 k6 k549) (by decide) (by decide +kernel) rfl hl.1 rfl (Nat.le_of_ble_eq_true rfl) ⟨Nat.le_of_ble_eq_true rfl, Nat.le_of_ble_eq_true rfl⟩ d_Mo_raise_122 (fun M47 H locs q46 hm => ?_)
              obtain ⟨frM47, rgM47⟩ := q46
              have hA2 := one_rv rgM47
              have hB2 : Rv M47 1 (sPowN most a kk).2 := frM47.rv (by decide) hvC rgM45
              refine lv_aload_n hx hb d_Mo_raise_125 rfl (lv_at hl 2 rfl) ?_
              refine mo_ciS (n := 0) (As := []) (rest := []) S hK hZo hZ hA hm (fun μ sz hM => t_Mo_divide l D cs Z hZo ad μ V M47 sz most (nd (cN one300)) (cN one300) (nd (cN (sPowN most a kk).2)) (cN (sPowN most a kk).2) (cX one300) (sgn one300) (cX (sPowN most a kk).2) (sgn (sPowN most a kk).2) hM hA2 hB2 (div_bd one_vB hvC) ndc_nz (sg_bd _ _) hpr) (gV k607 k609 ks33 k6 k610) (by decide) (by decide +kernel) rfl hl.1 rfl (Nat.le_of_ble_eq_true rfl) ⟨Nat.le_of_ble_eq_true rfl, Nat.le_of_ble_eq_true rfl⟩ d_Mo_raise_126 (fun x50 M49 H locs q48 hm => ?_)
              have frM49 := q48.1
              have rsM49 := div_res hpr.2 one_vB hvC q48.2
              refine mo_iret S hr hlocks hK hm d_Mo_raise_129 ?_
              rw [sPow_d (fun e => by have := hza e; omega) (by rw [← q1]; omega) (by rw [hS, ← hbd0]; exact c43), hS]
              exact ⟨rfl, ((hF.tr (frM45.o (by decide))).tr (frM47.o (by decide))).tr (frM49.o (by decide)), rsM49⟩
            · refine lv_iload_n hx hb d_Mo_raise_110 rfl (lv_at hl 1 rfl) ?_
              refine mo_iret S hr hlocks hK hm d_Mo_raise_111 ?_
              rw [sPow_r (by rw [← q1]; omega) (by rw [← q1]; exact hza) (by rw [← q1, q1, hS, ← hbd0]; omega), hS]
              exact ⟨rfl, hF, hbd0, hC⟩
        · refine lv_aload_n hx hb d_Mo_raise_30 rfl (lv_at hl 1 rfl) ?_
          refine mo_get 3 S hK hm (by decide) k469 rfl rfl d_Mo_raise_31 ?_
          refine fm_iconst S d_Mo_raise_34 ?_
          refine mo_iald 2 S hK hm (by decide) (by simp only [moLen]; omega) d_Mo_raise_35 ?_
          refine fm_if_ne (tgt := 41) S (by omega) d_Mo_raise_36 (by decide) (fun c51 => ?_) (fun c51 => ?_)
          · have hza : a = 0 → 0 < x2 := fun e => by
              have h9 : nd (cN a) = 0 := by rw [e]; exact nz_0
              omega
            refine lv_aload_n hx hb d_Mo_raise_41 rfl (lv_at hl 1 rfl) ?_
            refine fm_iconst S d_Mo_raise_42 ?_
            refine fm_bipush S d_Mo_raise_43 (by decide) ?_
            refine mo_cvS (n := 2) (As := [.int (iN (0)), .int (iN (6))]) (rest := []) S hK hZo hZ hA hm (fun μ sz hM => t_Mo_copy l D cs Z hZo ad μ V M sz 0 6 (nd (cN a)) (cN a) (cX a) (sgn a) hM hra (by omega)) (gV k587 k589 ks28 k6 k590) (by decide) (by decide +kernel) rfl hl.1 rfl (Nat.le_of_ble_eq_true rfl) ⟨Nat.le_of_ble_eq_true rfl, Nat.le_of_ble_eq_true rfl⟩ d_Mo_raise_45 (fun M53 H locs q52 hm => ?_)
            obtain ⟨frM53, rgM53⟩ := q52
            refine lv_aload_n hx hb d_Mo_raise_48 rfl (lv_at hl 1 rfl) ?_
            refine fm_lconst1 S d_Mo_raise_49 ?_
            refine fm_iconst S d_Mo_raise_50 ?_
            refine fm_iconst S d_Mo_raise_51 ?_
            refine mo_cvS (n := 3) (As := [.long (jN (1)), .int (iN (0)), .int (iN (2))]) (rest := []) S hK hZo hZ hA hm (fun μ sz hM => t_Mo_whole l D cs Z hZo ad μ V M53 sz 1 0 2 hM (by omega) (by omega)) (gV k546 k548 ks19 k6 k549) (by decide) (by decide +kernel) rfl hl.1 rfl (Nat.le_of_ble_eq_true rfl) ⟨Nat.le_of_ble_eq_true rfl, Nat.le_of_ble_eq_true rfl⟩ d_Mo_raise_52 (fun M55 H locs q54 hm => ?_)
            obtain ⟨frM55, rgM55⟩ := q54
            refine fm_iconst S d_Mo_raise_55 ?_
            refine lv_istore_n (lv' := [(2, .int (iN (0))), (1, .int (iN (x2))), (0, .ref (ad 0))]) hx hb d_Mo_raise_56 rfl hl (by decide) rfl (fun ls hl => ?_)
            refine fm_iconst S d_Mo_raise_57 ?_
            refine lv_istore_n (lv' := [(3, .int (iN (0))), (2, .int (iN (0))), (1, .int (iN (x2))), (0, .ref (ad 0))]) hx hb d_Mo_raise_58 rfl hl (by decide) rfl (fun ls hl => ?_)
            have hC0 := one_rv rgM55
            have hQ0 : Rv M55 6 a := frM55.rv (by decide) hva rgM53
            have hF0 := (frM53.o (by decide)).tr (frM55.o (by decide))
            refine L_raise (Z := Z) S hK hZo hZ hA V M a x2 most hva (by omega) hpr (fun M56 k bad kk H locs ls hkk hbd0 hC hF hl hm => ?_) (x2.natAbs + 1) M55 0 0 0 _ _ _ (by omega) (by omega) (rfl) (fun _ => hC0) (hQ0) (hF0) (lv_sub hl [0, 1, 3, 2] rfl) hm
            have hb01 := sPowN_1 most a kk
            rw [← hbd0] at hb01
            have hS : sPowN most a (pw b).natAbs = sPowN most a kk := by
              rw [← q1]
              rcases hkk.2 with e | e
              · rw [e]
              · exact sPowN_stop (by rw [← hbd0]; exact e) hkk.1
            refine lv_iload_n hx hb d_Mo_raise_102 rfl (lv_at hl 3 rfl) ?_
            refine fm_if_ge (tgt := 110) S (by omega) d_Mo_raise_103 (by decide) (fun c57 => ?_) (fun c57 => ?_)
            · refine lv_iload_n hx hb d_Mo_raise_110 rfl (lv_at hl 1 rfl) ?_
              refine mo_iret S hr hlocks hK hm d_Mo_raise_111 ?_
              rw [sPow_r (by rw [← q1]; omega) (by rw [← q1]; exact hza) (by rw [← q1, q1, hS, ← hbd0]; omega), hS]
              exact ⟨rfl, hF, hbd0, hC⟩
            · refine lv_iload_n hx hb d_Mo_raise_106 rfl (lv_at hl 1 rfl) ?_
              refine fm_if_eq (tgt := 112) S (by omega) d_Mo_raise_107 (by decide) (fun c58 => ?_) (fun c58 => ?_)
              · have hC1 := hC c58
                have hvC := sPowN_vB (a := a) hpr.2 kk
                have h31 := hvC.1
                refine lv_aload_n hx hb d_Mo_raise_112 rfl (lv_at hl 2 rfl) ?_
                refine fm_iconst S d_Mo_raise_113 ?_
                refine fm_iconst S d_Mo_raise_114 ?_
                refine mo_cvS (n := 2) (As := [.int (iN (2)), .int (iN (1))]) (rest := []) S hK hZo hZ hA hm (fun μ sz hM => t_Mo_copy l D cs Z hZo ad μ V M56 sz 2 1 (nd (cN (sPowN most a kk).2)) (cN (sPowN most a kk).2) (cX (sPowN most a kk).2) (sgn (sPowN most a kk).2) hM hC1 (by omega)) (gV k587 k589 ks28 k6 k590) (by decide) (by decide +kernel) rfl hl.1 rfl (Nat.le_of_ble_eq_true rfl) ⟨Nat.le_of_ble_eq_true rfl, Nat.le_of_ble_eq_true rfl⟩ d_Mo_raise_115 (fun M60 H locs q59 hm => ?_)
                obtain ⟨frM60, rgM60⟩ := q59
                refine lv_aload_n hx hb d_Mo_raise_118 rfl (lv_at hl 2 rfl) ?_
                refine fm_lconst1 S d_Mo_raise_119 ?_
                refine fm_iconst S d_Mo_raise_120 ?_
                refine fm_iconst S d_Mo_raise_121 ?_
                refine mo_cvS (n := 3) (As := [.long (jN (1)), .int (iN (0)), .int (iN (0))]) (rest := []) S hK hZo hZ hA hm (fun μ sz hM => t_Mo_whole l D cs Z hZo ad μ V M60 sz 1 0 0 hM (by omega) (by omega)) (gV k546 k548 ks19 k6 k549) (by decide) (by decide +kernel) rfl hl.1 rfl (Nat.le_of_ble_eq_true rfl) ⟨Nat.le_of_ble_eq_true rfl, Nat.le_of_ble_eq_true rfl⟩ d_Mo_raise_122 (fun M62 H locs q61 hm => ?_)
                obtain ⟨frM62, rgM62⟩ := q61
                have hA2 := one_rv rgM62
                have hB2 : Rv M62 1 (sPowN most a kk).2 := frM62.rv (by decide) hvC rgM60
                refine lv_aload_n hx hb d_Mo_raise_125 rfl (lv_at hl 2 rfl) ?_
                refine mo_ciS (n := 0) (As := []) (rest := []) S hK hZo hZ hA hm (fun μ sz hM => t_Mo_divide l D cs Z hZo ad μ V M62 sz most (nd (cN one300)) (cN one300) (nd (cN (sPowN most a kk).2)) (cN (sPowN most a kk).2) (cX one300) (sgn one300) (cX (sPowN most a kk).2) (sgn (sPowN most a kk).2) hM hA2 hB2 (div_bd one_vB hvC) ndc_nz (sg_bd _ _) hpr) (gV k607 k609 ks33 k6 k610) (by decide) (by decide +kernel) rfl hl.1 rfl (Nat.le_of_ble_eq_true rfl) ⟨Nat.le_of_ble_eq_true rfl, Nat.le_of_ble_eq_true rfl⟩ d_Mo_raise_126 (fun x65 M64 H locs q63 hm => ?_)
                have frM64 := q63.1
                have rsM64 := div_res hpr.2 one_vB hvC q63.2
                refine mo_iret S hr hlocks hK hm d_Mo_raise_129 ?_
                rw [sPow_d (fun e => by have := hza e; omega) (by rw [← q1]; omega) (by rw [hS, ← hbd0]; exact c58), hS]
                exact ⟨rfl, ((hF.tr (frM60.o (by decide))).tr (frM62.o (by decide))).tr (frM64.o (by decide)), rsM64⟩
              · refine lv_iload_n hx hb d_Mo_raise_110 rfl (lv_at hl 1 rfl) ?_
                refine mo_iret S hr hlocks hK hm d_Mo_raise_111 ?_
                rw [sPow_r (by rw [← q1]; omega) (by rw [← q1]; exact hza) (by rw [← q1, q1, hS, ← hbd0]; omega), hS]
                exact ⟨rfl, hF, hbd0, hC⟩
          · refine fm_iconst S d_Mo_raise_39 ?_
            refine mo_iret S hr hlocks hK hm d_Mo_raise_40 ?_
            rw [sPow_2 (by rw [← q1]; omega) (ndc_0 (by omega))]
            exact ⟨rfl, FrO.rf, res_r (by decide)⟩
      · refine fm_iconst S d_Mo_raise_24 ?_
        refine mo_iret S hr hlocks hK hm d_Mo_raise_25 ?_
        rw [sPow_1 (by rw [← q1]; first | exact Or.inl (by omega) | exact Or.inr ⟨by omega, ndc_0 (by omega)⟩)]
        exact ⟨rfl, FrO.rf, res_r (by decide)⟩
end
section
-- NODES OF THE REFERENCE (own work)
/-- node n is raised as code, or holds v -/
def Nv (M : Nat → Int → Int) (n code v : Int) : Prop := M 10 n = code ∧ M 7 n = nd (cN v) ∧ M 8 n = cX v ∧ M 9 n = sgn v ∧ dOk (M 6) (31 * n) (nd (cN v)) ∧ dv (M 6) (31 * n) (nd (cN v)) = cN v
def LdI (M0 M : Nat → Int → Int) (n r k : Int) : Prop := Fr M0 M r ∧ (M 2 = M0 2 ∧ M 3 = M0 3 ∧ M 4 = M0 4) ∧ ∀ q : Int, 0 ≤ q → q < k → M 1 (320 * r + q) = M0 6 (31 * n + q)
theorem LdI.start (M : Nat → Int → Int) (n r : Int) : LdI M M n r 0 := ⟨Fr.rf, ⟨rfl, rfl, rfl⟩, fun q h1 h2 => by omega⟩
theorem LdI.step {M0 M M1 : Nat → Int → Int} {n r k : Int} (h : LdI M0 M n r k) (hk : 0 ≤ k ∧ k < 320) (e : M1 = setA M 1 (320 * r + k) (M 6 (31 * n + k))) : LdI M0 M1 n r (k + 1) := by
  refine ⟨h.1.tr (Fr.d e hk), ?_, fun q h1 h2 => ?_⟩
  · subst e
    exact ⟨(setA_n (by decide)).trans h.2.1.1, (setA_n (by decide)).trans h.2.1.2.1, (setA_n (by decide)).trans h.2.1.2.2⟩
  · subst e
    rw [setA_s]
    by_cases hq : q = k
    · subst hq
      rw [uI_s, h.1.1 6 (by decide)]
    · rw [uI_n (by omega)]
      exact h.2.2 q h1 (by omega)
theorem LdI.fin {M0 M M1 M2 M3 : Nat → Int → Int} {n r v code : Int} (h : LdI M0 M n r (nd (cN v))) (hg : Nv M0 n code v) (e1 : M1 = setA M 2 r (M 7 n)) (e2 : M2 = setA M1 3 r (M1 8 n)) (e3 : M3 = setA M2 4 r (M2 9 n)) : Fr M0 M3 r ∧ Rv M3 r v := by
  have hF := h.1.tr ((Fr.s e1 (by decide)).tr ((Fr.s e2 (by decide)).tr (Fr.s e3 (by decide))))
  obtain ⟨g0, g1, g2, g3, g4, g5⟩ := hg
  have k7 := h.1.1 7 (by decide)
  have k8 := h.1.1 8 (by decide)
  have k9 := h.1.1 9 (by decide)
  have d1 : M3 1 = M 1 := by subst e3 e2 e1; simp [setA]
  refine ⟨hF, ?_, ?_, ?_, ?_, ?_⟩
  · subst e3 e2 e1; simp [setA, uI]; rw [k7]; exact g1
  · subst e3 e2 e1; simp [setA, uI]; rw [k8]; exact g2
  · subst e3 e2 e1; simp [setA, uI]; rw [k9]; exact g3
  · intro k h1 h2
    rw [d1, h.2.2 k h1 h2]; exact g4 k h1 h2
  · rw [d1, ← g5]
    exact dv_congr (fun k h1 h2 => h.2.2 k h1 h2)
/-- only node n differs -/
def FrN (M M' : Nat → Int → Int) (n : Int) : Prop := (∀ k : Nat, k ≤ 5 ∨ 11 ≤ k → M' k = M k) ∧ (∀ q : Int, q < 31 * n ∨ 31 * n + 31 ≤ q → M' 6 q = M 6 q) ∧ (∀ q : Int, q ≠ n → M' 7 q = M 7 q ∧ M' 8 q = M 8 q ∧ M' 9 q = M 9 q ∧ M' 10 q = M 10 q)
theorem FrN.nv {M M' : Nat → Int → Int} {n n' code v : Int} (h : FrN M M' n) (hne : n' ≠ n) (hb : vB v) (hg : Nv M n' code v) : Nv M' n' code v := by
  obtain ⟨g0, g1, g2, g3, g4, g5⟩ := hg
  obtain ⟨q7, q8, q9, q10⟩ := h.2.2 n' hne
  have hb1 := hb.1
  have ed : ∀ k : Int, 0 ≤ k → k < nd (cN v) → M' 6 (31 * n' + k) = M 6 (31 * n' + k) := fun k a b => h.2.1 _ (by omega)
  refine ⟨q10.trans g0, q7.trans g1, q8.trans g2, q9.trans g3, fun k a b => by rw [ed k a b]; exact g4 k a b, ?_⟩
  rw [← g5]
  exact dv_congr ed
def KpI (M0 M : Nat → Int → Int) (n k : Int) : Prop := (∀ j, j ≠ 6 → M j = M0 j) ∧ (∀ q : Int, 0 ≤ q → q < k → M 6 (31 * n + q) = M0 1 (640 + q)) ∧ ∀ q : Int, q < 31 * n ∨ 31 * n + 31 ≤ q → M 6 q = M0 6 q
theorem KpI.start (M : Nat → Int → Int) (n : Int) : KpI M M n 0 := ⟨fun _ _ => rfl, fun q h1 h2 => by omega, fun _ _ => rfl⟩
theorem KpI.step {M0 M M1 : Nat → Int → Int} {n k : Int} (h : KpI M0 M n k) (hk : 0 ≤ k ∧ k < 31) (e : M1 = setA M 6 (31 * n + k) (M 1 (640 + k))) : KpI M0 M1 n (k + 1) := by
  obtain ⟨h1, h2, h3⟩ := h
  subst e
  refine ⟨fun j hj => (setA_n hj).trans (h1 j hj), fun q a b => ?_, fun q a => ?_⟩
  · rw [setA_s]
    by_cases hq : q = k
    · rw [hq, uI_s, h1 1 (by decide)]
    · rw [uI_n (by omega)]; exact h2 q a (by omega)
  · rw [setA_s, uI_n (by omega)]; exact h3 q a
theorem KpI.fin {M0 Ma M M1 M2 M3 : Nat → Int → Int} {n v : Int} (ea : Ma = setA M0 10 n 0) (h : KpI Ma M n (nd (cN v))) (hg : Rv M0 2 v) (e1 : M1 = setA M 7 n (M 2 2)) (e2 : M2 = setA M1 8 n (M1 3 2)) (e3 : M3 = setA M2 9 n (M2 4 2)) : FrN M0 M3 n ∧ Nv M3 n 0 v := by
  obtain ⟨h1, h2, h3⟩ := h
  obtain ⟨g1, g2, g3, g4, g5⟩ := hg
  have d6 : M3 6 = M 6 := by subst e3 e2 e1; simp [setA]
  have a1 : Ma 1 = M0 1 := by subst ea; simp [setA]
  have a6 : Ma 6 = M0 6 := by subst ea; simp [setA]
  have oth : ∀ k, k ≠ 6 → k ≠ 7 → k ≠ 8 → k ≠ 9 → k ≠ 10 → M3 k = M0 k := fun k b6 b7 b8 b9 b10 => by
    rw [e3, setA_n b9, e2, setA_n b8, e1, setA_n b7, h1 k b6, ea, setA_n b10]
  have hd : ∀ k : Int, 0 ≤ k → k < nd (cN v) → M3 6 (31 * n + k) = M0 1 (320 * 2 + k) := fun k a b => by rw [d6, h2 k a b, a1, show (320 * 2 : Int) = 640 by decide]
  refine ⟨⟨fun k hk => oth k (by omega) (by omega) (by omega) (by omega) (by omega), fun q hq => by rw [d6, h3 q hq, a6], fun q hq => ?_⟩, ?_, ?_, ?_, ?_, ?_, ?_⟩
  · have s7 : M3 7 q = M0 7 q := by rw [e3, setA_n (by decide), e2, setA_n (by decide), e1, setA_s, uI_n hq, h1 7 (by decide), ea, setA_n (by decide)]
    have s8 : M3 8 q = M0 8 q := by rw [e3, setA_n (by decide), e2, setA_s, uI_n hq, e1, setA_n (by decide), h1 8 (by decide), ea, setA_n (by decide)]
    have s9 : M3 9 q = M0 9 q := by rw [e3, setA_s, uI_n hq, e2, setA_n (by decide), e1, setA_n (by decide), h1 9 (by decide), ea, setA_n (by decide)]
    have s10 : M3 10 q = M0 10 q := by rw [e3, setA_n (by decide), e2, setA_n (by decide), e1, setA_n (by decide), h1 10 (by decide), ea, setA_s, uI_n hq]
    exact ⟨s7, s8, s9, s10⟩
  · rw [e3, setA_n (by decide), e2, setA_n (by decide), e1, setA_n (by decide), h1 10 (by decide), ea, setA_s, uI_s]
  · rw [e3, setA_n (by decide), e2, setA_n (by decide), e1, setA_s, uI_s, h1 2 (by decide), ea, setA_n (by decide)]; exact g1
  · rw [e3, setA_n (by decide), e2, setA_s, uI_s, e1, setA_n (by decide), h1 3 (by decide), ea, setA_n (by decide)]; exact g2
  · rw [e3, setA_s, uI_s, e2, setA_n (by decide), e1, setA_n (by decide), h1 4 (by decide), ea, setA_n (by decide)]; exact g3
  · intro k a b
    rw [hd k a b]; exact g4 k a b
  · rw [dv_congr hd]; exact g5
theorem FrN.r {M M' : Nat → Int → Int} {n x : Int} (e : M' = setA M 10 n x) : FrN M M' n := by
  subst e
  exact ⟨fun k h => setA_n (by omega), fun q _ => by rw [setA_n (by decide)], fun q h => ⟨by rw [setA_n (by decide)], by rw [setA_n (by decide)], by rw [setA_n (by decide)], by rw [setA_s, uI_n h]⟩⟩
theorem Nv.r {M M' : Nat → Int → Int} {n x : Int} (e : M' = setA M 10 n x) (h7 : M 7 n = 0) (h8 : M 8 n = 0) (h9 : M 9 n = 0) : Nv M' n x 0 := by
  subst e
  unfold Nv
  rw [cN_0, nd_0]
  refine ⟨by rw [setA_s, uI_s], by rw [setA_n (by decide)]; exact h7, by rw [setA_n (by decide)]; exact h8, by rw [setA_n (by decide)]; exact h9, fun k a b => by omega, rfl⟩
end
section
set_option maxHeartbeats 4000000 in
set_option maxRecDepth 100000 in
/-- L_load -/
theorem L_load {p : Program} {l : Launch} {e : Env} {s : State} {m : MethodId} {args : Array Value} {below : List Frame} {meth : Method} {c : Code} {Q : State → Prop} {D : va_G} {cs : Nat → ClassId} {Z : (Nat → Prop) → State → Heap → Prop} {ad : Nat → Nat} {μ0 : fm_Mu} {A : Nat → Prop} {R : Room} (S : CallFix p m c c_Mo_load 4 s args wA "ArithmeticFormsModel") (hK : va_K D clsA (tysA cs) s) (hZo : fm_Zok Z) (hZ : Z A s s.heap) (hA : ∀ q, s.heap.size ≤ q → A q) (V : Nat → Int) (M0 : Nat → Int → Int) (n r code v : Int) (hnr : 1 ≤ n ∧ n ≤ 100 ∧ 0 ≤ r ∧ r < 7 ∧ nd (cN v) ≤ 31) (hg : Nv M0 n code v) (kk41 : ∀ (M : Nat → Int → Int) (k : Int) (H : Heap) (locs : List Loc) (ls : Array Slot), (k = nd (cN v)) → (LdI M0 M n r k) → lv_has ls 4 [(3, .int (iN (k))), (0, .ref (ad 0)), (1, .int (iN (n))), (2, .int (iN (r)))] → moW D A s.heap μ0 cs ad V M H locs → W p l e R s m args below meth c H locs 0 0 Q (F0 m 41 ls [])) : ∀ (fu : Nat) (M : Nat → Int → Int) (k : Int) (H : Heap) (locs : List Loc) (ls : Array Slot), nd (cN v) - k < (fu : Int) → (0 ≤ k ∧ k ≤ nd (cN v)) → (LdI M0 M n r k) → lv_has ls 4 [(3, .int (iN (k))), (0, .ref (ad 0)), (1, .int (iN (n))), (2, .int (iN (r)))] → moW D A s.heap μ0 cs ad V M H locs → W p l e R s m args below meth c H locs 0 0 Q (F0 m 2 ls []) := by
  obtain ⟨hx, hb, hml, hown, hts⟩ := id S
  intro fu
  induction fu with
  | zero =>
    intro M k H locs ls hn hk hc hl hm
    exfalso; omega
  | succ fu ih =>
    intro M k H locs ls hn hk hc hl hm
    have e7 : M 7 n = nd (cN v) := by rw [hc.1.1 7 (by decide)]; exact hg.2.1
    refine lv_iload_n hx hb d_Mo_load_2 rfl (lv_at hl 0 rfl) ?_
    refine lv_aload_n hx hb d_Mo_load_3 rfl (lv_at hl 1 rfl) ?_
    refine mo_get 8 S hK hm (by decide) k474 rfl rfl d_Mo_load_4 ?_
    refine lv_iload_n hx hb d_Mo_load_7 rfl (lv_at hl 2 rfl) ?_
    refine mo_iald 7 S hK hm (by decide) (by simp only [moLen]; omega) d_Mo_load_8 ?_
    refine fm_icmp_ge (tgt := 41) S (by omega) (by omega) d_Mo_load_9 (by decide) (fun c1 => ?_) (fun c1 => ?_)
    · exact kk41 M k _ _ _ (by omega) (hc) (lv_sub hl [0, 1, 2, 3] rfl) hm
    · refine lv_aload_n hx hb d_Mo_load_12 rfl (lv_at hl 1 rfl) ?_
      refine mo_get 2 S hK hm (by decide) k468 rfl rfl d_Mo_load_13 ?_
      refine fm_sipush S d_Mo_load_16 (by decide) ?_
      refine lv_iload_n hx hb d_Mo_load_19 rfl (lv_at hl 3 rfl) ?_
      refine fm_imul S d_Mo_load_20 ?_
      refine lv_iload_n hx hb d_Mo_load_21 rfl (lv_at hl 0 rfl) ?_
      refine fm_iadd S d_Mo_load_22 ?_
      refine lv_aload_n hx hb d_Mo_load_23 rfl (lv_at hl 1 rfl) ?_
      refine mo_get 7 S hK hm (by decide) k473 rfl rfl d_Mo_load_24 ?_
      refine fm_bipush S d_Mo_load_27 (by decide) ?_
      refine lv_iload_n hx hb d_Mo_load_29 rfl (lv_at hl 2 rfl) ?_
      refine fm_imul S d_Mo_load_30 ?_
      refine lv_iload_n hx hb d_Mo_load_31 rfl (lv_at hl 0 rfl) ?_
      refine fm_iadd S d_Mo_load_32 ?_
      refine mo_iald 6 S hK hm (by decide) (by simp only [moLen]; omega) d_Mo_load_33 ?_
      refine mo_iast 1 S hK hm (by decide) (by simp only [moLen]; omega) d_Mo_load_34 (fun M2 H locs eM2 hm => ?_)
      refine lv_iinc (v := iN ((k + 1))) (lv' := [(3, .int (iN ((k + 1)))), (0, .ref (ad 0)), (1, .int (iN (n))), (2, .int (iN (r)))]) hx hb d_Mo_load_35 hl (k := 0) rfl (iN_add _ _) (by decide) rfl (fun ls hl => ?_)
      refine lv_goto (tgt := 2) hx hb d_Mo_load_38 (by decide) ?_
      exact ih M2 (k + 1) _ _ _ (by omega) (by omega) (hc.step (by omega) eM2) (lv_sub hl [0, 1, 2, 3] rfl) hm

set_option maxHeartbeats 4000000 in
set_option maxRecDepth 100000 in
/-- load(n, r) -/
theorem t_Mo_load (l : Launch) (D : va_G) (cs : Nat → ClassId) (Z : (Nat → Prop) → State → Heap → Prop) (hZo : fm_Zok Z) (ad : Nat → Nat) (μ : fm_Mu) (V : Nat → Int) (M : Nat → Int → Int) (sz : Nat) (n : Int) (r : Int) (code : Int) (v : Int) (hM : moS cs μ ad V M) (hnr : 1 ≤ n ∧ n ≤ 100 ∧ 0 ≤ r ∧ r < 7 ∧ nd (cN v) ≤ 31) (hg : Nv M n code v) : Met l y_Mo_load (Cond.code y_Mo_load c_Mo_load 4 none :: wA) ({ frames := 0, cells := 0, slots := 0, locals := 0 }) (fm_Pc D clsA (tysA cs) Z μ sz [.ref (ad 0), .int (iN (n)), .int (iN (r))]) (moQv D cs ad μ sz (fun V' M' => V' = V ∧ Fr M M' r ∧ Rv M' r v)) 0 0 (fm_A μ sz) := by
  refine mo_of hM (by decide +kernel) (Nat.le_of_ble_eq_true rfl) (fun p e s m below meth c S hr hlocks hsz hm hK hZ hA ls hl => ?_)
  subst hsz
  obtain ⟨hx, hb, hml, hown, hts⟩ := id S
  have hl : lv_has ls 4 [(0, .ref (ad 0)), (1, .int (iN (n))), (2, .int (iN (r)))] := hl
  refine fm_iconst S d_Mo_load_0 ?_
  refine lv_istore_n (lv' := [(3, .int (iN (0))), (0, .ref (ad 0)), (1, .int (iN (n))), (2, .int (iN (r)))]) hx hb d_Mo_load_1 rfl hl (by decide) rfl (fun ls hl => ?_)
  refine L_load (Z := Z) S hK hZo hZ hA V M n r code v hnr hg (fun M1 k H locs ls hk hc hl hm => ?_) (nd (cN v) + 1) M 0 _ _ _ (by omega) (by omega) (LdI.start M n r) (lv_sub hl [0, 1, 2, 3] rfl) hm
  refine lv_aload_n hx hb d_Mo_load_41 rfl (lv_at hl 1 rfl) ?_
  refine mo_get 3 S hK hm (by decide) k469 rfl rfl d_Mo_load_42 ?_
  refine lv_iload_n hx hb d_Mo_load_45 rfl (lv_at hl 3 rfl) ?_
  refine lv_aload_n hx hb d_Mo_load_46 rfl (lv_at hl 1 rfl) ?_
  refine mo_get 8 S hK hm (by decide) k474 rfl rfl d_Mo_load_47 ?_
  refine lv_iload_n hx hb d_Mo_load_50 rfl (lv_at hl 2 rfl) ?_
  refine mo_iald 7 S hK hm (by decide) (by simp only [moLen]; omega) d_Mo_load_51 ?_
  refine mo_iast 2 S hK hm (by decide) (by simp only [moLen]; omega) d_Mo_load_52 (fun M2 H locs eM2 hm => ?_)
  refine lv_aload_n hx hb d_Mo_load_53 rfl (lv_at hl 1 rfl) ?_
  refine mo_get 4 S hK hm (by decide) k470 rfl rfl d_Mo_load_54 ?_
  refine lv_iload_n hx hb d_Mo_load_57 rfl (lv_at hl 3 rfl) ?_
  refine lv_aload_n hx hb d_Mo_load_58 rfl (lv_at hl 1 rfl) ?_
  refine mo_get 9 S hK hm (by decide) k475 rfl rfl d_Mo_load_59 ?_
  refine lv_iload_n hx hb d_Mo_load_62 rfl (lv_at hl 2 rfl) ?_
  refine mo_iald 8 S hK hm (by decide) (by simp only [moLen]; omega) d_Mo_load_63 ?_
  refine mo_iast 3 S hK hm (by decide) (by simp only [moLen]; omega) d_Mo_load_64 (fun M3 H locs eM3 hm => ?_)
  refine lv_aload_n hx hb d_Mo_load_65 rfl (lv_at hl 1 rfl) ?_
  refine mo_get 5 S hK hm (by decide) k471 rfl rfl d_Mo_load_66 ?_
  refine lv_iload_n hx hb d_Mo_load_69 rfl (lv_at hl 3 rfl) ?_
  refine lv_aload_n hx hb d_Mo_load_70 rfl (lv_at hl 1 rfl) ?_
  refine mo_get 10 S hK hm (by decide) k476 rfl rfl d_Mo_load_71 ?_
  refine lv_iload_n hx hb d_Mo_load_74 rfl (lv_at hl 2 rfl) ?_
  refine mo_iald 9 S hK hm (by decide) (by simp only [moLen]; omega) d_Mo_load_75 ?_
  refine mo_iast 4 S hK hm (by decide) (by simp only [moLen]; omega) d_Mo_load_76 (fun M4 H locs eM4 hm => ?_)
  refine mo_vret S hr hlocks hK hm d_Mo_load_77 ?_
  subst hk
  exact ⟨rfl, hc.fin hg eM2 eM3 eM4⟩

set_option maxHeartbeats 4000000 in
set_option maxRecDepth 100000 in
/-- L_kept -/
theorem L_kept {p : Program} {l : Launch} {e : Env} {s : State} {m : MethodId} {args : Array Value} {below : List Frame} {meth : Method} {c : Code} {Q : State → Prop} {D : va_G} {cs : Nat → ClassId} {Z : (Nat → Prop) → State → Heap → Prop} {ad : Nat → Nat} {μ0 : fm_Mu} {A : Nat → Prop} {R : Room} (S : CallFix p m c c_Mo_kept 3 s args wA "ArithmeticFormsModel") (hK : va_K D clsA (tysA cs) s) (hZo : fm_Zok Z) (hZ : Z A s s.heap) (hA : ∀ q, s.heap.size ≤ q → A q) (V : Nat → Int) (M0 : Nat → Int → Int) (n bad v : Int) (hn1 : 1 ≤ n ∧ n ≤ 100 ∧ nd (cN v) ≤ 31 ∧ V 12 = n) (hz2 : M0 2 2 = nd (cN v)) (kk71 : ∀ (M : Nat → Int → Int) (k : Int) (H : Heap) (locs : List Loc) (ls : Array Slot), (k = nd (cN v)) → (KpI M0 M n k) → lv_has ls 3 [(2, .int (iN (k))), (0, .ref (ad 0)), (1, .int (iN (bad)))] → moW D A s.heap μ0 cs ad V M H locs → W p l e R s m args below meth c H locs 0 0 Q (F0 m 71 ls [])) : ∀ (fu : Nat) (M : Nat → Int → Int) (k : Int) (H : Heap) (locs : List Loc) (ls : Array Slot), nd (cN v) - k < (fu : Int) → (0 ≤ k ∧ k ≤ nd (cN v)) → (KpI M0 M n k) → lv_has ls 3 [(2, .int (iN (k))), (0, .ref (ad 0)), (1, .int (iN (bad)))] → moW D A s.heap μ0 cs ad V M H locs → W p l e R s m args below meth c H locs 0 0 Q (F0 m 31 ls []) := by
  obtain ⟨hx, hb, hml, hown, hts⟩ := id S
  intro fu
  induction fu with
  | zero =>
    intro M k H locs ls hn hk hc hl hm
    exfalso; omega
  | succ fu ih =>
    intro M k H locs ls hn hk hc hl hm
    have e22 : M 2 2 = nd (cN v) := by rw [hc.1 2 (by decide)]; exact hz2
    refine lv_iload_n hx hb d_Mo_kept_31 rfl (lv_at hl 0 rfl) ?_
    refine lv_aload_n hx hb d_Mo_kept_32 rfl (lv_at hl 1 rfl) ?_
    refine mo_get 3 S hK hm (by decide) k469 rfl rfl d_Mo_kept_33 ?_
    refine fm_iconst S d_Mo_kept_36 ?_
    refine mo_iald 2 S hK hm (by decide) (by simp only [moLen]; omega) d_Mo_kept_37 ?_
    refine fm_icmp_ge (tgt := 71) S (by omega) (by omega) d_Mo_kept_38 (by decide) (fun c1 => ?_) (fun c1 => ?_)
    · exact kk71 M k _ _ _ (by omega) (hc) (lv_sub hl [0, 1, 2] rfl) hm
    · refine lv_aload_n hx hb d_Mo_kept_41 rfl (lv_at hl 1 rfl) ?_
      refine mo_get 7 S hK hm (by decide) k473 rfl rfl d_Mo_kept_42 ?_
      refine fm_bipush S d_Mo_kept_45 (by decide) ?_
      refine lv_aload_n hx hb d_Mo_kept_47 rfl (lv_at hl 1 rfl) ?_
      refine mo_get 12 S hK hm (by decide) k478 rfl rfl d_Mo_kept_48 ?_
      refine fm_imul S d_Mo_kept_51 ?_
      refine lv_iload_n hx hb d_Mo_kept_52 rfl (lv_at hl 0 rfl) ?_
      refine fm_iadd S d_Mo_kept_53 ?_
      refine lv_aload_n hx hb d_Mo_kept_54 rfl (lv_at hl 1 rfl) ?_
      refine mo_get 2 S hK hm (by decide) k468 rfl rfl d_Mo_kept_55 ?_
      refine fm_sipush S d_Mo_kept_58 (by decide) ?_
      refine lv_iload_n hx hb d_Mo_kept_61 rfl (lv_at hl 0 rfl) ?_
      refine fm_iadd S d_Mo_kept_62 ?_
      refine mo_iald 1 S hK hm (by decide) (by simp only [moLen]; omega) d_Mo_kept_63 ?_
      refine mo_iast 6 S hK hm (by decide) (by simp only [moLen]; omega) d_Mo_kept_64 (fun M2 H locs eM2 hm => ?_)
      refine lv_iinc (v := iN ((k + 1))) (lv' := [(2, .int (iN ((k + 1)))), (0, .ref (ad 0)), (1, .int (iN (bad)))]) hx hb d_Mo_kept_65 hl (k := 0) rfl (iN_add _ _) (by decide) rfl (fun ls hl => ?_)
      refine lv_goto (tgt := 31) hx hb d_Mo_kept_68 (by decide) ?_
      exact ih M2 (k + 1) _ _ _ (by omega) (by omega) (hc.step (by omega) (by rw [eM2, hn1.2.2.2])) (lv_sub hl [0, 1, 2] rfl) hm

set_option maxHeartbeats 4000000 in
set_option maxRecDepth 100000 in
/-- kept(bad) -/
theorem t_Mo_kept (l : Launch) (D : va_G) (cs : Nat → ClassId) (Z : (Nat → Prop) → State → Heap → Prop) (hZo : fm_Zok Z) (ad : Nat → Nat) (μ : fm_Mu) (V : Nat → Int) (M : Nat → Int → Int) (sz : Nat) (bad : Int) (v : Int) (hM : moS cs μ ad V M) (hbad : 0 ≤ bad ∧ bad ≤ 3) (hC : bad = 0 → Rv M 2 v) (hvv : vB v) (hcn : 0 ≤ V 12 ∧ V 12 < 100) (hz : M 7 (V 12 + 1) = 0 ∧ M 8 (V 12 + 1) = 0 ∧ M 9 (V 12 + 1) = 0) : Met l y_Mo_kept (Cond.code y_Mo_kept c_Mo_kept 3 (some .int) :: wA) ({ frames := 0, cells := 0, slots := 0, locals := 0 }) (fm_Pc D clsA (tysA cs) Z μ sz [.ref (ad 0), .int (iN (bad))]) (moQi D cs ad μ sz (fun z V' M' => z = V 12 + 1 ∧ V' = uF V 12 (V 12 + 1) ∧ FrN M M' (V 12 + 1) ∧ ((bad = 0 ∧ Nv M' (V 12 + 1) 0 v) ∨ (bad ≠ 0 ∧ Nv M' (V 12 + 1) bad 0)))) 0 0 (fm_A μ sz) := by
  refine mo_of hM (by decide +kernel) (Nat.le_of_ble_eq_true rfl) (fun p e s m below meth c S hr hlocks hsz hm hK hZ hA ls hl => ?_)
  subst hsz
  obtain ⟨hx, hb, hml, hown, hts⟩ := id S
  have hl : lv_has ls 3 [(0, .ref (ad 0)), (1, .int (iN (bad)))] := hl
  have hv31 := hvv.1
  refine lv_aload_n hx hb d_Mo_kept_0 rfl (lv_at hl 0 rfl) ?_
  refine lv_dup hx hb d_Mo_kept_1 rfl ?_
  refine mo_get 12 S hK hm (by decide) k478 rfl rfl d_Mo_kept_2 ?_
  refine fm_iconst S d_Mo_kept_5 ?_
  refine fm_iadd S d_Mo_kept_6 ?_
  refine mo_puti 12 S hK hm (by decide) k478 d_Mo_kept_7 (fun V1 H locs eV1 hm => ?_)
  obtain ⟨n, hn⟩ : ∃ n : Int, n = V 12 + 1 := ⟨_, rfl⟩
  have hV12 : V1 12 = n := by rw [eV1, hn]; rfl
  rw [← hn] at hz
  refine lv_aload_n hx hb d_Mo_kept_10 rfl (lv_at hl 0 rfl) ?_
  refine mo_get 11 S hK hm (by decide) k477 rfl rfl d_Mo_kept_11 ?_
  refine lv_aload_n hx hb d_Mo_kept_14 rfl (lv_at hl 0 rfl) ?_
  refine mo_get 12 S hK hm (by decide) k478 rfl rfl d_Mo_kept_15 ?_
  refine lv_iload_n hx hb d_Mo_kept_18 rfl (lv_at hl 1 rfl) ?_
  refine mo_iast 10 S hK hm (by decide) (by simp only [moLen]; omega) d_Mo_kept_19 (fun M2 H locs eM2 hm => ?_)
  rw [hV12] at eM2
  refine lv_iload_n hx hb d_Mo_kept_20 rfl (lv_at hl 1 rfl) ?_
  refine fm_if_eq (tgt := 29) S (by omega) d_Mo_kept_21 (by decide) (fun c3 => ?_) (fun c3 => ?_)
  · refine fm_iconst S d_Mo_kept_29 ?_
    refine lv_istore_n (lv' := [(2, .int (iN (0))), (0, .ref (ad 0)), (1, .int (iN (bad)))]) hx hb d_Mo_kept_30 rfl hl (by decide) rfl (fun ls hl => ?_)
    have hgv := hC c3
    have e22 : M2 2 2 = nd (cN v) := by rw [eM2, setA_n (by decide)]; exact hgv.1
    refine L_kept (Z := Z) S hK hZo hZ hA V1 M2 n bad v (by omega) e22 (fun M4 k H locs ls hk hc hl hm => ?_) (nd (cN v) + 1) M2 0 _ _ _ (by omega) (by omega) (KpI.start _ _) (lv_sub hl [0, 1, 2] rfl) hm
    subst hk
    refine lv_aload_n hx hb d_Mo_kept_71 rfl (lv_at hl 1 rfl) ?_
    refine mo_get 8 S hK hm (by decide) k474 rfl rfl d_Mo_kept_72 ?_
    refine lv_aload_n hx hb d_Mo_kept_75 rfl (lv_at hl 1 rfl) ?_
    refine mo_get 12 S hK hm (by decide) k478 rfl rfl d_Mo_kept_76 ?_
    refine lv_aload_n hx hb d_Mo_kept_79 rfl (lv_at hl 1 rfl) ?_
    refine mo_get 3 S hK hm (by decide) k469 rfl rfl d_Mo_kept_80 ?_
    refine fm_iconst S d_Mo_kept_83 ?_
    refine mo_iald 2 S hK hm (by decide) (by simp only [moLen]; omega) d_Mo_kept_84 ?_
    refine mo_iast 7 S hK hm (by decide) (by simp only [moLen]; omega) d_Mo_kept_85 (fun M5 H locs eM5 hm => ?_)
    refine lv_aload_n hx hb d_Mo_kept_86 rfl (lv_at hl 1 rfl) ?_
    refine mo_get 9 S hK hm (by decide) k475 rfl rfl d_Mo_kept_87 ?_
    refine lv_aload_n hx hb d_Mo_kept_90 rfl (lv_at hl 1 rfl) ?_
    refine mo_get 12 S hK hm (by decide) k478 rfl rfl d_Mo_kept_91 ?_
    refine lv_aload_n hx hb d_Mo_kept_94 rfl (lv_at hl 1 rfl) ?_
    refine mo_get 4 S hK hm (by decide) k470 rfl rfl d_Mo_kept_95 ?_
    refine fm_iconst S d_Mo_kept_98 ?_
    refine mo_iald 3 S hK hm (by decide) (by simp only [moLen]; omega) d_Mo_kept_99 ?_
    refine mo_iast 8 S hK hm (by decide) (by simp only [moLen]; omega) d_Mo_kept_100 (fun M6 H locs eM6 hm => ?_)
    refine lv_aload_n hx hb d_Mo_kept_101 rfl (lv_at hl 1 rfl) ?_
    refine mo_get 10 S hK hm (by decide) k476 rfl rfl d_Mo_kept_102 ?_
    refine lv_aload_n hx hb d_Mo_kept_105 rfl (lv_at hl 1 rfl) ?_
    refine mo_get 12 S hK hm (by decide) k478 rfl rfl d_Mo_kept_106 ?_
    refine lv_aload_n hx hb d_Mo_kept_109 rfl (lv_at hl 1 rfl) ?_
    refine mo_get 5 S hK hm (by decide) k471 rfl rfl d_Mo_kept_110 ?_
    refine fm_iconst S d_Mo_kept_113 ?_
    refine mo_iald 4 S hK hm (by decide) (by simp only [moLen]; omega) d_Mo_kept_114 ?_
    refine mo_iast 9 S hK hm (by decide) (by simp only [moLen]; omega) d_Mo_kept_115 (fun M7 H locs eM7 hm => ?_)
    refine lv_aload_n hx hb d_Mo_kept_116 rfl (lv_at hl 1 rfl) ?_
    refine mo_get 12 S hK hm (by decide) k478 rfl rfl d_Mo_kept_117 ?_
    refine mo_iret S hr hlocks hK hm d_Mo_kept_120 ?_
    rw [hV12] at eM5 eM6 eM7
    rw [c3] at eM2
    have hfin := KpI.fin eM2 hc hgv eM5 eM6 eM7
    exact ⟨hV12.trans hn, by rw [eV1], hn ▸ hfin.1, hn ▸ Or.inl ⟨c3, hfin.2⟩⟩
  · refine lv_aload_n hx hb d_Mo_kept_24 rfl (lv_at hl 0 rfl) ?_
    refine mo_get 12 S hK hm (by decide) k478 rfl rfl d_Mo_kept_25 ?_
    refine mo_iret S hr hlocks hK hm d_Mo_kept_28 ?_
    exact ⟨hV12.trans hn, by rw [eV1], hn ▸ FrN.r eM2, hn ▸ Or.inr ⟨c3, Nv.r eM2 hz.1 hz.2.1 hz.2.2⟩⟩

set_option maxHeartbeats 4000000 in
set_option maxRecDepth 100000 in
/-- operated(op) -/
theorem t_Mo_operated (l : Launch) (D : va_G) (cs : Nat → ClassId) (Z : (Nat → Prop) → State → Heap → Prop) (hZo : fm_Zok Z) (ad : Nat → Nat) (μ : fm_Mu) (V : Nat → Int) (M : Nat → Int → Int) (sz : Nat) (op : Int) (most : Nat) (a : Int) (b : Int) (hM : moS cs μ ad V M) (hop : 0 ≤ op ∧ op ≤ 5) (hra : Rv M 0 a) (hb5 : op < 5 → Rv M 1 b) (hva : vB a) (hvb : vB b) (hpr : V 1 = (most : Int) ∧ 1 ≤ most ∧ most ≤ 31) : Met l y_Mo_operated (Cond.code y_Mo_operated c_Mo_operated 2 (some .int) :: wA) ({ frames := 4, cells := 0, slots := 0, locals := 95 }) (fm_Pc D clsA (tysA cs) Z μ sz [.ref (ad 0), .int (iN (op))]) (moQi D cs ad μ sz (fun z V' M' => V' = V ∧ FrO M M' ∧ resOk M' z (sOp most op a b))) 0 0 (fm_A μ sz) := by
  refine mo_of hM (by decide +kernel) (Nat.le_of_ble_eq_true rfl) (fun p e s m below meth c S hr hlocks hsz hm hK hZ hA ls hl => ?_)
  subst hsz
  obtain ⟨hx, hb, hml, hown, hts⟩ := id S
  have hl : lv_has ls 2 [(0, .ref (ad 0)), (1, .int (iN (op)))] := hl
  refine lv_iload_n hx hb d_Mo_operated_0 rfl (lv_at hl 1 rfl) ?_
  rcases (show op = 0 ∨ op = 1 ∨ op = 2 ∨ op = 3 ∨ op = 4 ∨ (op < 0 ∨ 4 < op) by omega) with c1 | c1 | c1 | c1 | c1 | c1
  · refine lv_tableIn (tgt := 36) hx hb d_Mo_operated_1 (by rw [iN_toInt (by omega)]; omega) (by rw [iN_toInt (by omega)]; omega) (by rw [iN_toInt (by omega), c1]; rfl) (by decide) ?_
    have hrb := hb5 (by omega)
    refine lv_aload_n hx hb d_Mo_operated_36 rfl (lv_at hl 0 rfl) ?_
    refine mo_ciS (n := 0) (As := []) (rest := []) S hK hZo hZ hA hm (fun μ sz hM => t_Mo_add l D cs Z hZo ad μ V M sz most (nd (cN a)) (cN a) (nd (cN b)) (cN b) (cX a) (sgn a) (cX b) (sgn b) hM hra hrb (add_bd hva hvb) sg_nz sg_nz (sg_bd _ _) hpr) (gV k583 k585 ks27 k6 k586) (by decide) (by decide +kernel) rfl hl.1 rfl (Nat.le_of_ble_eq_true rfl) ⟨Nat.le_of_ble_eq_true rfl, Nat.le_of_ble_eq_true rfl⟩ d_Mo_operated_37 (fun x4 M3 H locs q2 hm => ?_)
    have frM3 := q2.1
    have rsM3 := add_res hpr.2 q2.2
    refine mo_iret S hr hlocks hK hm d_Mo_operated_40 ?_
    unfold sOp
    rw [if_pos c1]
    exact ⟨rfl, frM3.o (by decide), rsM3⟩
  · refine lv_tableIn (tgt := 41) hx hb d_Mo_operated_1 (by rw [iN_toInt (by omega)]; omega) (by rw [iN_toInt (by omega)]; omega) (by rw [iN_toInt (by omega), c1]; rfl) (by decide) ?_
    have hrb := hb5 (by omega)
    refine lv_aload_n hx hb d_Mo_operated_41 rfl (lv_at hl 0 rfl) ?_
    refine mo_get 5 S hK hm (by decide) k471 rfl rfl d_Mo_operated_42 ?_
    refine fm_iconst S d_Mo_operated_45 ?_
    refine fm_iconst S d_Mo_operated_46 ?_
    refine lv_aload_n hx hb d_Mo_operated_47 rfl (lv_at hl 0 rfl) ?_
    refine mo_get 5 S hK hm (by decide) k471 rfl rfl d_Mo_operated_48 ?_
    refine fm_iconst S d_Mo_operated_51 ?_
    have h41 := hrb.2.2.1
    have h42 := sgn_in b
    refine mo_iald 4 S hK hm (by decide) (by simp only [moLen]; omega) d_Mo_operated_52 ?_
    refine fm_isub S d_Mo_operated_53 ?_
    refine mo_iast 4 S hK hm (by decide) (by simp only [moLen]; omega) d_Mo_operated_54 (fun M5 H locs eM5 hm => ?_)
    have hrb1 := hrb.neg eM5 (by rw [hrb.2.2.1]; omega)
    have hra1 := (Fr.s eM5 (by decide)).rv (r' := 0) (by decide) hva hra
    refine lv_aload_n hx hb d_Mo_operated_55 rfl (lv_at hl 0 rfl) ?_
    refine mo_ciS (n := 0) (As := []) (rest := []) S hK hZo hZ hA hm (fun μ sz hM => t_Mo_add l D cs Z hZo ad μ V M5 sz most (nd (cN a)) (cN a) (nd (cN (-b))) (cN (-b)) (cX a) (sgn a) (cX (-b)) (sgn (-b)) hM hra1 hrb1 (add_bd hva (vB_neg hvb)) sg_nz sg_nz (sg_bd _ _) hpr) (gV k583 k585 ks27 k6 k586) (by decide) (by decide +kernel) rfl hl.1 rfl (Nat.le_of_ble_eq_true rfl) ⟨Nat.le_of_ble_eq_true rfl, Nat.le_of_ble_eq_true rfl⟩ d_Mo_operated_56 (fun x8 M7 H locs q6 hm => ?_)
    have frM7 := q6.1
    have rsM7 := add_res hpr.2 q6.2
    refine mo_iret S hr hlocks hK hm d_Mo_operated_59 ?_
    unfold sOp
    rw [if_neg (by omega), if_pos c1]
    exact ⟨rfl, ((Fr.s eM5 (by decide)).o (by decide)).tr (frM7.o (by decide)), rsM7⟩
  · refine lv_tableIn (tgt := 60) hx hb d_Mo_operated_1 (by rw [iN_toInt (by omega)]; omega) (by rw [iN_toInt (by omega)]; omega) (by rw [iN_toInt (by omega), c1]; rfl) (by decide) ?_
    have hrb := hb5 (by omega)
    refine lv_aload_n hx hb d_Mo_operated_60 rfl (lv_at hl 0 rfl) ?_
    refine mo_ciS (n := 0) (As := []) (rest := []) S hK hZo hZ hA hm (fun μ sz hM => t_Mo_multiply l D cs Z hZo ad μ V M sz most (nd (cN a)) (cN a) (nd (cN b)) (cN b) (cX a) (sgn a) (cX b) (sgn b) hM hra hrb (mul_bd hva hvb) (sg_bd _ _) hpr) (gV k603 k605 ks32 k6 k606) (by decide) (by decide +kernel) rfl hl.1 rfl (Nat.le_of_ble_eq_true rfl) ⟨Nat.le_of_ble_eq_true rfl, Nat.le_of_ble_eq_true rfl⟩ d_Mo_operated_61 (fun x11 M10 H locs q9 hm => ?_)
    have frM10 := q9.1
    have rsM10 := mul_res hpr.2 hva hvb q9.2
    refine mo_iret S hr hlocks hK hm d_Mo_operated_64 ?_
    unfold sOp
    rw [if_neg (by omega), if_neg (by omega), if_pos c1]
    exact ⟨rfl, frM10.o (by decide), rsM10⟩
  · refine lv_tableIn (tgt := 65) hx hb d_Mo_operated_1 (by rw [iN_toInt (by omega)]; omega) (by rw [iN_toInt (by omega)]; omega) (by rw [iN_toInt (by omega), c1]; rfl) (by decide) ?_
    have hrb := hb5 (by omega)
    refine lv_aload_n hx hb d_Mo_operated_65 rfl (lv_at hl 0 rfl) ?_
    refine mo_ciS (n := 0) (As := []) (rest := []) S hK hZo hZ hA hm (fun μ sz hM => t_Mo_divide l D cs Z hZo ad μ V M sz most (nd (cN a)) (cN a) (nd (cN b)) (cN b) (cX a) (sgn a) (cX b) (sgn b) hM hra hrb (div_bd hva hvb) ndc_nz (sg_bd _ _) hpr) (gV k607 k609 ks33 k6 k610) (by decide) (by decide +kernel) rfl hl.1 rfl (Nat.le_of_ble_eq_true rfl) ⟨Nat.le_of_ble_eq_true rfl, Nat.le_of_ble_eq_true rfl⟩ d_Mo_operated_66 (fun x14 M13 H locs q12 hm => ?_)
    have frM13 := q12.1
    have rsM13 := div_res hpr.2 hva hvb q12.2
    refine mo_iret S hr hlocks hK hm d_Mo_operated_69 ?_
    unfold sOp
    rw [if_neg (by omega), if_neg (by omega), if_neg (by omega), if_pos c1]
    exact ⟨rfl, frM13.o (by decide), rsM13⟩
  · refine lv_tableIn (tgt := 70) hx hb d_Mo_operated_1 (by rw [iN_toInt (by omega)]; omega) (by rw [iN_toInt (by omega)]; omega) (by rw [iN_toInt (by omega), c1]; rfl) (by decide) ?_
    have hrb := hb5 (by omega)
    refine lv_aload_n hx hb d_Mo_operated_70 rfl (lv_at hl 0 rfl) ?_
    refine mo_ciS (n := 0) (As := []) (rest := []) S hK hZo hZ hA hm (fun μ sz hM => t_Mo_raise l D cs Z hZo ad μ V M sz most a b hM hra hrb hva hvb hpr) (gV k619 k621 ks36 k6 k622) (by decide) (by decide +kernel) rfl hl.1 rfl (Nat.le_of_ble_eq_true rfl) ⟨Nat.le_of_ble_eq_true rfl, Nat.le_of_ble_eq_true rfl⟩ d_Mo_operated_71 (fun x17 M16 H locs q15 hm => ?_)
    refine mo_iret S hr hlocks hK hm d_Mo_operated_74 ?_
    unfold sOp
    rw [if_neg (by omega), if_neg (by omega), if_neg (by omega), if_neg (by omega), if_pos c1]
    exact ⟨rfl, q15⟩
  · refine lv_tableOut (tgt := 75) hx hb d_Mo_operated_1 (by rw [iN_toInt (by omega)]; omega) (by decide) ?_
    have hv1 := hva.1
    refine lv_aload_n hx hb d_Mo_operated_75 rfl (lv_at hl 0 rfl) ?_
    refine fm_iconst S d_Mo_operated_76 ?_
    refine fm_iconst S d_Mo_operated_77 ?_
    refine mo_cvS (n := 2) (As := [.int (iN (0)), .int (iN (2))]) (rest := []) S hK hZo hZ hA hm (fun μ sz hM => t_Mo_copy l D cs Z hZo ad μ V M sz 0 2 (nd (cN a)) (cN a) (cX a) (sgn a) hM hra (by omega)) (gV k587 k589 ks28 k6 k590) (by decide) (by decide +kernel) rfl hl.1 rfl (Nat.le_of_ble_eq_true rfl) ⟨Nat.le_of_ble_eq_true rfl, Nat.le_of_ble_eq_true rfl⟩ d_Mo_operated_78 (fun M19 H locs q18 hm => ?_)
    obtain ⟨frM19, rgM19⟩ := q18
    have h43 := rgM19.2.2.1
    have h44 := sgn_in a
    refine lv_aload_n hx hb d_Mo_operated_81 rfl (lv_at hl 0 rfl) ?_
    refine mo_get 5 S hK hm (by decide) k471 rfl rfl d_Mo_operated_82 ?_
    refine fm_iconst S d_Mo_operated_85 ?_
    refine fm_iconst S d_Mo_operated_86 ?_
    refine lv_aload_n hx hb d_Mo_operated_87 rfl (lv_at hl 0 rfl) ?_
    refine mo_get 5 S hK hm (by decide) k471 rfl rfl d_Mo_operated_88 ?_
    refine fm_iconst S d_Mo_operated_91 ?_
    refine mo_iald 4 S hK hm (by decide) (by simp only [moLen]; omega) d_Mo_operated_92 ?_
    refine fm_isub S d_Mo_operated_93 ?_
    refine mo_iast 4 S hK hm (by decide) (by simp only [moLen]; omega) d_Mo_operated_94 (fun M20 H locs eM20 hm => ?_)
    refine fm_iconst S d_Mo_operated_95 ?_
    refine mo_iret S hr hlocks hK hm d_Mo_operated_96 ?_
    unfold sOp
    rw [if_neg (by omega), if_neg (by omega), if_neg (by omega), if_neg (by omega), if_neg (by omega)]
    exact ⟨rfl, (frM19.o (by decide)).tr ((Fr.s eM20 (by decide)).o (by decide)), rfl, fun _ => Rv.neg rgM19 eM20 (by rw [h43]; omega)⟩
end
section
-- THE SPECIFICATION'S STATE (own work): precision, nodes, receivers, what was raised latest
abbrev Rec6 : Type := Int × Int × Int × Int × Int × Int
abbrev Sg : Type := Nat × Nat × (Nat → Int × Int) × Nat × (Nat → Rec6) × Int
def sP (σ : Sg) : Nat := σ.1
def sC (σ : Sg) : Nat := σ.2.1
def sN (σ : Sg) : Nat → Int × Int := σ.2.2.1
def sR (σ : Sg) : Nat := σ.2.2.2.1
def sQ (σ : Sg) : Nat → Rec6 := σ.2.2.2.2.1
def sL (σ : Sg) : Int := σ.2.2.2.2.2
def ndOk (w : Int × Int) : Prop := 0 ≤ w.1 ∧ w.1 ≤ 2 ∧ vB w.2 ∧ (w.1 ≠ 0 → w.2 = 0)
def rcOk (q : Rec6) : Prop := 1 ≤ q.1 ∧ q.1 ≤ 18 ∧ 0 ≤ q.2.1 ∧ q.2.1 ≤ q.1 ∧ 0 ≤ q.2.2.1 ∧ q.2.2.1 ≤ 7 ∧ q.2.2.2.1.natAbs < 10 ^ q.1.toNat ∧ q.2.2.2.2.1.natAbs < 10 ^ 18 ∧ (q.2.2.2.2.2 = 0 ∨ q.2.2.2.2.2 = 1)
def Rcv (M : Nat → Int → Int) (r : Int) (q : Rec6) : Prop := M 11 r = q.1 ∧ M 12 r = q.2.1 ∧ M 13 r = q.2.2.1 ∧ M 14 r = q.2.2.2.1 ∧ M 15 r = q.2.2.2.2.1 ∧ M 16 r = q.2.2.2.2.2
def sgOk (σ : Sg) : Prop := 1 ≤ sP σ ∧ sP σ ≤ 31 ∧ sC σ ≤ 100 ∧ sR σ ≤ 20 ∧ 0 ≤ sL σ ∧ sL σ ≤ 3 ∧ (∀ n : Nat, 1 ≤ n → n ≤ sC σ → ndOk (sN σ n)) ∧ ∀ r : Nat, 1 ≤ r → r ≤ sR σ → rcOk (sQ σ r)
/-- the reference's arrays and scalars hold σ -/
def moInv (V : Nat → Int) (M : Nat → Int → Int) (σ : Sg) : Prop := sgOk σ ∧ (V 1 = sP σ ∧ V 12 = sC σ ∧ V 13 = sR σ ∧ V 14 = sL σ) ∧ (∀ n : Nat, 1 ≤ n → n ≤ sC σ → Nv M n (sN σ n).1 (sN σ n).2) ∧ (∀ n : Nat, sC σ < n → n ≤ 100 → M 7 n = 0 ∧ M 8 n = 0 ∧ M 9 n = 0) ∧ (∀ r : Nat, 1 ≤ r → r ≤ sR σ → Rcv M r (sQ σ r)) ∧ ∀ r : Nat, sR σ < r → r ≤ 20 → M 14 r = 0 ∧ M 15 r = 0 ∧ M 16 r = 0
theorem moInv.fr {V V' : Nat → Int} {M M' : Nat → Int → Int} {σ : Sg} (h : moInv V M σ) (hV : V' 1 = V 1 ∧ V' 12 = V 12 ∧ V' 13 = V 13 ∧ V' 14 = V 14) (hM : ∀ k : Nat, 6 ≤ k → M' k = M k) : moInv V' M' σ := by
  obtain ⟨h1, h2, h3, h4, h5, h6⟩ := h
  refine ⟨h1, by rw [hV.1, hV.2.1, hV.2.2.1, hV.2.2.2]; exact h2, fun n a b => ?_, fun n a b => ?_, fun r a b => ?_, fun r a b => ?_⟩
  · have := h3 n a b
    unfold Nv at this ⊢
    rw [hM 6 (by decide), hM 7 (by decide), hM 8 (by decide), hM 9 (by decide), hM 10 (by decide)]; exact this
  · rw [hM 7 (by decide), hM 8 (by decide), hM 9 (by decide)]; exact h4 n a b
  · have := h5 r a b
    unfold Rcv at this ⊢
    rw [hM 11 (by decide), hM 12 (by decide), hM 13 (by decide), hM 14 (by decide), hM 15 (by decide), hM 16 (by decide)]; exact this
  · rw [hM 14 (by decide), hM 15 (by decide), hM 16 (by decide)]; exact h6 r a b
theorem moInv.v0 {V V' : Nat → Int} {M : Nat → Int → Int} {σ : Sg} {x : Int} (h : moInv V M σ) (e : V' = uF V 0 x) : moInv V' M σ := h.fr (by subst e; exact ⟨rfl, rfl, rfl, rfl⟩) (fun _ _ => rfl)
theorem moInv.p {V : Nat → Int} {M : Nat → Int → Int} {σ : Sg} (h : moInv V M σ) : V 1 = (sP σ : Int) ∧ 1 ≤ sP σ ∧ sP σ ≤ 31 := ⟨h.2.1.1, h.1.1, h.1.2.1⟩
theorem moInv.c {V : Nat → Int} {M : Nat → Int → Int} {σ : Sg} (h : moInv V M σ) : V 12 = (sC σ : Int) ∧ sC σ ≤ 100 := ⟨h.2.1.2.1, h.1.2.2.1⟩
theorem moInv.r {V : Nat → Int} {M : Nat → Int → Int} {σ : Sg} (h : moInv V M σ) : V 13 = (sR σ : Int) ∧ sR σ ≤ 20 := ⟨h.2.1.2.2.1, h.1.2.2.2.1⟩
theorem moInv.nv {V : Nat → Int} {M : Nat → Int → Int} {σ : Sg} (h : moInv V M σ) {n : Int} (h1 : 1 ≤ n) (h2 : n ≤ sC σ) : Nv M n (sN σ n.toNat).1 (sN σ n.toNat).2 ∧ ndOk (sN σ n.toNat) := by
  have h3 := h.2.2.1 n.toNat (by omega) (by omega)
  rw [Int.toNat_of_nonneg (by omega)] at h3
  exact ⟨h3, h.1.2.2.2.2.2.2.1 n.toNat (by omega) (by omega)⟩
theorem moInv.rv {V : Nat → Int} {M : Nat → Int → Int} {σ : Sg} (h : moInv V M σ) {r : Int} (h1 : 1 ≤ r) (h2 : r ≤ sR σ) : Rcv M r (sQ σ r.toNat) ∧ rcOk (sQ σ r.toNat) := by
  have h3 := h.2.2.2.2.1 r.toNat (by omega) (by omega)
  rw [Int.toNat_of_nonneg (by omega)] at h3
  exact ⟨h3, h.1.2.2.2.2.2.2.2 r.toNat (by omega) (by omega)⟩
def addNode (σ : Sg) (w : Int × Int) : Sg := (sP σ, sC σ + 1, uF (sN σ) (sC σ + 1) w, sR σ, sQ σ, sL σ)
theorem addNode_ok {σ : Sg} {w : Int × Int} (h : sgOk σ) (hc : sC σ < 100) (hw : ndOk w) : sgOk (addNode σ w) := by
  obtain ⟨h1, h2, h3, h4, h5, h6, h7, h8⟩ := h
  refine ⟨h1, h2, hc, h4, h5, h6, fun n a b => ?_, h8⟩
  show ndOk (uF (sN σ) (sC σ + 1) w n)
  by_cases e : n = sC σ + 1
  · rw [e, uF_s]; exact hw
  · rw [uF_n e]
    have : n ≤ sC σ + 1 := b
    exact h7 n a (by omega)
theorem moInv.add {V V' : Nat → Int} {M M' : Nat → Int → Int} {σ : Sg} {w : Int × Int} (h : moInv V M σ) (hc : sC σ < 100) (hw : ndOk w) (hV : V' = uF V 12 (V 12 + 1)) (hF : FrN M M' (V 12 + 1)) (hn : Nv M' (V 12 + 1) w.1 w.2) : moInv V' M' (addNode σ w) := by
  obtain ⟨h1, h2, h3, h4, h5, h6⟩ := h
  have e12 : V 12 + 1 = ((sC σ + 1 : Nat) : Int) := by have := h2.2.1; omega
  rw [e12] at hF hn
  refine ⟨addNode_ok h1 hc hw, by subst hV; exact ⟨h2.1, e12, h2.2.2.1, h2.2.2.2⟩, fun n a b => ?_, fun n a b => ?_, fun r a b => ?_, fun r a b => ?_⟩
  · show Nv M' n (uF (sN σ) (sC σ + 1) w n).1 (uF (sN σ) (sC σ + 1) w n).2
    by_cases e : n = sC σ + 1
    · rw [e, uF_s]; exact hn
    · rw [uF_n e]
      have b2 : n ≤ sC σ + 1 := b
      exact hF.nv (by omega) (h1.2.2.2.2.2.2.1 n a (by omega)).2.2.1 (h3 n a (by omega))
  · have a2 : sC σ + 1 < n := a
    obtain ⟨q7, q8, q9, q10⟩ := hF.2.2 n (by omega)
    rw [q7, q8, q9]; exact h4 n (by omega) b
  · have := h5 r a b
    unfold Rcv at this ⊢
    rw [hF.1 11 (by decide), hF.1 12 (by decide), hF.1 13 (by decide), hF.1 14 (by decide), hF.1 15 (by decide), hF.1 16 (by decide)]; exact this
  · rw [hF.1 14 (by decide), hF.1 15 (by decide), hF.1 16 (by decide)]; exact h6 r a b
theorem fin_nd {P N : Nat} {x sg : Int} (hP : 1 ≤ P ∧ P ≤ 31) (hs : N ≠ 0 → sg = 1 ∨ sg = -1) : ndOk (fin P N x sg) := by
  have h1 := fin_1 P N x sg
  refine ⟨by omega, by omega, fin_vB hP hs, fun h => ?_⟩
  unfold fin at h ⊢
  split
  · rename_i e; rw [if_pos e] at h; exact absurd rfl h
  · rfl
theorem sMul_nd {P : Nat} {a b : Int} (hP : 1 ≤ P ∧ P ≤ 31) : ndOk (sMul P a b) := fin_nd hP (fun h => sg_mul (fun e => h (by rw [e]; simp)) (fun e => h (by rw [e]; simp)))
theorem sAdd_nd {P : Nat} {a b : Int} (hP : 1 ≤ P ∧ P ≤ 31) : ndOk (sAdd P a b) := fin_nd hP (fun h => sgn_nz (fun e => h (by rw [e]; rfl)))
theorem nd2 : ndOk (2, 0) := ⟨by decide, by decide, vB_0, fun _ => rfl⟩
theorem nd1 : ndOk (1, 0) := ⟨by decide, by decide, vB_0, fun _ => rfl⟩
theorem sDiv_nd {P : Nat} {a b : Int} (hP : 1 ≤ P ∧ P ≤ 31) : ndOk (sDiv P a b) := by
  unfold sDiv
  split
  · exact nd2
  · rename_i hb
    exact fin_nd hP (fun h => sg_mul (fun e => h (by rw [e]; simp)) hb)
theorem sPowN_nd {P : Nat} {a : Int} (hP : 1 ≤ P ∧ P ≤ 31) (n : Nat) : ndOk (sPowN P a n) := by
  induction n with
  | zero => exact ⟨Int.le_refl _, (by decide : (0 : Int) ≤ 2), one_vB, fun h => absurd rfl h⟩
  | succ n ih =>
    show ndOk (if (sPowN P a n).1 = 0 then sMul P (sPowN P a n).2 a else sPowN P a n)
    split
    · exact sMul_nd hP
    · exact ih
theorem sOp_nd {P : Nat} {op a b : Int} (hP : 1 ≤ P ∧ P ≤ 31) (ha : vB a) : ndOk (sOp P op a b) := by
  unfold sOp
  split
  · exact sAdd_nd hP
  · split
    · exact sAdd_nd hP
    · split
      · exact sMul_nd hP
      · split
        · exact sDiv_nd hP
        · split
          · unfold sPow
            split
            · exact nd1
            · split
              · exact nd2
              · split
                · exact sPowN_nd hP _
                · exact sDiv_nd hP
          · exact ⟨Int.le_refl _, (by decide : (0 : Int) ≤ 2), vB_neg ha, fun h => absurd rfl h⟩
/-- the document's answers -/
def sp_value (σ : Sg) (v scale : Int) : Int × Sg := if scale < 0 ∨ 18 < scale then (-4, σ) else if sC σ = 100 then (-1, σ) else (sC σ + 1, addNode σ (fin (sP σ) v.natAbs (-scale) (sgn v)))
def nodeW (σ : Sg) (op a b : Int) : Int × Int := if (sN σ a.toNat).1 ≠ 0 then ((sN σ a.toNat).1, 0) else if op < 5 ∧ (sN σ b.toNat).1 ≠ 0 then ((sN σ b.toNat).1, 0) else sOp (sP σ) op (sN σ a.toNat).2 (sN σ b.toNat).2
def sp_node (σ : Sg) (op a b : Int) : Int × Sg := if op < 0 ∨ 5 < op then (-4, σ) else if ¬ (0 < a ∧ a ≤ sC σ) ∨ (op < 5 ∧ ¬ (0 < b ∧ b ≤ sC σ)) then (-2, σ) else if sC σ = 100 then (-1, σ) else (sC σ + 1, addNode σ (nodeW σ op a b))
theorem fin_ok2 {M : Nat → Int → Int} {z sg x : Int} {P N : Nat} (h1 : z = cuz N x) (h2 : Rv M 2 (sg * cuv P N x)) : z = (fin P N x sg).1 ∧ (z = 0 → Rv M 2 (fin P N x sg).2) := fin_ok h1 h2
theorem kp_nv {M : Nat → Int → Int} {n z : Int} {w : Int × Int} (hz : z = w.1) (hw : ndOk w) (h : (z = 0 ∧ Nv M n 0 w.2) ∨ (z ≠ 0 ∧ Nv M n z 0)) : Nv M n w.1 w.2 := by
  rcases h with ⟨h1, h2⟩ | ⟨h1, h2⟩
  · rw [← hz, h1]; exact h2
  · rw [hw.2.2.2 (by rw [← hz]; exact h1), ← hz]; exact h2
theorem nd19 {v : Int} (h : inJ v) : nd v.natAbs ≤ 19 := by
  apply nd_le
  have h6 : (10 : Nat) ^ 19 = 10000000000000000000 := by decide
  omega
theorem sOp_5 {P : Nat} {op a b b' : Int} (h : 5 ≤ op) : sOp P op a b = sOp P op a b' := by
  unfold sOp
  rw [if_neg (by omega), if_neg (by omega), if_neg (by omega), if_neg (by omega), if_neg (by omega), if_neg (by omega), if_neg (by omega), if_neg (by omega), if_neg (by omega), if_neg (by omega)]
def sp_raises (σ : Sg) (n : Int) : Int := if 0 < n ∧ n ≤ sC σ then (sN σ n.toNat).1 else -2
/-- whether it throws, and the answer -/
def sp_exact (σ : Sg) (n side : Int) : Int × Int := if ¬ (0 < n ∧ n ≤ sC σ) ∨ side < 0 then (0, -1) else if (sN σ n.toNat).1 ≠ 0 then (1, 0) else if side = 0 then (0, sgn (sN σ n.toNat).2) else if side = 1 then (0, nd (cN (sN σ n.toNat).2)) else if side = 2 then (0, cX (sN σ n.toNat).2) else if side - 3 < nd (cN (sN σ n.toNat).2) then (0, ((cN (sN σ n.toNat).2 / 10 ^ (nd (cN (sN σ n.toNat).2) - 1 - (side - 3).toNat) % 10 : Nat) : Int)) else (0, -1)
def addRec (σ : Sg) (q : Rec6) : Sg := (sP σ, sC σ, sN σ, sR σ + 1, uF (sQ σ) (sR σ + 1) q, sL σ)
def setRec (σ : Sg) (r : Nat) (q : Rec6) : Sg := (sP σ, sC σ, sN σ, sR σ, uF (sQ σ) r q, sL σ)
def sp_receiver (σ : Sg) (d s ro : Int) : Int × Sg := if d < 1 ∨ 18 < d ∨ s < 0 ∨ d < s ∨ ro < 0 ∨ 7 < ro then (-4, σ) else if sR σ = 20 then (-1, σ) else (sR σ + 1, addRec σ (d, s, ro, 0, 0, 0))
def putH (q : Rec6) (h : Int) : Rec6 := (q.1, q.2.1, q.2.2.1, h, q.2.2.2.2.1, q.2.2.2.2.2)
def sp_set (σ : Sg) (r v : Int) : Int × Sg := if 0 < r ∧ r ≤ sR σ then (1, setRec σ r.toNat (putH (sQ σ r.toNat) (v.tmod (10 ^ (sQ σ r.toNat).1.toNat)))) else (-2, σ)
def sp_stored (σ : Sg) (r : Int) : Int := if 0 < r ∧ r ≤ sR σ then (sQ σ r.toNat).2.2.2.1 else 0
def sp_rest (σ : Sg) (r : Int) : Int := if 0 < r ∧ r ≤ sR σ then (sQ σ r.toNat).2.2.2.2.1 else 0
def sp_error (σ : Sg) (r : Int) : Int := if 0 < r ∧ r ≤ sR σ then (sQ σ r.toNat).2.2.2.2.2 else 0
theorem moInv.setR {V : Nat → Int} {M M' : Nat → Int → Int} {σ : Sg} {r : Int} {q : Rec6} (h : moInv V M σ) (h1 : 1 ≤ r) (h2 : r ≤ sR σ) (hq : rcOk q) (hM : ∀ k : Nat, k < 11 → 6 ≤ k → M' k = M k) (ho : ∀ x : Int, x ≠ r → M' 11 x = M 11 x ∧ M' 12 x = M 12 x ∧ M' 13 x = M 13 x ∧ M' 14 x = M 14 x ∧ M' 15 x = M 15 x ∧ M' 16 x = M 16 x) (hr : Rcv M' r q) : moInv V M' (setRec σ r.toNat q) := by
  obtain ⟨g1, g2, g3, g4, g5, g6⟩ := h
  obtain ⟨a1, a2, a3, a4, a5, a6, a7, a8⟩ := g1
  refine ⟨⟨a1, a2, a3, a4, a5, a6, a7, fun x b c => ?_⟩, g2, fun n b c => ?_, fun n b c => ?_, fun x b c => ?_, fun x b c => ?_⟩
  · show rcOk (uF (sQ σ) r.toNat q x)
    by_cases e : x = r.toNat
    · rw [e, uF_s]; exact hq
    · rw [uF_n e]; exact a8 x b c
  · have := g3 n b c
    unfold Nv at this ⊢
    rw [hM 6 (by decide) (by decide), hM 7 (by decide) (by decide), hM 8 (by decide) (by decide), hM 9 (by decide) (by decide), hM 10 (by decide) (by decide)]; exact this
  · rw [hM 7 (by decide) (by decide), hM 8 (by decide) (by decide), hM 9 (by decide) (by decide)]; exact g4 n b c
  · show Rcv M' x (uF (sQ σ) r.toNat q x)
    by_cases e : x = r.toNat
    · rw [e, uF_s, Int.toNat_of_nonneg (by omega)]; exact hr
    · rw [uF_n e]
      have := g5 x b c
      obtain ⟨o1, o2, o3, o4, o5, o6⟩ := ho x (by omega)
      unfold Rcv at this ⊢
      rw [o1, o2, o3, o4, o5, o6]; exact this
  · have b2 : sR σ < x := b
    obtain ⟨o1, o2, o3, o4, o5, o6⟩ := ho x (by omega)
    rw [o4, o5, o6]; exact g6 x b2 c
theorem moInv.addR {V V' : Nat → Int} {M M1 M2 M3 : Nat → Int → Int} {σ : Sg} {d s ro : Int} (h : moInv V M σ) (hc : sR σ < 20) (hd : 1 ≤ d ∧ d ≤ 18 ∧ 0 ≤ s ∧ s ≤ d ∧ 0 ≤ ro ∧ ro ≤ 7) (hV : V' = uF V 13 (V 13 + 1)) (e1 : M1 = setA M 11 (V 13 + 1) d) (e2 : M2 = setA M1 12 (V 13 + 1) s) (e3 : M3 = setA M2 13 (V 13 + 1) ro) : moInv V' M3 (addRec σ (d, s, ro, 0, 0, 0)) := by
  obtain ⟨g1, g2, g3, g4, g5, g6⟩ := h
  obtain ⟨a1, a2, a3, a4, a5, a6, a7, a8⟩ := g1
  have e13 : V 13 + 1 = ((sR σ + 1 : Nat) : Int) := by have := g2.2.2.1; omega
  rw [e13] at e1 e2 e3
  have oth : ∀ k, k ≠ 11 → k ≠ 12 → k ≠ 13 → M3 k = M k := fun k b1 b2 b3 => by rw [e3, setA_n b3, e2, setA_n b2, e1, setA_n b1]
  refine ⟨⟨a1, a2, a3, hc, a5, a6, a7, fun x b c => ?_⟩, by subst hV; exact ⟨g2.1, g2.2.1, e13, g2.2.2.2⟩, fun n b c => ?_, fun n b c => ?_, fun x b c => ?_, fun x b c => ?_⟩
  · show rcOk (uF (sQ σ) (sR σ + 1) (d, s, ro, 0, 0, 0) x)
    by_cases e : x = sR σ + 1
    · rw [e, uF_s]; exact ⟨hd.1, hd.2.1, hd.2.2.1, hd.2.2.2.1, hd.2.2.2.2.1, hd.2.2.2.2.2, p10N _, p10N _, Or.inl rfl⟩
    · rw [uF_n e]; have c2 : x ≤ sR σ + 1 := c; exact a8 x b (by omega)
  · have := g3 n b c
    unfold Nv at this ⊢
    rw [oth 6 (by decide) (by decide) (by decide), oth 7 (by decide) (by decide) (by decide), oth 8 (by decide) (by decide) (by decide), oth 9 (by decide) (by decide) (by decide), oth 10 (by decide) (by decide) (by decide)]; exact this
  · rw [oth 7 (by decide) (by decide) (by decide), oth 8 (by decide) (by decide) (by decide), oth 9 (by decide) (by decide) (by decide)]; exact g4 n b c
  · show Rcv M3 x (uF (sQ σ) (sR σ + 1) (d, s, ro, 0, 0, 0) x)
    by_cases e : x = sR σ + 1
    · rw [e, uF_s]
      obtain ⟨z1, z2, z3⟩ := g6 (sR σ + 1) (by omega) (by omega)
      refine ⟨?_, ?_, ?_, ?_, ?_, ?_⟩
      · rw [e3, setA_n (by decide), e2, setA_n (by decide), e1, setA_s, uI_s]
      · rw [e3, setA_n (by decide), e2, setA_s, uI_s]
      · rw [e3, setA_s, uI_s]
      · rw [oth 14 (by decide) (by decide) (by decide)]; exact z1
      · rw [oth 15 (by decide) (by decide) (by decide)]; exact z2
      · rw [oth 16 (by decide) (by decide) (by decide)]; exact z3
    · rw [uF_n e]
      have c2 : x ≤ sR σ + 1 := c
      have := g5 x b (by omega)
      have ne : (x : Int) ≠ ((sR σ + 1 : Nat) : Int) := by omega
      unfold Rcv at this ⊢
      rw [oth 14 (by decide) (by decide) (by decide), oth 15 (by decide) (by decide) (by decide), oth 16 (by decide) (by decide) (by decide)]
      rw [show M3 11 x = M 11 x by rw [e3, setA_n (by decide), e2, setA_n (by decide), e1, setA_s, uI_n ne], show M3 12 x = M 12 x by rw [e3, setA_n (by decide), e2, setA_s, uI_n ne, e1, setA_n (by decide)], show M3 13 x = M 13 x by rw [e3, setA_s, uI_n ne, e2, setA_n (by decide), e1, setA_n (by decide)]]
      exact this
  · have b2 : sR σ + 1 < x := b
    rw [oth 14 (by decide) (by decide) (by decide), oth 15 (by decide) (by decide) (by decide), oth 16 (by decide) (by decide) (by decide)]
    exact g6 x (by omega) c
theorem p10_18 {n : Nat} (h : n ≤ 18) : (10 : Int) ^ n ≤ 1000000000000000000 ∧ 1 ≤ (10 : Int) ^ n := by
  refine ⟨?_, p10 n⟩
  have h1 : 10 ^ n ≤ 10 ^ 18 := Nat.pow_le_pow_right (by decide) h
  have h2 : (10 : Nat) ^ 18 = 1000000000000000000 := by decide
  rw [← p10c]; omega
theorem tmod_lt (v : Int) (n : Nat) : (v.tmod (10 ^ n)).natAbs < 10 ^ n := by
  rw [Int.natAbs_tmod, ← p10c, Int.natAbs_natCast]
  exact Nat.mod_lt _ (p10N n)
end
section
set_option maxHeartbeats 4000000 in
set_option maxRecDepth 100000 in
/-- value(v, scale) -/
theorem t_Mo_value (l : Launch) (D : va_G) (cs : Nat → ClassId) (Z : (Nat → Prop) → State → Heap → Prop) (hZo : fm_Zok Z) (ad : Nat → Nat) (μ : fm_Mu) (V : Nat → Int) (M : Nat → Int → Int) (sz : Nat) (v : Int) (scale : Int) (σ : Sg) (hM : moS cs μ ad V M) (hv : inJ v) (hsc : inI scale) (hI : moInv V M σ) : Met l y_Mo_value (Cond.code y_Mo_value c_Mo_value 4 (some .int) :: wA) ({ frames := 2, cells := 0, slots := 0, locals := 49 }) (fm_Pc D clsA (tysA cs) Z μ sz [.ref (ad 0), .long (jN (v)), .int (iN (scale))]) (moQi D cs ad μ sz (fun z V' M' => z = (sp_value σ v scale).1 ∧ moInv V' M' (sp_value σ v scale).2 ∧ V' 0 = 0)) 0 0 (fm_A μ sz) := by
  refine mo_of hM (by decide +kernel) (Nat.le_of_ble_eq_true rfl) (fun p e s m below meth c S hr hlocks hsz hm hK hZ hA ls hl => ?_)
  subst hsz
  obtain ⟨hx, hb, hml, hown, hts⟩ := id S
  have hl : lv_has ls 4 [(0, .ref (ad 0)), (1, .long (jN (v))), (3, .int (iN (scale)))] := hl
  refine lv_aload_n hx hb d_Mo_value_0 rfl (lv_at hl 0 rfl) ?_
  refine fm_iconst S d_Mo_value_1 ?_
  refine mo_puti 0 S hK hm (by decide) k466 d_Mo_value_2 (fun V1 H locs eV1 hm => ?_)
  have hI := hI.v0 eV1
  have hI1 := hI.p
  have hI2 := hI.c
  have hI3 := hI.r
  refine lv_iload_n hx hb d_Mo_value_5 rfl (lv_at hl 2 rfl) ?_
  refine fm_if_lt (tgt := 15) S (by omega) d_Mo_value_6 (by decide) (fun c2 => ?_) (fun c2 => ?_)
  · refine fm_bipush S d_Mo_value_15 (by decide) ?_
    refine mo_iret S hr hlocks hK hm d_Mo_value_17 ?_
    unfold sp_value
    rw [if_pos (by omega)]
    exact ⟨rfl, hI, by rw [eV1]; rfl⟩
  · refine lv_iload_n hx hb d_Mo_value_9 rfl (lv_at hl 2 rfl) ?_
    refine fm_bipush S d_Mo_value_10 (by decide) ?_
    refine fm_icmp_le (tgt := 18) S (by omega) (by omega) d_Mo_value_12 (by decide) (fun c3 => ?_) (fun c3 => ?_)
    · refine lv_aload_n hx hb d_Mo_value_18 rfl (lv_at hl 0 rfl) ?_
      refine mo_get 12 S hK hm (by decide) k478 rfl rfl d_Mo_value_19 ?_
      refine fm_bipush S d_Mo_value_22 (by decide) ?_
      refine fm_icmp_ne (tgt := 29) S (by omega) (by omega) d_Mo_value_24 (by decide) (fun c4 => ?_) (fun c4 => ?_)
      · refine lv_aload_n hx hb d_Mo_value_29 rfl (lv_at hl 0 rfl) ?_
        refine lv_lload_n hx hb d_Mo_value_30 rfl (lv_at hl 1 rfl) ?_
        refine fm_iconst S d_Mo_value_31 ?_
        refine lv_iload_n hx hb d_Mo_value_32 rfl (lv_at hl 2 rfl) ?_
        refine fm_isub S d_Mo_value_33 ?_
        refine fm_iconst S d_Mo_value_34 ?_
        refine mo_cvS (n := 3) (As := [.long (jN (v)), .int (iN ((0 - scale))), .int (iN (2))]) (rest := []) S hK hZo hZ hA hm (fun μ sz hM => t_Mo_whole l D cs Z hZo ad μ V1 M sz v (0 - scale) 2 hM (by omega) (by omega)) (gV k546 k548 ks19 k6 k549) (by decide) (by decide +kernel) rfl hl.1 rfl (Nat.le_of_ble_eq_true rfl) ⟨Nat.le_of_ble_eq_true rfl, Nat.le_of_ble_eq_true rfl⟩ d_Mo_value_35 (fun M6 H locs q5 hm => ?_)
        obtain ⟨frM6, rgM6⟩ := q5
        have hnd19 := nd19 hv
        refine lv_aload_n hx hb d_Mo_value_38 rfl (lv_at hl 0 rfl) ?_
        refine lv_aload_n hx hb d_Mo_value_39 rfl (lv_at hl 0 rfl) ?_
        refine fm_iconst S d_Mo_value_40 ?_
        refine lv_aload_n hx hb d_Mo_value_41 rfl (lv_at hl 0 rfl) ?_
        refine mo_get 1 S hK hm (by decide) k467 rfl rfl d_Mo_value_42 ?_
        have hif : -18 ≤ (if v = 0 then (0 : Int) else 0 - scale) ∧ (if v = 0 then (0 : Int) else 0 - scale) ≤ 0 := by split <;> omega
        refine mo_ciS (n := 2) (As := [.int (iN (2)), .int (iN ((V1 1)))]) (rest := [.ref (ad 0)]) S hK hZo hZ hA hm (fun μ sz hM => t_Mo_cut l D cs Z hZo ad μ V1 M6 sz 2 (V1 1) (sP σ) (nd v.natAbs) v.natAbs (if v = 0 then 0 else (0 - scale)) (sgn v) hM (by omega) (by omega) (by omega) (by omega) rgM6) (gV k555 k557 ks21 k6 k558) (by decide) (by decide +kernel) rfl hl.1 rfl (Nat.le_of_ble_eq_true rfl) ⟨Nat.le_of_ble_eq_true rfl, Nat.le_of_ble_eq_true rfl⟩ d_Mo_value_45 (fun x9 M8 H locs q7 hm => ?_)
        obtain ⟨frM8, cuM8⟩ := q7
        obtain ⟨hz1, hz2⟩ := cut_fin0 cuM8 hI1.2 (fun h => sgn_nz (fun e => h (by rw [e]; rfl))) (by omega)
        have hif2 : cuz v.natAbs (if v = 0 then (0 : Int) else 0 - scale) = cuz v.natAbs (-scale) ∧ cuv (sP σ) v.natAbs (if v = 0 then (0 : Int) else 0 - scale) = cuv (sP σ) v.natAbs (-scale) := by
          split
          · rename_i h; rw [h, show (0 : Int).natAbs = 0 from rfl, cuv0, cuv0]; unfold cuz; simp
          · rw [show (0 : Int) - scale = -scale by omega]; exact ⟨rfl, rfl⟩
        rw [hif2.1] at hz1
        rw [hif2.2] at hz2
        have hres := fin_ok2 hz1 hz2
        have hnd := fin_nd (N := v.natAbs) (x := -scale) (sg := sgn v) hI1.2 (fun h => sgn_nz (fun e => h (by rw [e]; rfl)))
        have hI5 : moInv V1 M8 σ := hI.fr ⟨rfl, rfl, rfl, rfl⟩ (fun k hk => (frM8.1 k (by omega)).trans (frM6.1 k (by omega)))
        have hzz := hI5.2.2.2.1 (sC σ + 1) (by omega) (by omega)
        rw [show ((sC σ + 1 : Nat) : Int) = V1 12 + 1 by omega] at hzz
        have hb2 := hnd.1
        have hb3 := hnd.2.1
        rw [← hres.1] at hb2 hb3
        refine mo_ci (n := 1) (As := [.int (iN (x9))]) (rest := []) S hK hZo hZ hA hm (fun μ sz hM => t_Mo_kept l D cs Z hZo ad μ V1 M8 sz x9 (fin (sP σ) v.natAbs (-scale) (sgn v)).2 hM (by rw [hres.1]; have := hnd.1; have := hnd.2.1; omega) hres.2 hnd.2.2.1 (by omega) hzz) (gV k563 k565 ks23 k6 k566) (by decide) (by decide +kernel) rfl hl.1 rfl (Nat.le_of_ble_eq_true rfl) ⟨Nat.le_of_ble_eq_true rfl, Nat.le_of_ble_eq_true rfl⟩ d_Mo_value_48 (fun x11 V12 M13 H locs q10 hm => ?_)
        refine mo_iret S hr hlocks hK hm d_Mo_value_51 ?_
        obtain ⟨k1, k2, k3, k4⟩ := q10
        unfold sp_value
        rw [if_neg (by omega), if_neg (by omega)]
        refine ⟨by rw [k1]; omega, hI5.add (by omega) hnd k2 k3 (kp_nv hres.1 hnd k4), by rw [k2, eV1]; rfl⟩
      · refine fm_iconst S d_Mo_value_27 ?_
        refine mo_iret S hr hlocks hK hm d_Mo_value_28 ?_
        unfold sp_value
        rw [if_neg (by omega), if_pos (by omega)]
        exact ⟨rfl, hI, by rw [eV1]; rfl⟩
    · refine fm_bipush S d_Mo_value_15 (by decide) ?_
      refine mo_iret S hr hlocks hK hm d_Mo_value_17 ?_
      unfold sp_value
      rw [if_pos (by omega)]
      exact ⟨rfl, hI, by rw [eV1]; rfl⟩

set_option maxHeartbeats 4000000 in
set_option maxRecDepth 100000 in
/-- node(op, a, b) -/
theorem t_Mo_node (l : Launch) (D : va_G) (cs : Nat → ClassId) (Z : (Nat → Prop) → State → Heap → Prop) (hZo : fm_Zok Z) (ad : Nat → Nat) (μ : fm_Mu) (V : Nat → Int) (M : Nat → Int → Int) (sz : Nat) (op : Int) (a : Int) (b : Int) (σ : Sg) (hM : moS cs μ ad V M) (hop : inI op) (hia : inI a) (hib : inI b) (hI : moInv V M σ) : Met l y_Mo_node (Cond.code y_Mo_node c_Mo_node 4 (some .int) :: wA) ({ frames := 5, cells := 0, slots := 0, locals := 116 }) (fm_Pc D clsA (tysA cs) Z μ sz [.ref (ad 0), .int (iN (op)), .int (iN (a)), .int (iN (b))]) (moQi D cs ad μ sz (fun z V' M' => z = (sp_node σ op a b).1 ∧ moInv V' M' (sp_node σ op a b).2 ∧ V' 0 = 0)) 0 0 (fm_A μ sz) := by
  refine mo_of hM (by decide +kernel) (Nat.le_of_ble_eq_true rfl) (fun p e s m below meth c S hr hlocks hsz hm hK hZ hA ls hl => ?_)
  subst hsz
  obtain ⟨hx, hb, hml, hown, hts⟩ := id S
  have hl : lv_has ls 4 [(0, .ref (ad 0)), (1, .int (iN (op))), (2, .int (iN (a))), (3, .int (iN (b)))] := hl
  refine lv_aload_n hx hb d_Mo_node_0 rfl (lv_at hl 0 rfl) ?_
  refine fm_iconst S d_Mo_node_1 ?_
  refine mo_puti 0 S hK hm (by decide) k466 d_Mo_node_2 (fun V1 H locs eV1 hm => ?_)
  have hI := hI.v0 eV1
  have hI1 := hI.p
  have hI2 := hI.c
  have hI3 := hI.r
  refine lv_iload_n hx hb d_Mo_node_5 rfl (lv_at hl 1 rfl) ?_
  refine fm_if_lt (tgt := 14) S (by omega) d_Mo_node_6 (by decide) (fun c2 => ?_) (fun c2 => ?_)
  · refine fm_bipush S d_Mo_node_14 (by decide) ?_
    refine mo_iret S hr hlocks hK hm d_Mo_node_16 ?_
    unfold sp_node
    rw [if_pos (by omega)]
    exact ⟨rfl, hI, by rw [eV1]; rfl⟩
  · refine lv_iload_n hx hb d_Mo_node_9 rfl (lv_at hl 1 rfl) ?_
    refine fm_iconst S d_Mo_node_10 ?_
    refine fm_icmp_le (tgt := 17) S (by omega) (by omega) d_Mo_node_11 (by decide) (fun c3 => ?_) (fun c3 => ?_)
    · refine lv_aload_n hx hb d_Mo_node_17 rfl (lv_at hl 0 rfl) ?_
      refine lv_iload_n hx hb d_Mo_node_18 rfl (lv_at hl 2 rfl) ?_
      refine mo_pi (n := 1) (As := [.int (iN (a))]) (rest := []) S hK hZo hZ hA hm (fun μ sz hM => t_Mo_isNode l D cs Z hZo ad μ V1 M sz a hM (by omega) (by omega)) (gV k571 k573 ks24 k6 k574) (by decide) (by decide +kernel) rfl hl.1 rfl (Nat.le_of_ble_eq_true rfl) ⟨Nat.le_of_ble_eq_true rfl, Nat.le_of_ble_eq_true rfl⟩ d_Mo_node_19 (fun x5 q4 => ?_)
      refine fm_if_eq (tgt := 38) S (by omega) d_Mo_node_22 (by decide) (fun c6 => ?_) (fun c6 => ?_)
      · refine fm_bipush S d_Mo_node_38 (by decide) ?_
        refine mo_iret S hr hlocks hK hm d_Mo_node_40 ?_
        unfold sp_node
        rw [if_neg (by omega), if_pos (by omega)]
        exact ⟨rfl, hI, by rw [eV1]; rfl⟩
      · refine lv_iload_n hx hb d_Mo_node_25 rfl (lv_at hl 1 rfl) ?_
        refine fm_iconst S d_Mo_node_26 ?_
        refine fm_icmp_ge (tgt := 41) S (by omega) (by omega) d_Mo_node_27 (by decide) (fun c7 => ?_) (fun c7 => ?_)
        · refine lv_aload_n hx hb d_Mo_node_41 rfl (lv_at hl 0 rfl) ?_
          refine mo_get 12 S hK hm (by decide) k478 rfl rfl d_Mo_node_42 ?_
          refine fm_bipush S d_Mo_node_45 (by decide) ?_
          refine fm_icmp_ne (tgt := 52) S (by omega) (by omega) d_Mo_node_47 (by decide) (fun c8 => ?_) (fun c8 => ?_)
          · have hwa := hI.nv (n := a) (by omega) (by omega)
            have ea := hwa.1.1
            have ba1 := hwa.2.1
            have ba2 := hwa.2.2.1
            have ba3 := hwa.2.2.2.1.1
            have hzz := hI.2.2.2.1 (sC σ + 1) (by omega) (by omega)
            rw [show ((sC σ + 1 : Nat) : Int) = V1 12 + 1 by omega] at hzz
            refine lv_aload_n hx hb d_Mo_node_52 rfl (lv_at hl 0 rfl) ?_
            refine mo_get 11 S hK hm (by decide) k477 rfl rfl d_Mo_node_53 ?_
            refine lv_iload_n hx hb d_Mo_node_56 rfl (lv_at hl 2 rfl) ?_
            refine mo_iald 10 S hK hm (by decide) (by simp only [moLen]; omega) d_Mo_node_57 ?_
            refine fm_if_eq (tgt := 72) S (by omega) d_Mo_node_58 (by decide) (fun c9 => ?_) (fun c9 => ?_)
            · refine lv_iload_n hx hb d_Mo_node_72 rfl (lv_at hl 1 rfl) ?_
              refine fm_iconst S d_Mo_node_73 ?_
              refine fm_icmp_ge (tgt := 97) S (by omega) (by omega) d_Mo_node_74 (by decide) (fun c10 => ?_) (fun c10 => ?_)
              · refine lv_aload_n hx hb d_Mo_node_97 rfl (lv_at hl 0 rfl) ?_
                refine lv_iload_n hx hb d_Mo_node_98 rfl (lv_at hl 2 rfl) ?_
                refine fm_iconst S d_Mo_node_99 ?_
                refine mo_cvS (n := 2) (As := [.int (iN (a)), .int (iN (0))]) (rest := []) S hK hZo hZ hA hm (fun μ sz hM => t_Mo_load l D cs Z hZo ad μ V1 M sz a 0 (sN σ a.toNat).1 (sN σ a.toNat).2 hM (by omega) hwa.1) (gV k575 k577 ks25 k6 k578) (by decide) (by decide +kernel) rfl hl.1 rfl (Nat.le_of_ble_eq_true rfl) ⟨Nat.le_of_ble_eq_true rfl, Nat.le_of_ble_eq_true rfl⟩ d_Mo_node_100 (fun M12 H locs q11 hm => ?_)
                obtain ⟨frM12, rgM12⟩ := q11
                refine lv_iload_n hx hb d_Mo_node_103 rfl (lv_at hl 1 rfl) ?_
                refine fm_iconst S d_Mo_node_104 ?_
                refine fm_icmp_ge (tgt := 114) S (by omega) (by omega) d_Mo_node_105 (by decide) (fun c13 => ?_) (fun c13 => ?_)
                · refine lv_aload_n hx hb d_Mo_node_114 rfl (lv_at hl 0 rfl) ?_
                  refine lv_aload_n hx hb d_Mo_node_115 rfl (lv_at hl 0 rfl) ?_
                  refine lv_iload_n hx hb d_Mo_node_116 rfl (lv_at hl 1 rfl) ?_
                  refine mo_ciS (n := 1) (As := [.int (iN (op))]) (rest := [.ref (ad 0)]) S hK hZo hZ hA hm (fun μ sz hM => t_Mo_operated l D cs Z hZo ad μ V1 M12 sz op (sP σ) (sN σ a.toNat).2 0 hM (by omega) rgM12 (fun h => absurd h (by omega)) hwa.2.2.2.1 vB_0 hI1) (gV k579 k581 ks26 k6 k582) (by decide) (by decide +kernel) rfl hl.1 rfl (Nat.le_of_ble_eq_true rfl) ⟨Nat.le_of_ble_eq_true rfl, Nat.le_of_ble_eq_true rfl⟩ d_Mo_node_117 (fun x16 M15 H locs q14 hm => ?_)
                  rw [sOp_5 (b' := (sN σ b.toNat).2) (by omega)] at q14
                  have hnd : ndOk (sOp (sP σ) op (sN σ a.toNat).2 (sN σ b.toNat).2) := sOp_nd hI1.2 hwa.2.2.2.1
                  obtain ⟨qo, hres⟩ := q14
                  have hb2 := hnd.1
                  have hb3 := hnd.2.1
                  rw [← hres.1] at hb2 hb3
                  have hI5 : moInv V1 M15 σ := hI.fr ⟨rfl, rfl, rfl, rfl⟩ (fun k hk => (qo.1 k (by omega)).trans ((fun k hk => frM12.1 k (by omega)) k hk))
                  have hzz := hI5.2.2.2.1 (sC σ + 1) (by omega) (by omega)
                  rw [show ((sC σ + 1 : Nat) : Int) = V1 12 + 1 by omega] at hzz
                  refine mo_ci (n := 1) (As := [.int (iN (x16))]) (rest := []) S hK hZo hZ hA hm (fun μ sz hM => t_Mo_kept l D cs Z hZo ad μ V1 M15 sz x16 (sOp (sP σ) op (sN σ a.toNat).2 (sN σ b.toNat).2).2 hM (by omega) hres.2 hnd.2.2.1 (by omega) hzz) (gV k563 k565 ks23 k6 k566) (by decide) (by decide +kernel) rfl hl.1 rfl (Nat.le_of_ble_eq_true rfl) ⟨Nat.le_of_ble_eq_true rfl, Nat.le_of_ble_eq_true rfl⟩ d_Mo_node_120 (fun x18 V19 M20 H locs q17 hm => ?_)
                  refine mo_iret S hr hlocks hK hm d_Mo_node_123 ?_
                  obtain ⟨k1, k2, k3, k4⟩ := q17
                  unfold sp_node
                  rw [if_neg (by omega), if_neg (by omega), if_neg (by omega)]
                  have hw : nodeW σ op a b = sOp (sP σ) op (sN σ a.toNat).2 (sN σ b.toNat).2 := by unfold nodeW; rw [if_neg (by omega), if_neg (by omega)]
                  rw [hw]
                  exact ⟨by rw [k1]; omega, hI5.add (by omega) hnd k2 k3 (kp_nv hres.1 hnd k4), by rw [k2, eV1]; rfl⟩
                · exfalso; omega
              · have hwb := hI.nv (n := b) (by omega) (by omega)
                have eb := hwb.1.1
                have bb1 := hwb.2.1
                have bb2 := hwb.2.2.1
                have bb3 := hwb.2.2.2.1.1
                refine lv_aload_n hx hb d_Mo_node_77 rfl (lv_at hl 0 rfl) ?_
                refine mo_get 11 S hK hm (by decide) k477 rfl rfl d_Mo_node_78 ?_
                refine lv_iload_n hx hb d_Mo_node_81 rfl (lv_at hl 3 rfl) ?_
                refine mo_iald 10 S hK hm (by decide) (by simp only [moLen]; omega) d_Mo_node_82 ?_
                refine fm_if_eq (tgt := 97) S (by omega) d_Mo_node_83 (by decide) (fun c21 => ?_) (fun c21 => ?_)
                · refine lv_aload_n hx hb d_Mo_node_97 rfl (lv_at hl 0 rfl) ?_
                  refine lv_iload_n hx hb d_Mo_node_98 rfl (lv_at hl 2 rfl) ?_
                  refine fm_iconst S d_Mo_node_99 ?_
                  refine mo_cvS (n := 2) (As := [.int (iN (a)), .int (iN (0))]) (rest := []) S hK hZo hZ hA hm (fun μ sz hM => t_Mo_load l D cs Z hZo ad μ V1 M sz a 0 (sN σ a.toNat).1 (sN σ a.toNat).2 hM (by omega) hwa.1) (gV k575 k577 ks25 k6 k578) (by decide) (by decide +kernel) rfl hl.1 rfl (Nat.le_of_ble_eq_true rfl) ⟨Nat.le_of_ble_eq_true rfl, Nat.le_of_ble_eq_true rfl⟩ d_Mo_node_100 (fun M23 H locs q22 hm => ?_)
                  obtain ⟨frM23, rgM23⟩ := q22
                  refine lv_iload_n hx hb d_Mo_node_103 rfl (lv_at hl 1 rfl) ?_
                  refine fm_iconst S d_Mo_node_104 ?_
                  refine fm_icmp_ge (tgt := 114) S (by omega) (by omega) d_Mo_node_105 (by decide) (fun c24 => ?_) (fun c24 => ?_)
                  · exfalso; omega
                  · have hgb2 : Nv M23 b (sN σ b.toNat).1 (sN σ b.toNat).2 := by
                      have h := hwb.1
                      unfold Nv at h ⊢
                      rw [frM23.1 6 (by decide), frM23.1 7 (by decide), frM23.1 8 (by decide), frM23.1 9 (by decide), frM23.1 10 (by decide)]; exact h
                    refine lv_aload_n hx hb d_Mo_node_108 rfl (lv_at hl 0 rfl) ?_
                    refine lv_iload_n hx hb d_Mo_node_109 rfl (lv_at hl 3 rfl) ?_
                    refine fm_iconst S d_Mo_node_110 ?_
                    refine mo_cvS (n := 2) (As := [.int (iN (b)), .int (iN (1))]) (rest := []) S hK hZo hZ hA hm (fun μ sz hM => t_Mo_load l D cs Z hZo ad μ V1 M23 sz b 1 (sN σ b.toNat).1 (sN σ b.toNat).2 hM (by omega) hgb2) (gV k575 k577 ks25 k6 k578) (by decide) (by decide +kernel) rfl hl.1 rfl (Nat.le_of_ble_eq_true rfl) ⟨Nat.le_of_ble_eq_true rfl, Nat.le_of_ble_eq_true rfl⟩ d_Mo_node_111 (fun M26 H locs q25 hm => ?_)
                    obtain ⟨frM26, rgM26⟩ := q25
                    refine lv_aload_n hx hb d_Mo_node_114 rfl (lv_at hl 0 rfl) ?_
                    refine lv_aload_n hx hb d_Mo_node_115 rfl (lv_at hl 0 rfl) ?_
                    refine lv_iload_n hx hb d_Mo_node_116 rfl (lv_at hl 1 rfl) ?_
                    have hra2 := frM26.rv (r' := 0) (by decide) hwa.2.2.2.1 rgM23
                    refine mo_ciS (n := 1) (As := [.int (iN (op))]) (rest := [.ref (ad 0)]) S hK hZo hZ hA hm (fun μ sz hM => t_Mo_operated l D cs Z hZo ad μ V1 M26 sz op (sP σ) (sN σ a.toNat).2 (sN σ b.toNat).2 hM (by omega) hra2 (fun _ => rgM26) hwa.2.2.2.1 hwb.2.2.2.1 hI1) (gV k579 k581 ks26 k6 k582) (by decide) (by decide +kernel) rfl hl.1 rfl (Nat.le_of_ble_eq_true rfl) ⟨Nat.le_of_ble_eq_true rfl, Nat.le_of_ble_eq_true rfl⟩ d_Mo_node_117 (fun x29 M28 H locs q27 hm => ?_)
                    have hnd : ndOk (sOp (sP σ) op (sN σ a.toNat).2 (sN σ b.toNat).2) := sOp_nd hI1.2 hwa.2.2.2.1
                    obtain ⟨qo, hres⟩ := q27
                    have hb2 := hnd.1
                    have hb3 := hnd.2.1
                    rw [← hres.1] at hb2 hb3
                    have hI5 : moInv V1 M28 σ := hI.fr ⟨rfl, rfl, rfl, rfl⟩ (fun k hk => (qo.1 k (by omega)).trans ((fun k hk => (frM26.1 k (by omega)).trans (frM23.1 k (by omega))) k hk))
                    have hzz := hI5.2.2.2.1 (sC σ + 1) (by omega) (by omega)
                    rw [show ((sC σ + 1 : Nat) : Int) = V1 12 + 1 by omega] at hzz
                    refine mo_ci (n := 1) (As := [.int (iN (x29))]) (rest := []) S hK hZo hZ hA hm (fun μ sz hM => t_Mo_kept l D cs Z hZo ad μ V1 M28 sz x29 (sOp (sP σ) op (sN σ a.toNat).2 (sN σ b.toNat).2).2 hM (by omega) hres.2 hnd.2.2.1 (by omega) hzz) (gV k563 k565 ks23 k6 k566) (by decide) (by decide +kernel) rfl hl.1 rfl (Nat.le_of_ble_eq_true rfl) ⟨Nat.le_of_ble_eq_true rfl, Nat.le_of_ble_eq_true rfl⟩ d_Mo_node_120 (fun x31 V32 M33 H locs q30 hm => ?_)
                    refine mo_iret S hr hlocks hK hm d_Mo_node_123 ?_
                    obtain ⟨k1, k2, k3, k4⟩ := q30
                    unfold sp_node
                    rw [if_neg (by omega), if_neg (by omega), if_neg (by omega)]
                    have hw : nodeW σ op a b = sOp (sP σ) op (sN σ a.toNat).2 (sN σ b.toNat).2 := by unfold nodeW; rw [if_neg (by omega), if_neg (by omega)]
                    rw [hw]
                    exact ⟨by rw [k1]; omega, hI5.add (by omega) hnd k2 k3 (kp_nv hres.1 hnd k4), by rw [k2, eV1]; rfl⟩
                · refine lv_aload_n hx hb d_Mo_node_86 rfl (lv_at hl 0 rfl) ?_
                  refine lv_aload_n hx hb d_Mo_node_87 rfl (lv_at hl 0 rfl) ?_
                  refine mo_get 11 S hK hm (by decide) k477 rfl rfl d_Mo_node_88 ?_
                  refine lv_iload_n hx hb d_Mo_node_91 rfl (lv_at hl 3 rfl) ?_
                  refine mo_iald 10 S hK hm (by decide) (by simp only [moLen]; omega) d_Mo_node_92 ?_
                  refine mo_ci (n := 1) (As := [.int (iN ((M 10 b)))]) (rest := []) S hK hZo hZ hA hm (fun μ sz hM => t_Mo_kept l D cs Z hZo ad μ V1 M sz (M 10 b) 0 hM (by omega) (fun h => absurd h c21) vB_0 (by omega) hzz) (gV k563 k565 ks23 k6 k566) (by decide) (by decide +kernel) rfl hl.1 rfl (Nat.le_of_ble_eq_true rfl) ⟨Nat.le_of_ble_eq_true rfl, Nat.le_of_ble_eq_true rfl⟩ d_Mo_node_93 (fun x35 V36 M37 H locs q34 hm => ?_)
                  refine mo_iret S hr hlocks hK hm d_Mo_node_96 ?_
                  obtain ⟨k1, k2, k3, k4⟩ := q34
                  unfold sp_node
                  rw [if_neg (by omega), if_neg (by omega), if_neg (by omega)]
                  have hw : nodeW σ op a b = ((sN σ b.toNat).1, 0) := by unfold nodeW; rw [if_neg (by omega), if_pos (by omega)]
                  rw [hw]
                  exact ⟨by rw [k1]; omega, hI.add (by omega) ⟨bb1, bb2, vB_0, fun _ => rfl⟩ k2 k3 (kp_nv eb ⟨bb1, bb2, vB_0, fun _ => rfl⟩ k4), by rw [k2, eV1]; rfl⟩
            · refine lv_aload_n hx hb d_Mo_node_61 rfl (lv_at hl 0 rfl) ?_
              refine lv_aload_n hx hb d_Mo_node_62 rfl (lv_at hl 0 rfl) ?_
              refine mo_get 11 S hK hm (by decide) k477 rfl rfl d_Mo_node_63 ?_
              refine lv_iload_n hx hb d_Mo_node_66 rfl (lv_at hl 2 rfl) ?_
              refine mo_iald 10 S hK hm (by decide) (by simp only [moLen]; omega) d_Mo_node_67 ?_
              refine mo_ci (n := 1) (As := [.int (iN ((M 10 a)))]) (rest := []) S hK hZo hZ hA hm (fun μ sz hM => t_Mo_kept l D cs Z hZo ad μ V1 M sz (M 10 a) 0 hM (by omega) (fun h => absurd h c9) vB_0 (by omega) hzz) (gV k563 k565 ks23 k6 k566) (by decide) (by decide +kernel) rfl hl.1 rfl (Nat.le_of_ble_eq_true rfl) ⟨Nat.le_of_ble_eq_true rfl, Nat.le_of_ble_eq_true rfl⟩ d_Mo_node_68 (fun x39 V40 M41 H locs q38 hm => ?_)
              refine mo_iret S hr hlocks hK hm d_Mo_node_71 ?_
              obtain ⟨k1, k2, k3, k4⟩ := q38
              unfold sp_node
              rw [if_neg (by omega), if_neg (by omega), if_neg (by omega)]
              have hw : nodeW σ op a b = ((sN σ a.toNat).1, 0) := by unfold nodeW; rw [if_pos (by omega)]
              rw [hw]
              exact ⟨by rw [k1]; omega, hI.add (by omega) ⟨ba1, ba2, vB_0, fun _ => rfl⟩ k2 k3 (kp_nv ea ⟨ba1, ba2, vB_0, fun _ => rfl⟩ k4), by rw [k2, eV1]; rfl⟩
          · refine fm_iconst S d_Mo_node_50 ?_
            refine mo_iret S hr hlocks hK hm d_Mo_node_51 ?_
            unfold sp_node
            rw [if_neg (by omega), if_neg (by omega), if_pos (by omega)]
            exact ⟨rfl, hI, by rw [eV1]; rfl⟩
        · refine lv_aload_n hx hb d_Mo_node_30 rfl (lv_at hl 0 rfl) ?_
          refine lv_iload_n hx hb d_Mo_node_31 rfl (lv_at hl 3 rfl) ?_
          refine mo_pi (n := 1) (As := [.int (iN (b))]) (rest := []) S hK hZo hZ hA hm (fun μ sz hM => t_Mo_isNode l D cs Z hZo ad μ V1 M sz b hM (by omega) (by omega)) (gV k571 k573 ks24 k6 k574) (by decide) (by decide +kernel) rfl hl.1 rfl (Nat.le_of_ble_eq_true rfl) ⟨Nat.le_of_ble_eq_true rfl, Nat.le_of_ble_eq_true rfl⟩ d_Mo_node_32 (fun x43 q42 => ?_)
          refine fm_if_ne (tgt := 41) S (by omega) d_Mo_node_35 (by decide) (fun c44 => ?_) (fun c44 => ?_)
          · refine lv_aload_n hx hb d_Mo_node_41 rfl (lv_at hl 0 rfl) ?_
            refine mo_get 12 S hK hm (by decide) k478 rfl rfl d_Mo_node_42 ?_
            refine fm_bipush S d_Mo_node_45 (by decide) ?_
            refine fm_icmp_ne (tgt := 52) S (by omega) (by omega) d_Mo_node_47 (by decide) (fun c45 => ?_) (fun c45 => ?_)
            · have hwa := hI.nv (n := a) (by omega) (by omega)
              have ea := hwa.1.1
              have ba1 := hwa.2.1
              have ba2 := hwa.2.2.1
              have ba3 := hwa.2.2.2.1.1
              have hzz := hI.2.2.2.1 (sC σ + 1) (by omega) (by omega)
              rw [show ((sC σ + 1 : Nat) : Int) = V1 12 + 1 by omega] at hzz
              refine lv_aload_n hx hb d_Mo_node_52 rfl (lv_at hl 0 rfl) ?_
              refine mo_get 11 S hK hm (by decide) k477 rfl rfl d_Mo_node_53 ?_
              refine lv_iload_n hx hb d_Mo_node_56 rfl (lv_at hl 2 rfl) ?_
              refine mo_iald 10 S hK hm (by decide) (by simp only [moLen]; omega) d_Mo_node_57 ?_
              refine fm_if_eq (tgt := 72) S (by omega) d_Mo_node_58 (by decide) (fun c46 => ?_) (fun c46 => ?_)
              · refine lv_iload_n hx hb d_Mo_node_72 rfl (lv_at hl 1 rfl) ?_
                refine fm_iconst S d_Mo_node_73 ?_
                refine fm_icmp_ge (tgt := 97) S (by omega) (by omega) d_Mo_node_74 (by decide) (fun c47 => ?_) (fun c47 => ?_)
                · refine lv_aload_n hx hb d_Mo_node_97 rfl (lv_at hl 0 rfl) ?_
                  refine lv_iload_n hx hb d_Mo_node_98 rfl (lv_at hl 2 rfl) ?_
                  refine fm_iconst S d_Mo_node_99 ?_
                  refine mo_cvS (n := 2) (As := [.int (iN (a)), .int (iN (0))]) (rest := []) S hK hZo hZ hA hm (fun μ sz hM => t_Mo_load l D cs Z hZo ad μ V1 M sz a 0 (sN σ a.toNat).1 (sN σ a.toNat).2 hM (by omega) hwa.1) (gV k575 k577 ks25 k6 k578) (by decide) (by decide +kernel) rfl hl.1 rfl (Nat.le_of_ble_eq_true rfl) ⟨Nat.le_of_ble_eq_true rfl, Nat.le_of_ble_eq_true rfl⟩ d_Mo_node_100 (fun M49 H locs q48 hm => ?_)
                  obtain ⟨frM49, rgM49⟩ := q48
                  refine lv_iload_n hx hb d_Mo_node_103 rfl (lv_at hl 1 rfl) ?_
                  refine fm_iconst S d_Mo_node_104 ?_
                  refine fm_icmp_ge (tgt := 114) S (by omega) (by omega) d_Mo_node_105 (by decide) (fun c50 => ?_) (fun c50 => ?_)
                  · refine lv_aload_n hx hb d_Mo_node_114 rfl (lv_at hl 0 rfl) ?_
                    refine lv_aload_n hx hb d_Mo_node_115 rfl (lv_at hl 0 rfl) ?_
                    refine lv_iload_n hx hb d_Mo_node_116 rfl (lv_at hl 1 rfl) ?_
                    refine mo_ciS (n := 1) (As := [.int (iN (op))]) (rest := [.ref (ad 0)]) S hK hZo hZ hA hm (fun μ sz hM => t_Mo_operated l D cs Z hZo ad μ V1 M49 sz op (sP σ) (sN σ a.toNat).2 0 hM (by omega) rgM49 (fun h => absurd h (by omega)) hwa.2.2.2.1 vB_0 hI1) (gV k579 k581 ks26 k6 k582) (by decide) (by decide +kernel) rfl hl.1 rfl (Nat.le_of_ble_eq_true rfl) ⟨Nat.le_of_ble_eq_true rfl, Nat.le_of_ble_eq_true rfl⟩ d_Mo_node_117 (fun x53 M52 H locs q51 hm => ?_)
                    rw [sOp_5 (b' := (sN σ b.toNat).2) (by omega)] at q51
                    have hnd : ndOk (sOp (sP σ) op (sN σ a.toNat).2 (sN σ b.toNat).2) := sOp_nd hI1.2 hwa.2.2.2.1
                    obtain ⟨qo, hres⟩ := q51
                    have hb2 := hnd.1
                    have hb3 := hnd.2.1
                    rw [← hres.1] at hb2 hb3
                    have hI5 : moInv V1 M52 σ := hI.fr ⟨rfl, rfl, rfl, rfl⟩ (fun k hk => (qo.1 k (by omega)).trans ((fun k hk => frM49.1 k (by omega)) k hk))
                    have hzz := hI5.2.2.2.1 (sC σ + 1) (by omega) (by omega)
                    rw [show ((sC σ + 1 : Nat) : Int) = V1 12 + 1 by omega] at hzz
                    refine mo_ci (n := 1) (As := [.int (iN (x53))]) (rest := []) S hK hZo hZ hA hm (fun μ sz hM => t_Mo_kept l D cs Z hZo ad μ V1 M52 sz x53 (sOp (sP σ) op (sN σ a.toNat).2 (sN σ b.toNat).2).2 hM (by omega) hres.2 hnd.2.2.1 (by omega) hzz) (gV k563 k565 ks23 k6 k566) (by decide) (by decide +kernel) rfl hl.1 rfl (Nat.le_of_ble_eq_true rfl) ⟨Nat.le_of_ble_eq_true rfl, Nat.le_of_ble_eq_true rfl⟩ d_Mo_node_120 (fun x55 V56 M57 H locs q54 hm => ?_)
                    refine mo_iret S hr hlocks hK hm d_Mo_node_123 ?_
                    obtain ⟨k1, k2, k3, k4⟩ := q54
                    unfold sp_node
                    rw [if_neg (by omega), if_neg (by omega), if_neg (by omega)]
                    have hw : nodeW σ op a b = sOp (sP σ) op (sN σ a.toNat).2 (sN σ b.toNat).2 := by unfold nodeW; rw [if_neg (by omega), if_neg (by omega)]
                    rw [hw]
                    exact ⟨by rw [k1]; omega, hI5.add (by omega) hnd k2 k3 (kp_nv hres.1 hnd k4), by rw [k2, eV1]; rfl⟩
                  · exfalso; omega
                · have hwb := hI.nv (n := b) (by omega) (by omega)
                  have eb := hwb.1.1
                  have bb1 := hwb.2.1
                  have bb2 := hwb.2.2.1
                  have bb3 := hwb.2.2.2.1.1
                  refine lv_aload_n hx hb d_Mo_node_77 rfl (lv_at hl 0 rfl) ?_
                  refine mo_get 11 S hK hm (by decide) k477 rfl rfl d_Mo_node_78 ?_
                  refine lv_iload_n hx hb d_Mo_node_81 rfl (lv_at hl 3 rfl) ?_
                  refine mo_iald 10 S hK hm (by decide) (by simp only [moLen]; omega) d_Mo_node_82 ?_
                  refine fm_if_eq (tgt := 97) S (by omega) d_Mo_node_83 (by decide) (fun c58 => ?_) (fun c58 => ?_)
                  · refine lv_aload_n hx hb d_Mo_node_97 rfl (lv_at hl 0 rfl) ?_
                    refine lv_iload_n hx hb d_Mo_node_98 rfl (lv_at hl 2 rfl) ?_
                    refine fm_iconst S d_Mo_node_99 ?_
                    refine mo_cvS (n := 2) (As := [.int (iN (a)), .int (iN (0))]) (rest := []) S hK hZo hZ hA hm (fun μ sz hM => t_Mo_load l D cs Z hZo ad μ V1 M sz a 0 (sN σ a.toNat).1 (sN σ a.toNat).2 hM (by omega) hwa.1) (gV k575 k577 ks25 k6 k578) (by decide) (by decide +kernel) rfl hl.1 rfl (Nat.le_of_ble_eq_true rfl) ⟨Nat.le_of_ble_eq_true rfl, Nat.le_of_ble_eq_true rfl⟩ d_Mo_node_100 (fun M60 H locs q59 hm => ?_)
                    obtain ⟨frM60, rgM60⟩ := q59
                    refine lv_iload_n hx hb d_Mo_node_103 rfl (lv_at hl 1 rfl) ?_
                    refine fm_iconst S d_Mo_node_104 ?_
                    refine fm_icmp_ge (tgt := 114) S (by omega) (by omega) d_Mo_node_105 (by decide) (fun c61 => ?_) (fun c61 => ?_)
                    · exfalso; omega
                    · have hgb2 : Nv M60 b (sN σ b.toNat).1 (sN σ b.toNat).2 := by
                        have h := hwb.1
                        unfold Nv at h ⊢
                        rw [frM60.1 6 (by decide), frM60.1 7 (by decide), frM60.1 8 (by decide), frM60.1 9 (by decide), frM60.1 10 (by decide)]; exact h
                      refine lv_aload_n hx hb d_Mo_node_108 rfl (lv_at hl 0 rfl) ?_
                      refine lv_iload_n hx hb d_Mo_node_109 rfl (lv_at hl 3 rfl) ?_
                      refine fm_iconst S d_Mo_node_110 ?_
                      refine mo_cvS (n := 2) (As := [.int (iN (b)), .int (iN (1))]) (rest := []) S hK hZo hZ hA hm (fun μ sz hM => t_Mo_load l D cs Z hZo ad μ V1 M60 sz b 1 (sN σ b.toNat).1 (sN σ b.toNat).2 hM (by omega) hgb2) (gV k575 k577 ks25 k6 k578) (by decide) (by decide +kernel) rfl hl.1 rfl (Nat.le_of_ble_eq_true rfl) ⟨Nat.le_of_ble_eq_true rfl, Nat.le_of_ble_eq_true rfl⟩ d_Mo_node_111 (fun M63 H locs q62 hm => ?_)
                      obtain ⟨frM63, rgM63⟩ := q62
                      refine lv_aload_n hx hb d_Mo_node_114 rfl (lv_at hl 0 rfl) ?_
                      refine lv_aload_n hx hb d_Mo_node_115 rfl (lv_at hl 0 rfl) ?_
                      refine lv_iload_n hx hb d_Mo_node_116 rfl (lv_at hl 1 rfl) ?_
                      have hra2 := frM63.rv (r' := 0) (by decide) hwa.2.2.2.1 rgM60
                      refine mo_ciS (n := 1) (As := [.int (iN (op))]) (rest := [.ref (ad 0)]) S hK hZo hZ hA hm (fun μ sz hM => t_Mo_operated l D cs Z hZo ad μ V1 M63 sz op (sP σ) (sN σ a.toNat).2 (sN σ b.toNat).2 hM (by omega) hra2 (fun _ => rgM63) hwa.2.2.2.1 hwb.2.2.2.1 hI1) (gV k579 k581 ks26 k6 k582) (by decide) (by decide +kernel) rfl hl.1 rfl (Nat.le_of_ble_eq_true rfl) ⟨Nat.le_of_ble_eq_true rfl, Nat.le_of_ble_eq_true rfl⟩ d_Mo_node_117 (fun x66 M65 H locs q64 hm => ?_)
                      have hnd : ndOk (sOp (sP σ) op (sN σ a.toNat).2 (sN σ b.toNat).2) := sOp_nd hI1.2 hwa.2.2.2.1
                      obtain ⟨qo, hres⟩ := q64
                      have hb2 := hnd.1
                      have hb3 := hnd.2.1
                      rw [← hres.1] at hb2 hb3
                      have hI5 : moInv V1 M65 σ := hI.fr ⟨rfl, rfl, rfl, rfl⟩ (fun k hk => (qo.1 k (by omega)).trans ((fun k hk => (frM63.1 k (by omega)).trans (frM60.1 k (by omega))) k hk))
                      have hzz := hI5.2.2.2.1 (sC σ + 1) (by omega) (by omega)
                      rw [show ((sC σ + 1 : Nat) : Int) = V1 12 + 1 by omega] at hzz
                      refine mo_ci (n := 1) (As := [.int (iN (x66))]) (rest := []) S hK hZo hZ hA hm (fun μ sz hM => t_Mo_kept l D cs Z hZo ad μ V1 M65 sz x66 (sOp (sP σ) op (sN σ a.toNat).2 (sN σ b.toNat).2).2 hM (by omega) hres.2 hnd.2.2.1 (by omega) hzz) (gV k563 k565 ks23 k6 k566) (by decide) (by decide +kernel) rfl hl.1 rfl (Nat.le_of_ble_eq_true rfl) ⟨Nat.le_of_ble_eq_true rfl, Nat.le_of_ble_eq_true rfl⟩ d_Mo_node_120 (fun x68 V69 M70 H locs q67 hm => ?_)
                      refine mo_iret S hr hlocks hK hm d_Mo_node_123 ?_
                      obtain ⟨k1, k2, k3, k4⟩ := q67
                      unfold sp_node
                      rw [if_neg (by omega), if_neg (by omega), if_neg (by omega)]
                      have hw : nodeW σ op a b = sOp (sP σ) op (sN σ a.toNat).2 (sN σ b.toNat).2 := by unfold nodeW; rw [if_neg (by omega), if_neg (by omega)]
                      rw [hw]
                      exact ⟨by rw [k1]; omega, hI5.add (by omega) hnd k2 k3 (kp_nv hres.1 hnd k4), by rw [k2, eV1]; rfl⟩
                  · refine lv_aload_n hx hb d_Mo_node_86 rfl (lv_at hl 0 rfl) ?_
                    refine lv_aload_n hx hb d_Mo_node_87 rfl (lv_at hl 0 rfl) ?_
                    refine mo_get 11 S hK hm (by decide) k477 rfl rfl d_Mo_node_88 ?_
                    refine lv_iload_n hx hb d_Mo_node_91 rfl (lv_at hl 3 rfl) ?_
                    refine mo_iald 10 S hK hm (by decide) (by simp only [moLen]; omega) d_Mo_node_92 ?_
                    refine mo_ci (n := 1) (As := [.int (iN ((M 10 b)))]) (rest := []) S hK hZo hZ hA hm (fun μ sz hM => t_Mo_kept l D cs Z hZo ad μ V1 M sz (M 10 b) 0 hM (by omega) (fun h => absurd h c58) vB_0 (by omega) hzz) (gV k563 k565 ks23 k6 k566) (by decide) (by decide +kernel) rfl hl.1 rfl (Nat.le_of_ble_eq_true rfl) ⟨Nat.le_of_ble_eq_true rfl, Nat.le_of_ble_eq_true rfl⟩ d_Mo_node_93 (fun x72 V73 M74 H locs q71 hm => ?_)
                    refine mo_iret S hr hlocks hK hm d_Mo_node_96 ?_
                    obtain ⟨k1, k2, k3, k4⟩ := q71
                    unfold sp_node
                    rw [if_neg (by omega), if_neg (by omega), if_neg (by omega)]
                    have hw : nodeW σ op a b = ((sN σ b.toNat).1, 0) := by unfold nodeW; rw [if_neg (by omega), if_pos (by omega)]
                    rw [hw]
                    exact ⟨by rw [k1]; omega, hI.add (by omega) ⟨bb1, bb2, vB_0, fun _ => rfl⟩ k2 k3 (kp_nv eb ⟨bb1, bb2, vB_0, fun _ => rfl⟩ k4), by rw [k2, eV1]; rfl⟩
              · refine lv_aload_n hx hb d_Mo_node_61 rfl (lv_at hl 0 rfl) ?_
                refine lv_aload_n hx hb d_Mo_node_62 rfl (lv_at hl 0 rfl) ?_
                refine mo_get 11 S hK hm (by decide) k477 rfl rfl d_Mo_node_63 ?_
                refine lv_iload_n hx hb d_Mo_node_66 rfl (lv_at hl 2 rfl) ?_
                refine mo_iald 10 S hK hm (by decide) (by simp only [moLen]; omega) d_Mo_node_67 ?_
                refine mo_ci (n := 1) (As := [.int (iN ((M 10 a)))]) (rest := []) S hK hZo hZ hA hm (fun μ sz hM => t_Mo_kept l D cs Z hZo ad μ V1 M sz (M 10 a) 0 hM (by omega) (fun h => absurd h c46) vB_0 (by omega) hzz) (gV k563 k565 ks23 k6 k566) (by decide) (by decide +kernel) rfl hl.1 rfl (Nat.le_of_ble_eq_true rfl) ⟨Nat.le_of_ble_eq_true rfl, Nat.le_of_ble_eq_true rfl⟩ d_Mo_node_68 (fun x76 V77 M78 H locs q75 hm => ?_)
                refine mo_iret S hr hlocks hK hm d_Mo_node_71 ?_
                obtain ⟨k1, k2, k3, k4⟩ := q75
                unfold sp_node
                rw [if_neg (by omega), if_neg (by omega), if_neg (by omega)]
                have hw : nodeW σ op a b = ((sN σ a.toNat).1, 0) := by unfold nodeW; rw [if_pos (by omega)]
                rw [hw]
                exact ⟨by rw [k1]; omega, hI.add (by omega) ⟨ba1, ba2, vB_0, fun _ => rfl⟩ k2 k3 (kp_nv ea ⟨ba1, ba2, vB_0, fun _ => rfl⟩ k4), by rw [k2, eV1]; rfl⟩
            · refine fm_iconst S d_Mo_node_50 ?_
              refine mo_iret S hr hlocks hK hm d_Mo_node_51 ?_
              unfold sp_node
              rw [if_neg (by omega), if_neg (by omega), if_pos (by omega)]
              exact ⟨rfl, hI, by rw [eV1]; rfl⟩
          · refine fm_bipush S d_Mo_node_38 (by decide) ?_
            refine mo_iret S hr hlocks hK hm d_Mo_node_40 ?_
            unfold sp_node
            rw [if_neg (by omega), if_pos (by omega)]
            exact ⟨rfl, hI, by rw [eV1]; rfl⟩
    · refine fm_bipush S d_Mo_node_14 (by decide) ?_
      refine mo_iret S hr hlocks hK hm d_Mo_node_16 ?_
      unfold sp_node
      rw [if_pos (by omega)]
      exact ⟨rfl, hI, by rw [eV1]; rfl⟩

set_option maxHeartbeats 4000000 in
set_option maxRecDepth 100000 in
/-- raises(n) -/
theorem t_Mo_raises (l : Launch) (D : va_G) (cs : Nat → ClassId) (Z : (Nat → Prop) → State → Heap → Prop) (hZo : fm_Zok Z) (ad : Nat → Nat) (μ : fm_Mu) (V : Nat → Int) (M : Nat → Int → Int) (sz : Nat) (n : Int) (σ : Sg) (hM : moS cs μ ad V M) (hin : inI n) (hI : moInv V M σ) : Met l y_Mo_raises (Cond.code y_Mo_raises c_Mo_raises 2 (some .int) :: wA) ({ frames := 1, cells := 0, slots := 0, locals := 21 }) (fm_Pc D clsA (tysA cs) Z μ sz [.ref (ad 0), .int (iN (n))]) (moQi D cs ad μ sz (fun z V' M' => z = sp_raises σ n ∧ moInv V' M' σ ∧ V' 0 = 0)) 0 0 (fm_A μ sz) := by
  refine mo_of hM (by decide +kernel) (Nat.le_of_ble_eq_true rfl) (fun p e s m below meth c S hr hlocks hsz hm hK hZ hA ls hl => ?_)
  subst hsz
  obtain ⟨hx, hb, hml, hown, hts⟩ := id S
  have hl : lv_has ls 2 [(0, .ref (ad 0)), (1, .int (iN (n)))] := hl
  refine lv_aload_n hx hb d_Mo_raises_0 rfl (lv_at hl 0 rfl) ?_
  refine fm_iconst S d_Mo_raises_1 ?_
  refine mo_puti 0 S hK hm (by decide) k466 d_Mo_raises_2 (fun V1 H locs eV1 hm => ?_)
  have hI := hI.v0 eV1
  have hI1 := hI.p
  have hI2 := hI.c
  have hI3 := hI.r
  refine lv_aload_n hx hb d_Mo_raises_5 rfl (lv_at hl 0 rfl) ?_
  refine lv_iload_n hx hb d_Mo_raises_6 rfl (lv_at hl 1 rfl) ?_
  refine mo_pi (n := 1) (As := [.int (iN (n))]) (rest := []) S hK hZo hZ hA hm (fun μ sz hM => t_Mo_isNode l D cs Z hZo ad μ V1 M sz n hM (by omega) (by omega)) (gV k571 k573 ks24 k6 k574) (by decide) (by decide +kernel) rfl hl.1 rfl (Nat.le_of_ble_eq_true rfl) ⟨Nat.le_of_ble_eq_true rfl, Nat.le_of_ble_eq_true rfl⟩ d_Mo_raises_7 (fun x3 q2 => ?_)
  refine fm_if_eq (tgt := 22) S (by omega) d_Mo_raises_10 (by decide) (fun c4 => ?_) (fun c4 => ?_)
  · refine fm_bipush S d_Mo_raises_22 (by decide) ?_
    refine mo_iret S hr hlocks hK hm d_Mo_raises_24 ?_
    unfold sp_raises
    first | (rw [if_pos (by omega)]; exact ⟨ea, hI, by rw [eV1]; rfl⟩) | (rw [if_neg (by omega)]; exact ⟨rfl, hI, by rw [eV1]; rfl⟩)
  · have hwa := hI.nv (n := n) (by omega) (by omega)
    have ea := hwa.1.1
    refine lv_aload_n hx hb d_Mo_raises_13 rfl (lv_at hl 0 rfl) ?_
    refine mo_get 11 S hK hm (by decide) k477 rfl rfl d_Mo_raises_14 ?_
    refine lv_iload_n hx hb d_Mo_raises_17 rfl (lv_at hl 1 rfl) ?_
    refine mo_iald 10 S hK hm (by decide) (by simp only [moLen]; omega) d_Mo_raises_18 ?_
    refine lv_goto (tgt := 24) hx hb d_Mo_raises_19 (by decide) ?_
    refine mo_iret S hr hlocks hK hm d_Mo_raises_24 ?_
    unfold sp_raises
    first | (rw [if_pos (by omega)]; exact ⟨ea, hI, by rw [eV1]; rfl⟩) | (rw [if_neg (by omega)]; exact ⟨rfl, hI, by rw [eV1]; rfl⟩)

set_option maxHeartbeats 4000000 in
set_option maxRecDepth 100000 in
/-- receiver(d, sc, ro) -/
theorem t_Mo_receiver (l : Launch) (D : va_G) (cs : Nat → ClassId) (Z : (Nat → Prop) → State → Heap → Prop) (hZo : fm_Zok Z) (ad : Nat → Nat) (μ : fm_Mu) (V : Nat → Int) (M : Nat → Int → Int) (sz : Nat) (d : Int) (sc : Int) (ro : Int) (σ : Sg) (hM : moS cs μ ad V M) (hid : inI d) (his : inI sc) (hir : inI ro) (hI : moInv V M σ) : Met l y_Mo_receiver (Cond.code y_Mo_receiver c_Mo_receiver 4 (some .int) :: wA) ({ frames := 0, cells := 0, slots := 0, locals := 0 }) (fm_Pc D clsA (tysA cs) Z μ sz [.ref (ad 0), .int (iN (d)), .int (iN (sc)), .int (iN (ro))]) (moQi D cs ad μ sz (fun z V' M' => z = (sp_receiver σ d sc ro).1 ∧ moInv V' M' (sp_receiver σ d sc ro).2 ∧ V' 0 = 0)) 0 0 (fm_A μ sz) := by
  refine mo_of hM (by decide +kernel) (Nat.le_of_ble_eq_true rfl) (fun p e s m below meth c S hr hlocks hsz hm hK hZ hA ls hl => ?_)
  subst hsz
  obtain ⟨hx, hb, hml, hown, hts⟩ := id S
  have hl : lv_has ls 4 [(0, .ref (ad 0)), (1, .int (iN (d))), (2, .int (iN (sc))), (3, .int (iN (ro)))] := hl
  refine lv_aload_n hx hb d_Mo_receiver_0 rfl (lv_at hl 0 rfl) ?_
  refine fm_iconst S d_Mo_receiver_1 ?_
  refine mo_puti 0 S hK hm (by decide) k466 d_Mo_receiver_2 (fun V1 H locs eV1 hm => ?_)
  have hI := hI.v0 eV1
  have hI1 := hI.p
  have hI2 := hI.c
  have hI3 := hI.r
  refine lv_iload_n hx hb d_Mo_receiver_5 rfl (lv_at hl 1 rfl) ?_
  refine fm_iconst S d_Mo_receiver_6 ?_
  refine fm_icmp_lt (tgt := 35) S (by omega) (by omega) d_Mo_receiver_7 (by decide) (fun c2 => ?_) (fun c2 => ?_)
  · refine fm_bipush S d_Mo_receiver_35 (by decide) ?_
    refine mo_iret S hr hlocks hK hm d_Mo_receiver_37 ?_
    unfold sp_receiver
    rw [if_pos (by omega)]
    exact ⟨rfl, hI, by rw [eV1]; rfl⟩
  · refine lv_iload_n hx hb d_Mo_receiver_10 rfl (lv_at hl 1 rfl) ?_
    refine fm_bipush S d_Mo_receiver_11 (by decide) ?_
    refine fm_icmp_gt (tgt := 35) S (by omega) (by omega) d_Mo_receiver_13 (by decide) (fun c3 => ?_) (fun c3 => ?_)
    · refine fm_bipush S d_Mo_receiver_35 (by decide) ?_
      refine mo_iret S hr hlocks hK hm d_Mo_receiver_37 ?_
      unfold sp_receiver
      rw [if_pos (by omega)]
      exact ⟨rfl, hI, by rw [eV1]; rfl⟩
    · refine lv_iload_n hx hb d_Mo_receiver_16 rfl (lv_at hl 2 rfl) ?_
      refine fm_if_lt (tgt := 35) S (by omega) d_Mo_receiver_17 (by decide) (fun c4 => ?_) (fun c4 => ?_)
      · refine fm_bipush S d_Mo_receiver_35 (by decide) ?_
        refine mo_iret S hr hlocks hK hm d_Mo_receiver_37 ?_
        unfold sp_receiver
        rw [if_pos (by omega)]
        exact ⟨rfl, hI, by rw [eV1]; rfl⟩
      · refine lv_iload_n hx hb d_Mo_receiver_20 rfl (lv_at hl 2 rfl) ?_
        refine lv_iload_n hx hb d_Mo_receiver_21 rfl (lv_at hl 1 rfl) ?_
        refine fm_icmp_gt (tgt := 35) S (by omega) (by omega) d_Mo_receiver_22 (by decide) (fun c5 => ?_) (fun c5 => ?_)
        · refine fm_bipush S d_Mo_receiver_35 (by decide) ?_
          refine mo_iret S hr hlocks hK hm d_Mo_receiver_37 ?_
          unfold sp_receiver
          rw [if_pos (by omega)]
          exact ⟨rfl, hI, by rw [eV1]; rfl⟩
        · refine lv_iload_n hx hb d_Mo_receiver_25 rfl (lv_at hl 3 rfl) ?_
          refine fm_if_lt (tgt := 35) S (by omega) d_Mo_receiver_26 (by decide) (fun c6 => ?_) (fun c6 => ?_)
          · refine fm_bipush S d_Mo_receiver_35 (by decide) ?_
            refine mo_iret S hr hlocks hK hm d_Mo_receiver_37 ?_
            unfold sp_receiver
            rw [if_pos (by omega)]
            exact ⟨rfl, hI, by rw [eV1]; rfl⟩
          · refine lv_iload_n hx hb d_Mo_receiver_29 rfl (lv_at hl 3 rfl) ?_
            refine fm_bipush S d_Mo_receiver_30 (by decide) ?_
            refine fm_icmp_le (tgt := 38) S (by omega) (by omega) d_Mo_receiver_32 (by decide) (fun c7 => ?_) (fun c7 => ?_)
            · refine lv_aload_n hx hb d_Mo_receiver_38 rfl (lv_at hl 0 rfl) ?_
              refine mo_get 13 S hK hm (by decide) k479 rfl rfl d_Mo_receiver_39 ?_
              refine fm_bipush S d_Mo_receiver_42 (by decide) ?_
              refine fm_icmp_ne (tgt := 49) S (by omega) (by omega) d_Mo_receiver_44 (by decide) (fun c8 => ?_) (fun c8 => ?_)
              · refine lv_aload_n hx hb d_Mo_receiver_49 rfl (lv_at hl 0 rfl) ?_
                refine lv_dup hx hb d_Mo_receiver_50 rfl ?_
                refine mo_get 13 S hK hm (by decide) k479 rfl rfl d_Mo_receiver_51 ?_
                refine fm_iconst S d_Mo_receiver_54 ?_
                refine fm_iadd S d_Mo_receiver_55 ?_
                refine mo_puti 13 S hK hm (by decide) k479 d_Mo_receiver_56 (fun V9 H locs eV9 hm => ?_)
                have hV13 : V9 13 = V1 13 + 1 := by rw [eV9]; rfl
                refine lv_aload_n hx hb d_Mo_receiver_59 rfl (lv_at hl 0 rfl) ?_
                refine mo_get 15 S hK hm (by decide) k481 rfl rfl d_Mo_receiver_60 ?_
                refine lv_aload_n hx hb d_Mo_receiver_63 rfl (lv_at hl 0 rfl) ?_
                refine mo_get 13 S hK hm (by decide) k479 rfl rfl d_Mo_receiver_64 ?_
                refine lv_iload_n hx hb d_Mo_receiver_67 rfl (lv_at hl 1 rfl) ?_
                refine mo_iast 11 S hK hm (by decide) (by simp only [moLen]; omega) d_Mo_receiver_68 (fun M10 H locs eM10 hm => ?_)
                rw [hV13] at eM10
                refine lv_aload_n hx hb d_Mo_receiver_69 rfl (lv_at hl 0 rfl) ?_
                refine mo_get 16 S hK hm (by decide) k482 rfl rfl d_Mo_receiver_70 ?_
                refine lv_aload_n hx hb d_Mo_receiver_73 rfl (lv_at hl 0 rfl) ?_
                refine mo_get 13 S hK hm (by decide) k479 rfl rfl d_Mo_receiver_74 ?_
                refine lv_iload_n hx hb d_Mo_receiver_77 rfl (lv_at hl 2 rfl) ?_
                refine mo_iast 12 S hK hm (by decide) (by simp only [moLen]; omega) d_Mo_receiver_78 (fun M11 H locs eM11 hm => ?_)
                rw [hV13] at eM11
                refine lv_aload_n hx hb d_Mo_receiver_79 rfl (lv_at hl 0 rfl) ?_
                refine mo_get 17 S hK hm (by decide) k483 rfl rfl d_Mo_receiver_80 ?_
                refine lv_aload_n hx hb d_Mo_receiver_83 rfl (lv_at hl 0 rfl) ?_
                refine mo_get 13 S hK hm (by decide) k479 rfl rfl d_Mo_receiver_84 ?_
                refine lv_iload_n hx hb d_Mo_receiver_87 rfl (lv_at hl 3 rfl) ?_
                refine mo_iast 13 S hK hm (by decide) (by simp only [moLen]; omega) d_Mo_receiver_88 (fun M12 H locs eM12 hm => ?_)
                rw [hV13] at eM12
                refine lv_aload_n hx hb d_Mo_receiver_89 rfl (lv_at hl 0 rfl) ?_
                refine mo_get 13 S hK hm (by decide) k479 rfl rfl d_Mo_receiver_90 ?_
                refine mo_iret S hr hlocks hK hm d_Mo_receiver_93 ?_
                unfold sp_receiver
                rw [if_neg (by omega), if_neg (by omega)]
                exact ⟨by rw [hV13]; omega, hI.addR (by omega) (by omega) eV9 eM10 eM11 eM12, by rw [eV9, eV1]; rfl⟩
              · refine fm_iconst S d_Mo_receiver_47 ?_
                refine mo_iret S hr hlocks hK hm d_Mo_receiver_48 ?_
                unfold sp_receiver
                rw [if_neg (by omega), if_pos (by omega)]
                exact ⟨rfl, hI, by rw [eV1]; rfl⟩
            · refine fm_bipush S d_Mo_receiver_35 (by decide) ?_
              refine mo_iret S hr hlocks hK hm d_Mo_receiver_37 ?_
              unfold sp_receiver
              rw [if_pos (by omega)]
              exact ⟨rfl, hI, by rw [eV1]; rfl⟩

set_option maxHeartbeats 4000000 in
set_option maxRecDepth 100000 in
/-- stored(r) -/
theorem t_Mo_stored (l : Launch) (D : va_G) (cs : Nat → ClassId) (Z : (Nat → Prop) → State → Heap → Prop) (hZo : fm_Zok Z) (ad : Nat → Nat) (μ : fm_Mu) (V : Nat → Int) (M : Nat → Int → Int) (sz : Nat) (r : Int) (σ : Sg) (hM : moS cs μ ad V M) (hir : inI r) (hI : moInv V M σ) : Met l y_Mo_stored (Cond.code y_Mo_stored c_Mo_stored 2 (some .long) :: wA) ({ frames := 1, cells := 0, slots := 0, locals := 21 }) (fm_Pc D clsA (tysA cs) Z μ sz [.ref (ad 0), .int (iN (r))]) (moQl D cs ad μ sz (fun z V' M' => z = sp_stored σ r ∧ moInv V' M' σ ∧ V' 0 = 0)) 0 0 (fm_A μ sz) := by
  refine mo_of hM (by decide +kernel) (Nat.le_of_ble_eq_true rfl) (fun p e s m below meth c S hr hlocks hsz hm hK hZ hA ls hl => ?_)
  subst hsz
  obtain ⟨hx, hb, hml, hown, hts⟩ := id S
  have hl : lv_has ls 2 [(0, .ref (ad 0)), (1, .int (iN (r)))] := hl
  refine lv_aload_n hx hb d_Mo_stored_0 rfl (lv_at hl 0 rfl) ?_
  refine fm_iconst S d_Mo_stored_1 ?_
  refine mo_puti 0 S hK hm (by decide) k466 d_Mo_stored_2 (fun V1 H locs eV1 hm => ?_)
  have hI := hI.v0 eV1
  have hI1 := hI.p
  have hI2 := hI.c
  have hI3 := hI.r
  refine lv_aload_n hx hb d_Mo_stored_5 rfl (lv_at hl 0 rfl) ?_
  refine lv_iload_n hx hb d_Mo_stored_6 rfl (lv_at hl 1 rfl) ?_
  refine mo_pi (n := 1) (As := [.int (iN (r))]) (rest := []) S hK hZo hZ hA hm (fun μ sz hM => t_Mo_isReceiver l D cs Z hZo ad μ V1 M sz r hM (by omega) (by omega)) (gV k644 k646 ks38 k6 k647) (by decide) (by decide +kernel) rfl hl.1 rfl (Nat.le_of_ble_eq_true rfl) ⟨Nat.le_of_ble_eq_true rfl, Nat.le_of_ble_eq_true rfl⟩ d_Mo_stored_7 (fun x3 q2 => ?_)
  refine fm_if_eq (tgt := 22) S (by omega) d_Mo_stored_10 (by decide) (fun c4 => ?_) (fun c4 => ?_)
  · refine fm_lconst0 S d_Mo_stored_22 ?_
    refine mo_lret S hr hlocks hK hm d_Mo_stored_23 ?_
    unfold sp_stored
    first | (rw [if_pos (by omega)]; exact ⟨hwr, hI, by rw [eV1]; rfl⟩) | (rw [if_neg (by omega)]; exact ⟨rfl, hI, by rw [eV1]; rfl⟩)
  · have hwx := hI.rv (r := r) (by omega) (by omega)
    have hwr := hwx.1.2.2.2.1
    refine lv_aload_n hx hb d_Mo_stored_13 rfl (lv_at hl 0 rfl) ?_
    refine mo_get 18 S hK hm (by decide) k484 rfl rfl d_Mo_stored_14 ?_
    refine lv_iload_n hx hb d_Mo_stored_17 rfl (lv_at hl 1 rfl) ?_
    refine mo_lald 14 S hK hm (by decide) (by simp only [moLen]; omega) d_Mo_stored_18 ?_
    refine lv_goto (tgt := 23) hx hb d_Mo_stored_19 (by decide) ?_
    refine mo_lret S hr hlocks hK hm d_Mo_stored_23 ?_
    unfold sp_stored
    first | (rw [if_pos (by omega)]; exact ⟨hwr, hI, by rw [eV1]; rfl⟩) | (rw [if_neg (by omega)]; exact ⟨rfl, hI, by rw [eV1]; rfl⟩)

set_option maxHeartbeats 4000000 in
set_option maxRecDepth 100000 in
/-- rest(r) -/
theorem t_Mo_rest (l : Launch) (D : va_G) (cs : Nat → ClassId) (Z : (Nat → Prop) → State → Heap → Prop) (hZo : fm_Zok Z) (ad : Nat → Nat) (μ : fm_Mu) (V : Nat → Int) (M : Nat → Int → Int) (sz : Nat) (r : Int) (σ : Sg) (hM : moS cs μ ad V M) (hir : inI r) (hI : moInv V M σ) : Met l y_Mo_rest (Cond.code y_Mo_rest c_Mo_rest 2 (some .long) :: wA) ({ frames := 1, cells := 0, slots := 0, locals := 21 }) (fm_Pc D clsA (tysA cs) Z μ sz [.ref (ad 0), .int (iN (r))]) (moQl D cs ad μ sz (fun z V' M' => z = sp_rest σ r ∧ moInv V' M' σ ∧ V' 0 = 0)) 0 0 (fm_A μ sz) := by
  refine mo_of hM (by decide +kernel) (Nat.le_of_ble_eq_true rfl) (fun p e s m below meth c S hr hlocks hsz hm hK hZ hA ls hl => ?_)
  subst hsz
  obtain ⟨hx, hb, hml, hown, hts⟩ := id S
  have hl : lv_has ls 2 [(0, .ref (ad 0)), (1, .int (iN (r)))] := hl
  refine lv_aload_n hx hb d_Mo_rest_0 rfl (lv_at hl 0 rfl) ?_
  refine fm_iconst S d_Mo_rest_1 ?_
  refine mo_puti 0 S hK hm (by decide) k466 d_Mo_rest_2 (fun V1 H locs eV1 hm => ?_)
  have hI := hI.v0 eV1
  have hI1 := hI.p
  have hI2 := hI.c
  have hI3 := hI.r
  refine lv_aload_n hx hb d_Mo_rest_5 rfl (lv_at hl 0 rfl) ?_
  refine lv_iload_n hx hb d_Mo_rest_6 rfl (lv_at hl 1 rfl) ?_
  refine mo_pi (n := 1) (As := [.int (iN (r))]) (rest := []) S hK hZo hZ hA hm (fun μ sz hM => t_Mo_isReceiver l D cs Z hZo ad μ V1 M sz r hM (by omega) (by omega)) (gV k644 k646 ks38 k6 k647) (by decide) (by decide +kernel) rfl hl.1 rfl (Nat.le_of_ble_eq_true rfl) ⟨Nat.le_of_ble_eq_true rfl, Nat.le_of_ble_eq_true rfl⟩ d_Mo_rest_7 (fun x3 q2 => ?_)
  refine fm_if_eq (tgt := 22) S (by omega) d_Mo_rest_10 (by decide) (fun c4 => ?_) (fun c4 => ?_)
  · refine fm_lconst0 S d_Mo_rest_22 ?_
    refine mo_lret S hr hlocks hK hm d_Mo_rest_23 ?_
    unfold sp_rest
    first | (rw [if_pos (by omega)]; exact ⟨hwr, hI, by rw [eV1]; rfl⟩) | (rw [if_neg (by omega)]; exact ⟨rfl, hI, by rw [eV1]; rfl⟩)
  · have hwx := hI.rv (r := r) (by omega) (by omega)
    have hwr := hwx.1.2.2.2.2.1
    refine lv_aload_n hx hb d_Mo_rest_13 rfl (lv_at hl 0 rfl) ?_
    refine mo_get 19 S hK hm (by decide) k485 rfl rfl d_Mo_rest_14 ?_
    refine lv_iload_n hx hb d_Mo_rest_17 rfl (lv_at hl 1 rfl) ?_
    refine mo_lald 15 S hK hm (by decide) (by simp only [moLen]; omega) d_Mo_rest_18 ?_
    refine lv_goto (tgt := 23) hx hb d_Mo_rest_19 (by decide) ?_
    refine mo_lret S hr hlocks hK hm d_Mo_rest_23 ?_
    unfold sp_rest
    first | (rw [if_pos (by omega)]; exact ⟨hwr, hI, by rw [eV1]; rfl⟩) | (rw [if_neg (by omega)]; exact ⟨rfl, hI, by rw [eV1]; rfl⟩)

set_option maxHeartbeats 4000000 in
set_option maxRecDepth 100000 in
/-- raised() -/
theorem t_Mo_raised (l : Launch) (D : va_G) (cs : Nat → ClassId) (Z : (Nat → Prop) → State → Heap → Prop) (hZo : fm_Zok Z) (ad : Nat → Nat) (μ : fm_Mu) (V : Nat → Int) (M : Nat → Int → Int) (sz : Nat) (σ : Sg) (hM : moS cs μ ad V M) (hI : moInv V M σ) : Met l y_Mo_raised (Cond.code y_Mo_raised c_Mo_raised 1 (some .int) :: wA) ({ frames := 0, cells := 0, slots := 0, locals := 0 }) (fm_Pc D clsA (tysA cs) Z μ sz [.ref (ad 0)]) (moQi D cs ad μ sz (fun z V' M' => z = sL σ ∧ moInv V' M' σ ∧ V' 0 = 0)) 0 0 (fm_A μ sz) := by
  refine mo_of hM (by decide +kernel) (Nat.le_of_ble_eq_true rfl) (fun p e s m below meth c S hr hlocks hsz hm hK hZ hA ls hl => ?_)
  subst hsz
  obtain ⟨hx, hb, hml, hown, hts⟩ := id S
  have hl : lv_has ls 1 [(0, .ref (ad 0))] := hl
  refine lv_aload_n hx hb d_Mo_raised_0 rfl (lv_at hl 0 rfl) ?_
  refine fm_iconst S d_Mo_raised_1 ?_
  refine mo_puti 0 S hK hm (by decide) k466 d_Mo_raised_2 (fun V1 H locs eV1 hm => ?_)
  have hI := hI.v0 eV1
  have hI1 := hI.p
  have hI2 := hI.c
  have hI3 := hI.r
  refine lv_aload_n hx hb d_Mo_raised_5 rfl (lv_at hl 0 rfl) ?_
  refine mo_get 14 S hK hm (by decide) k480 rfl rfl d_Mo_raised_6 ?_
  refine mo_iret S hr hlocks hK hm d_Mo_raised_9 ?_
  exact ⟨hI.2.1.2.2.2, hI, by rw [eV1]; rfl⟩
end
section
-- REGISTERS THAT HOLD A VALUE IN ANY FORM (own work)
def Rw (M : Nat → Int → Int) (r v : Int) : Prop := ∃ (n N : Nat) (x sg : Int), Rg M r n N x sg ∧ vI sg N x = v ∧ n ≤ 31 ∧ -140 ≤ x ∧ x + n ≤ 110 ∧ -1 ≤ sg ∧ sg ≤ 1 ∧ (n ≠ 0 → N ≠ 0) ∧ (N ≠ 0 → sg = 1 ∨ sg = -1)
theorem Rv.w {M : Nat → Int → Int} {r v : Int} (h : Rv M r v) (hb : vB v) : Rw M r v := ⟨_, _, _, _, h, vI_back v, hb.1, hb.2.1, hb.2.2, (sgn_in v).1, (sgn_in v).2, ndc_nz, fun hn => sgn_nz (fun e => hn (by rw [e]; exact cN_0))⟩
theorem vI_abs {N : Nat} {x sg v : Int} (h : vI sg N x = v) (hs : N ≠ 0 → sg = 1 ∨ sg = -1) : v.natAbs = N * 10 ^ (x + 300).toNat ∧ (N ≠ 0 → sgn v = sg) := by
  by_cases h0 : N = 0
  · subst h0
    have : v = 0 := by rw [← h]; unfold vI; simp
    subst this
    exact ⟨by simp, fun q => absurd rfl q⟩
  · have h3 : (0 : Int) < (N : Int) * 10 ^ (x + 300).toNat := Int.mul_pos (by omega) (p10 _)
    refine ⟨?_, fun _ => ?_⟩
    · rw [← h]; unfold vI
      rw [Int.mul_assoc, Int.natAbs_mul, ← p10c, ← Int.natCast_mul, Int.natAbs_natCast]
      rcases hs h0 with h | h <;> rw [h] <;> simp
    · rw [← h]; unfold vI sgn; rw [Int.mul_assoc]
      rcases hs h0 with h | h <;> rw [h]
      · rw [Int.one_mul, if_neg (by omega), if_pos h3]
      · rw [if_pos (by omega)]
theorem add_resW {M : Nat → Int → Int} {z a b : Int} {P : Nat} (hP : 1 ≤ P ∧ P ≤ 31) (h : ∃ (N : Nat) (x sg : Int), (N ≠ 0 → sg = 1 ∨ sg = -1) ∧ vI sg N x = a + b ∧ -150 ≤ x ∧ cutOk M 2 P N x sg z) : resOk M z (sAdd P a b) := by
  obtain ⟨N, x, sg, h1, h2, h3, h4⟩ := h
  exact add_res hP ⟨N, x, sg, h1, by rw [vI_back, vI_back]; exact h2, h3, h4⟩
theorem mul_resW {M : Nat → Int → Int} {z a b xa xb sa sb : Int} {P NA NB : Nat} (hP : 1 ≤ P ∧ P ≤ 31) (ha : vI sa NA xa = a) (hb : vI sb NB xb = b) (hsa : NA ≠ 0 → sa = 1 ∨ sa = -1) (hsb : NB ≠ 0 → sb = 1 ∨ sb = -1) (hxa : -140 ≤ xa) (hxb : -140 ≤ xb) (hc : cutOk M 2 P (NA * NB) (xa + xb) (sa * sb) z) : resOk M z (sMul P a b) := by
  obtain ⟨a1, a2⟩ := vI_abs ha hsa
  obtain ⟨b1, b2⟩ := vI_abs hb hsb
  have hs : NA * NB ≠ 0 → sa * sb = 1 ∨ sa * sb = -1 := fun h => by
    have h1 : NA ≠ 0 := fun e => h (by rw [e, Nat.zero_mul])
    have h2 : NB ≠ 0 := fun e => h (by rw [e, Nat.mul_zero])
    rcases hsa h1 with e | e <;> rcases hsb h2 with f | f <;> rw [e, f] <;> decide
  have h1 := cut_fin (K := 600) hc hP hs (by omega) rfl
  have e : NA * NB * 10 ^ (xa + xb + (600 : Nat)).toNat = (a * b).natAbs := by
    rw [Int.natAbs_mul, a1, b1, show (xa + xb + (600 : Nat)).toNat = (xa + 300).toNat + (xb + 300).toNat by omega, Nat.pow_add]
    simp only [Nat.mul_assoc, Nat.mul_comm, Nat.mul_left_comm]
  rw [e] at h1
  by_cases h0 : NA * NB = 0
  · have h5 : (a * b).natAbs = 0 := by rw [← e, h0, Nat.zero_mul]
    rw [h5, cuv0, Int.mul_zero] at h1
    unfold sMul
    rw [h5]
    exact fin_ok h1.1 (by rw [cuv0, Int.mul_zero]; exact h1.2)
  · have h2 : NA ≠ 0 := fun e => h0 (by rw [e, Nat.zero_mul])
    have h3 : NB ≠ 0 := fun e => h0 (by rw [e, Nat.mul_zero])
    unfold sMul
    rw [a2 h2, b2 h3]
    exact fin_ok h1.1 h1.2
theorem div_resW {M : Nat → Int → Int} {z a b xa xb sa sb : Int} {P NA NB nb : Nat} (hP : 1 ≤ P ∧ P ≤ 31) (ha : vI sa NA xa = a) (hb : vI sb NB xb = b) (hsa : NA ≠ 0 → sa = 1 ∨ sa = -1) (hsb : NB ≠ 0 → sb = 1 ∨ sb = -1) (hxa : -140 ≤ xa ∧ xa ≤ 110) (hxb : -140 ≤ xb ∧ xb ≤ 110) (hnb : nb ≤ 31) (hlt : NB < 10 ^ nb) (hc : (NB = 0 ∧ z = 2) ∨ (NB ≠ 0 ∧ cutOk M 2 P (NA * 10 ^ (P + nb) / NB) (xa - (P + nb : Nat) - xb) (sa * sb) z)) : resOk M z (sDiv P a b) := by
  obtain ⟨a1, a2⟩ := vI_abs ha hsa
  obtain ⟨b1, b2⟩ := vI_abs hb hsb
  unfold sDiv
  rcases hc with ⟨h0, hz⟩ | ⟨h0, hc⟩
  · have : b = 0 := by rw [h0, Nat.zero_mul] at b1; omega
    rw [if_pos this]
    exact ⟨hz, fun h => by rw [hz] at h; cases h⟩
  · have hb0 : b ≠ 0 := fun e => by
      rw [e] at b1
      have := Nat.mul_pos (Nat.pos_of_ne_zero h0) (p10N (xb + 300).toNat)
      simp at b1
      omega
    rw [if_neg hb0]
    by_cases ha0 : NA = 0
    · subst ha0
      rw [Nat.zero_mul, Nat.zero_div] at hc
      have h1 := cut_fin0 hc hP (fun h => absurd rfl h) (by omega)
      rw [cuv0, Int.mul_zero] at h1
      have h5 : a.natAbs = 0 := by rw [a1, Nat.zero_mul]
      rw [h5, Nat.zero_mul, Nat.zero_div]
      refine fin_ok ?_ ?_
      · rw [h1.1]; unfold cuz; simp
      · rw [cuv0, Int.mul_zero]; exact h1.2
    · have hs : NA * 10 ^ (P + nb) / NB ≠ 0 → sa * sb = 1 ∨ sa * sb = -1 := fun _ => by
        rcases hsa ha0 with e | e <;> rcases hsb h0 with f | f <;> rw [e, f] <;> decide
      have h1 := cut_fin0 hc hP hs (by omega)
      obtain ⟨i, hi⟩ : ∃ i : Nat, xa - (P + nb : Nat) - xb + 400 = i := ⟨(xa - (P + nb : Nat) - xb + 400).toNat, by omega⟩
      have hN1 : a.natAbs * 10 ^ 400 / b.natAbs / 10 ^ i = NA * 10 ^ (P + nb) / NB := by
        rw [Nat.div_div_eq_div_mul, a1, b1, Nat.mul_assoc, ← Nat.pow_add, Nat.mul_assoc, ← Nat.pow_add]
        rw [show (xa + 300).toNat + 400 = (P + nb) + ((xb + 300).toNat + i) by omega, Nat.pow_add, ← Nat.mul_assoc, Nat.mul_div_mul_right _ _ (p10N _)]
      have hge : P ≤ nd (NA * 10 ^ (P + nb) / NB) := by
        have g1 : 10 ^ P ≤ NA * 10 ^ (P + nb) / NB := by
          rw [Nat.le_div_iff_mul_le (Nat.pos_of_ne_zero h0), Nat.pow_add]
          have g3 : 1 ≤ NA := Nat.pos_of_ne_zero ha0
          calc 10 ^ P * NB ≤ 10 ^ P * 10 ^ nb := Nat.mul_le_mul_left _ (Nat.le_of_lt hlt)
            _ = 1 * (10 ^ P * 10 ^ nb) := (Nat.one_mul _).symm
            _ ≤ NA * (10 ^ P * 10 ^ nb) := Nat.mul_le_mul_right _ g3
        rcases Nat.lt_or_ge (nd (NA * 10 ^ (P + nb) / NB)) P with g | g
        · have g4 := nd_lt (NA * 10 ^ (P + nb) / NB)
          have g5 : 10 ^ nd (NA * 10 ^ (P + nb) / NB) ≤ 10 ^ P := Nat.pow_le_pow_right (by decide) (by omega)
          omega
        · exact g
      rw [← hN1] at h1 hge
      have h2 := cut_more (x := xa - (P + nb : Nat) - xb) hP.1 hge
      rw [show xa - (P + nb : Nat) - xb - (i : Int) = -400 by omega] at h2
      rw [a2 ha0, b2 h0]
      refine fin_ok ?_ ?_
      · rw [h2.1]; exact h1.1
      · rw [h2.2]; exact h1.2
theorem Rw.neg {M M1 : Nat → Int → Int} {r v y : Int} (h : Rw M r v) (e : M1 = setA M 4 r y) (hy : y = 0 - M 4 r) : Rw M1 r (-v) := by
  obtain ⟨n, N, x, sg, ⟨g1, g2, g3, g4, g5⟩, h2, h3, h4, h5, h6, h7, h8, h9⟩ := h
  have d1 : M1 1 = M 1 := by subst e; simp [setA]
  refine ⟨n, N, x, -sg, ⟨?_, ?_, ?_, ?_, ?_⟩, ?_, h3, h4, h5, by omega, by omega, h8, fun q => ?_⟩
  · subst e; simp [setA]; exact g1
  · subst e; simp [setA]; exact g2
  · subst e; simp [setA, uI]; rw [hy, g3]; omega
  · rw [d1]; exact g4
  · rw [d1]; exact g5
  · rw [← h2]; unfold vI; rw [Int.neg_mul, Int.neg_mul]
  · rcases h9 q with e | e <;> omega
theorem Fr.rw {M M' : Nat → Int → Int} {r r' v : Int} (h : Fr M M' r) (hne : r' ≠ r) (hg : Rw M r' v) : Rw M' r' v := by
  obtain ⟨n, N, x, sg, hg, rest⟩ := hg
  exact ⟨n, N, x, sg, h.rg hne (by have := rest.2.1; omega) hg, rest⟩
end
section
set_option maxHeartbeats 4000000 in
set_option maxRecDepth 100000 in
/-- operated(op), kinds 0 to 3 -/
theorem t_Mo_operatedW (l : Launch) (D : va_G) (cs : Nat → ClassId) (Z : (Nat → Prop) → State → Heap → Prop) (hZo : fm_Zok Z) (ad : Nat → Nat) (μ : fm_Mu) (V : Nat → Int) (M : Nat → Int → Int) (sz : Nat) (op : Int) (most : Nat) (a : Int) (b : Int) (hM : moS cs μ ad V M) (hop : 0 ≤ op ∧ op ≤ 3) (hra : Rw M 0 a) (hrb : Rw M 1 b) (hpr : V 1 = (most : Int) ∧ 1 ≤ most ∧ most ≤ 31) : Met l y_Mo_operated (Cond.code y_Mo_operated c_Mo_operated 2 (some .int) :: wA) ({ frames := 4, cells := 0, slots := 0, locals := 95 }) (fm_Pc D clsA (tysA cs) Z μ sz [.ref (ad 0), .int (iN (op))]) (moQi D cs ad μ sz (fun z V' M' => V' = V ∧ FrO M M' ∧ resOk M' z (sOp most op a b))) 0 0 (fm_A μ sz) := by
  refine mo_of hM (by decide +kernel) (Nat.le_of_ble_eq_true rfl) (fun p e s m below meth c S hr hlocks hsz hm hK hZ hA ls hl => ?_)
  subst hsz
  obtain ⟨hx, hb, hml, hown, hts⟩ := id S
  have hl : lv_has ls 2 [(0, .ref (ad 0)), (1, .int (iN (op)))] := hl
  refine lv_iload_n hx hb d_Mo_operated_0 rfl (lv_at hl 1 rfl) ?_
  rcases (show op = 0 ∨ op = 1 ∨ op = 2 ∨ op = 3 ∨ op = 4 ∨ (op < 0 ∨ 4 < op) by omega) with c1 | c1 | c1 | c1 | c1 | c1
  · refine lv_tableIn (tgt := 36) hx hb d_Mo_operated_1 (by rw [iN_toInt (by omega)]; omega) (by rw [iN_toInt (by omega)]; omega) (by rw [iN_toInt (by omega), c1]; rfl) (by decide) ?_
    obtain ⟨na, NA, xa, sa, ga, va, na3, na4, na5, na6, na7, na8, na9⟩ := hra
    obtain ⟨nb, NB, xb, sb, gb, vb, nb3, nb4, nb5, nb6, nb7, nb8, nb9⟩ := hrb
    refine lv_aload_n hx hb d_Mo_operated_36 rfl (lv_at hl 0 rfl) ?_
    refine mo_ciS (n := 0) (As := []) (rest := []) S hK hZo hZ hA hm (fun μ sz hM => t_Mo_add l D cs Z hZo ad μ V M sz most na NA nb NB xa sa xb sb hM ga gb (by omega) (fun h => na9 (na8 h)) (fun h => nb9 (nb8 h)) (by omega) hpr) (gV k583 k585 ks27 k6 k586) (by decide) (by decide +kernel) rfl hl.1 rfl (Nat.le_of_ble_eq_true rfl) ⟨Nat.le_of_ble_eq_true rfl, Nat.le_of_ble_eq_true rfl⟩ d_Mo_operated_37 (fun x4 M3 H locs q2 hm => ?_)
    have frM3 := q2.1
    have rsM3 := add_resW (a := a) (b := b) hpr.2 (by obtain ⟨N, x, sg, r1, r2, r3⟩ := q2.2; exact ⟨N, x, sg, r1, by rw [r2, va, vb], r3⟩)
    refine mo_iret S hr hlocks hK hm d_Mo_operated_40 ?_
    unfold sOp
    rw [if_pos c1]
    exact ⟨rfl, frM3.o (by decide), rsM3⟩
  · refine lv_tableIn (tgt := 41) hx hb d_Mo_operated_1 (by rw [iN_toInt (by omega)]; omega) (by rw [iN_toInt (by omega)]; omega) (by rw [iN_toInt (by omega), c1]; rfl) (by decide) ?_
    have h41 : -1 ≤ M 4 1 ∧ M 4 1 ≤ 1 := by
      obtain ⟨n9, N9, x9, s9, g9, v9, r9⟩ := hrb
      rw [g9.2.2.1]; omega
    refine lv_aload_n hx hb d_Mo_operated_41 rfl (lv_at hl 0 rfl) ?_
    refine mo_get 5 S hK hm (by decide) k471 rfl rfl d_Mo_operated_42 ?_
    refine fm_iconst S d_Mo_operated_45 ?_
    refine fm_iconst S d_Mo_operated_46 ?_
    refine lv_aload_n hx hb d_Mo_operated_47 rfl (lv_at hl 0 rfl) ?_
    refine mo_get 5 S hK hm (by decide) k471 rfl rfl d_Mo_operated_48 ?_
    refine fm_iconst S d_Mo_operated_51 ?_
    refine mo_iald 4 S hK hm (by decide) (by simp only [moLen]; omega) d_Mo_operated_52 ?_
    refine fm_isub S d_Mo_operated_53 ?_
    refine mo_iast 4 S hK hm (by decide) (by simp only [moLen]; omega) d_Mo_operated_54 (fun M5 H locs eM5 hm => ?_)
    have hrb1 := hrb.neg eM5 rfl
    have hra1 := (Fr.s eM5 (by decide)).rw (r' := 0) (by decide) hra
    obtain ⟨na, NA, xa, sa, ga, va, na3, na4, na5, na6, na7, na8, na9⟩ := hra1
    obtain ⟨nb, NB, xb, sb, gb, vb, nb3, nb4, nb5, nb6, nb7, nb8, nb9⟩ := hrb1
    refine lv_aload_n hx hb d_Mo_operated_55 rfl (lv_at hl 0 rfl) ?_
    refine mo_ciS (n := 0) (As := []) (rest := []) S hK hZo hZ hA hm (fun μ sz hM => t_Mo_add l D cs Z hZo ad μ V M5 sz most na NA nb NB xa sa xb sb hM ga gb (by omega) (fun h => na9 (na8 h)) (fun h => nb9 (nb8 h)) (by omega) hpr) (gV k583 k585 ks27 k6 k586) (by decide) (by decide +kernel) rfl hl.1 rfl (Nat.le_of_ble_eq_true rfl) ⟨Nat.le_of_ble_eq_true rfl, Nat.le_of_ble_eq_true rfl⟩ d_Mo_operated_56 (fun x8 M7 H locs q6 hm => ?_)
    have frM7 := q6.1
    have rsM7 := add_resW (a := a) (b := (-b)) hpr.2 (by obtain ⟨N, x, sg, r1, r2, r3⟩ := q6.2; exact ⟨N, x, sg, r1, by rw [r2, va, vb], r3⟩)
    refine mo_iret S hr hlocks hK hm d_Mo_operated_59 ?_
    unfold sOp
    rw [if_neg (by omega), if_pos c1]
    exact ⟨rfl, ((Fr.s eM5 (by decide)).o (by decide)).tr (frM7.o (by decide)), rsM7⟩
  · refine lv_tableIn (tgt := 60) hx hb d_Mo_operated_1 (by rw [iN_toInt (by omega)]; omega) (by rw [iN_toInt (by omega)]; omega) (by rw [iN_toInt (by omega), c1]; rfl) (by decide) ?_
    obtain ⟨na, NA, xa, sa, ga, va, na3, na4, na5, na6, na7, na8, na9⟩ := hra
    obtain ⟨nb, NB, xb, sb, gb, vb, nb3, nb4, nb5, nb6, nb7, nb8, nb9⟩ := hrb
    refine lv_aload_n hx hb d_Mo_operated_60 rfl (lv_at hl 0 rfl) ?_
    refine mo_ciS (n := 0) (As := []) (rest := []) S hK hZo hZ hA hm (fun μ sz hM => t_Mo_multiply l D cs Z hZo ad μ V M sz most na NA nb NB xa sa xb sb hM ga gb (by omega) (by omega) hpr) (gV k603 k605 ks32 k6 k606) (by decide) (by decide +kernel) rfl hl.1 rfl (Nat.le_of_ble_eq_true rfl) ⟨Nat.le_of_ble_eq_true rfl, Nat.le_of_ble_eq_true rfl⟩ d_Mo_operated_61 (fun x11 M10 H locs q9 hm => ?_)
    have frM10 := q9.1
    have rsM10 := mul_resW hpr.2 va vb na9 nb9 (by omega) (by omega) q9.2
    refine mo_iret S hr hlocks hK hm d_Mo_operated_64 ?_
    unfold sOp
    rw [if_neg (by omega), if_neg (by omega), if_pos c1]
    exact ⟨rfl, frM10.o (by decide), rsM10⟩
  · refine lv_tableIn (tgt := 65) hx hb d_Mo_operated_1 (by rw [iN_toInt (by omega)]; omega) (by rw [iN_toInt (by omega)]; omega) (by rw [iN_toInt (by omega), c1]; rfl) (by decide) ?_
    obtain ⟨na, NA, xa, sa, ga, va, na3, na4, na5, na6, na7, na8, na9⟩ := hra
    obtain ⟨nb, NB, xb, sb, gb, vb, nb3, nb4, nb5, nb6, nb7, nb8, nb9⟩ := hrb
    refine lv_aload_n hx hb d_Mo_operated_65 rfl (lv_at hl 0 rfl) ?_
    refine mo_ciS (n := 0) (As := []) (rest := []) S hK hZo hZ hA hm (fun μ sz hM => t_Mo_divide l D cs Z hZo ad μ V M sz most na NA nb NB xa sa xb sb hM ga gb (by omega) nb8 (by omega) hpr) (gV k607 k609 ks33 k6 k610) (by decide) (by decide +kernel) rfl hl.1 rfl (Nat.le_of_ble_eq_true rfl) ⟨Nat.le_of_ble_eq_true rfl, Nat.le_of_ble_eq_true rfl⟩ d_Mo_operated_66 (fun x14 M13 H locs q12 hm => ?_)
    have frM13 := q12.1
    have rsM13 := div_resW (nb := nb) hpr.2 va vb na9 nb9 (by omega) (by omega) (by omega) gb.lt q12.2
    refine mo_iret S hr hlocks hK hm d_Mo_operated_69 ?_
    unfold sOp
    rw [if_neg (by omega), if_neg (by omega), if_neg (by omega), if_pos c1]
    exact ⟨rfl, frM13.o (by decide), rsM13⟩
  · refine lv_tableIn (tgt := 70) hx hb d_Mo_operated_1 (by rw [iN_toInt (by omega)]; omega) (by rw [iN_toInt (by omega)]; omega) (by rw [iN_toInt (by omega), c1]; rfl) (by decide) ?_
    exfalso; omega
  · refine lv_tableOut (tgt := 75) hx hb d_Mo_operated_1 (by rw [iN_toInt (by omega)]; omega) (by decide) ?_
    exfalso; omega

set_option maxHeartbeats 4000000 in
set_option maxRecDepth 100000 in
/-- error(r) -/
theorem t_Mo_error (l : Launch) (D : va_G) (cs : Nat → ClassId) (Z : (Nat → Prop) → State → Heap → Prop) (hZo : fm_Zok Z) (ad : Nat → Nat) (μ : fm_Mu) (V : Nat → Int) (M : Nat → Int → Int) (sz : Nat) (r : Int) (σ : Sg) (hM : moS cs μ ad V M) (hir : inI r) (hI : moInv V M σ) : Met l y_Mo_error (Cond.code y_Mo_error c_Mo_error 2 (some .boolean) :: wA) ({ frames := 1, cells := 0, slots := 0, locals := 21 }) (fm_Pc D clsA (tysA cs) Z μ sz [.ref (ad 0), .int (iN (r))]) (moQi D cs ad μ sz (fun z V' M' => z = sp_error σ r ∧ moInv V' M' σ ∧ V' 0 = 0)) 0 0 (fm_A μ sz) := by
  refine mo_of hM (by decide +kernel) (Nat.le_of_ble_eq_true rfl) (fun p e s m below meth c S hr hlocks hsz hm hK hZ hA ls hl => ?_)
  subst hsz
  obtain ⟨hx, hb, hml, hown, hts⟩ := id S
  have hl : lv_has ls 2 [(0, .ref (ad 0)), (1, .int (iN (r)))] := hl
  refine lv_aload_n hx hb d_Mo_error_0 rfl (lv_at hl 0 rfl) ?_
  refine fm_iconst S d_Mo_error_1 ?_
  refine mo_puti 0 S hK hm (by decide) k466 d_Mo_error_2 (fun V1 H locs eV1 hm => ?_)
  have hI := hI.v0 eV1
  have hI1 := hI.p
  have hI2 := hI.c
  have hI3 := hI.r
  refine lv_aload_n hx hb d_Mo_error_5 rfl (lv_at hl 0 rfl) ?_
  refine lv_iload_n hx hb d_Mo_error_6 rfl (lv_at hl 1 rfl) ?_
  refine mo_pi (n := 1) (As := [.int (iN (r))]) (rest := []) S hK hZo hZ hA hm (fun μ sz hM => t_Mo_isReceiver l D cs Z hZo ad μ V1 M sz r hM (by omega) (by omega)) (gV k644 k646 ks38 k6 k647) (by decide) (by decide +kernel) rfl hl.1 rfl (Nat.le_of_ble_eq_true rfl) ⟨Nat.le_of_ble_eq_true rfl, Nat.le_of_ble_eq_true rfl⟩ d_Mo_error_7 (fun x3 q2 => ?_)
  refine fm_if_eq (tgt := 26) S (by omega) d_Mo_error_10 (by decide) (fun c4 => ?_) (fun c4 => ?_)
  · refine fm_iconst S d_Mo_error_26 ?_
    refine mo_zret S hr hlocks hK hm (by omega) d_Mo_error_27 ?_
    unfold sp_error
    first | (rw [if_pos (by omega)]; exact ⟨by omega, hI, by rw [eV1]; rfl⟩) | (rw [if_neg (by omega)]; exact ⟨rfl, hI, by rw [eV1]; rfl⟩)
  · have hwx := hI.rv (r := r) (by omega) (by omega)
    have hwr := hwx.1.2.2.2.2.2
    have hw9 := hwx.2.2.2.2.2.2.2.2.2
    refine lv_aload_n hx hb d_Mo_error_13 rfl (lv_at hl 0 rfl) ?_
    refine mo_get 20 S hK hm (by decide) k486 rfl rfl d_Mo_error_14 ?_
    refine lv_iload_n hx hb d_Mo_error_17 rfl (lv_at hl 1 rfl) ?_
    refine mo_zald S hK hm (by omega) d_Mo_error_18 ?_
    refine fm_if_eq (tgt := 26) S (by omega) d_Mo_error_19 (by decide) (fun c5 => ?_) (fun c5 => ?_)
    · refine fm_iconst S d_Mo_error_26 ?_
      refine mo_zret S hr hlocks hK hm (by omega) d_Mo_error_27 ?_
      unfold sp_error
      first | (rw [if_pos (by omega)]; exact ⟨by omega, hI, by rw [eV1]; rfl⟩) | (rw [if_neg (by omega)]; exact ⟨rfl, hI, by rw [eV1]; rfl⟩)
    · refine fm_iconst S d_Mo_error_22 ?_
      refine lv_goto (tgt := 27) hx hb d_Mo_error_23 (by decide) ?_
      refine mo_zret S hr hlocks hK hm (by omega) d_Mo_error_27 ?_
      unfold sp_error
      first | (rw [if_pos (by omega)]; exact ⟨by omega, hI, by rw [eV1]; rfl⟩) | (rw [if_neg (by omega)]; exact ⟨rfl, hI, by rw [eV1]; rfl⟩)

set_option maxHeartbeats 4000000 in
set_option maxRecDepth 100000 in
/-- exact(n, side) -/
theorem t_Mo_exact (l : Launch) (D : va_G) (cs : Nat → ClassId) (Z : (Nat → Prop) → State → Heap → Prop) (hZo : fm_Zok Z) (ad : Nat → Nat) (μ : fm_Mu) (V : Nat → Int) (M : Nat → Int → Int) (sz : Nat) (n : Int) (side : Int) (σ : Sg) (hM : moS cs μ ad V M) (hin : inI n) (his : inI side) (hI : moInv V M σ) : Met l y_Mo_exact (Cond.code y_Mo_exact c_Mo_exact 4 (some .long) :: wA) ({ frames := 1, cells := 0, slots := 0, locals := 21 }) (fm_Pc D clsA (tysA cs) Z μ sz [.ref (ad 0), .int (iN (n)), .int (iN (side))]) (moQl D cs ad μ sz (fun z V' M' => z = (sp_exact σ n side).2 ∧ moInv V' M' σ ∧ V' 0 = (sp_exact σ n side).1)) 0 0 (fm_A μ sz) := by
  refine mo_of hM (by decide +kernel) (Nat.le_of_ble_eq_true rfl) (fun p e s m below meth c S hr hlocks hsz hm hK hZ hA ls hl => ?_)
  subst hsz
  obtain ⟨hx, hb, hml, hown, hts⟩ := id S
  have hl : lv_has ls 4 [(0, .ref (ad 0)), (1, .int (iN (n))), (2, .int (iN (side)))] := hl
  refine lv_aload_n hx hb d_Mo_exact_0 rfl (lv_at hl 0 rfl) ?_
  refine fm_iconst S d_Mo_exact_1 ?_
  refine mo_puti 0 S hK hm (by decide) k466 d_Mo_exact_2 (fun V1 H locs eV1 hm => ?_)
  have hI := hI.v0 eV1
  have hI1 := hI.p
  have hI2 := hI.c
  have hI3 := hI.r
  refine lv_aload_n hx hb d_Mo_exact_5 rfl (lv_at hl 0 rfl) ?_
  refine lv_iload_n hx hb d_Mo_exact_6 rfl (lv_at hl 1 rfl) ?_
  refine mo_pi (n := 1) (As := [.int (iN (n))]) (rest := []) S hK hZo hZ hA hm (fun μ sz hM => t_Mo_isNode l D cs Z hZo ad μ V1 M sz n hM (by omega) (by omega)) (gV k571 k573 ks24 k6 k574) (by decide) (by decide +kernel) rfl hl.1 rfl (Nat.le_of_ble_eq_true rfl) ⟨Nat.le_of_ble_eq_true rfl, Nat.le_of_ble_eq_true rfl⟩ d_Mo_exact_7 (fun x3 q2 => ?_)
  refine fm_if_eq (tgt := 17) S (by omega) d_Mo_exact_10 (by decide) (fun c4 => ?_) (fun c4 => ?_)
  · refine lv_ldc2 (v := jN (-1)) hx hb hown (hts _ k635) d_Mo_exact_17 ?_
    refine mo_lret S hr hlocks hK hm d_Mo_exact_20 ?_
    unfold sp_exact
    rw [if_pos (by omega)]
    exact ⟨rfl, hI, by rw [eV1]; rfl⟩
  · refine lv_iload_n hx hb d_Mo_exact_13 rfl (lv_at hl 2 rfl) ?_
    refine fm_if_ge (tgt := 21) S (by omega) d_Mo_exact_14 (by decide) (fun c5 => ?_) (fun c5 => ?_)
    · have hwa := hI.nv (n := n) (by omega) (by omega)
      have e10 := hwa.1.1
      have e7 := hwa.1.2.1
      have e8 := hwa.1.2.2.1
      have e9 := hwa.1.2.2.2.1
      have b31 := hwa.2.2.2.1.1
      have b32 := hwa.2.2.2.1.2.1
      have b33 := hwa.2.2.2.1.2.2
      have b34 := sgn_in (sN σ n.toNat).2
      have ba1 := hwa.2.1
      have ba2 := hwa.2.2.1
      refine lv_aload_n hx hb d_Mo_exact_21 rfl (lv_at hl 0 rfl) ?_
      refine mo_get 11 S hK hm (by decide) k477 rfl rfl d_Mo_exact_22 ?_
      refine lv_iload_n hx hb d_Mo_exact_25 rfl (lv_at hl 1 rfl) ?_
      refine mo_iald 10 S hK hm (by decide) (by simp only [moLen]; omega) d_Mo_exact_26 ?_
      refine fm_if_eq (tgt := 37) S (by omega) d_Mo_exact_27 (by decide) (fun c6 => ?_) (fun c6 => ?_)
      · refine lv_iload_n hx hb d_Mo_exact_37 rfl (lv_at hl 2 rfl) ?_
        refine fm_if_ne (tgt := 49) S (by omega) d_Mo_exact_38 (by decide) (fun c7 => ?_) (fun c7 => ?_)
        · refine lv_iload_n hx hb d_Mo_exact_49 rfl (lv_at hl 2 rfl) ?_
          refine fm_iconst S d_Mo_exact_50 ?_
          refine fm_icmp_ne (tgt := 62) S (by omega) (by omega) d_Mo_exact_51 (by decide) (fun c8 => ?_) (fun c8 => ?_)
          · refine lv_iload_n hx hb d_Mo_exact_62 rfl (lv_at hl 2 rfl) ?_
            refine fm_iconst S d_Mo_exact_63 ?_
            refine fm_icmp_ne (tgt := 75) S (by omega) (by omega) d_Mo_exact_64 (by decide) (fun c9 => ?_) (fun c9 => ?_)
            · refine lv_iload_n hx hb d_Mo_exact_75 rfl (lv_at hl 2 rfl) ?_
              refine fm_iconst S d_Mo_exact_76 ?_
              refine fm_isub S d_Mo_exact_77 ?_
              refine fm_topi (fun x10 hx10 => ?_)
              refine lv_istore_n (lv' := [(3, .int (iN (x10))), (0, .ref (ad 0)), (1, .int (iN (n))), (2, .int (iN (side)))]) hx hb d_Mo_exact_78 rfl hl (by decide) rfl (fun ls hl => ?_)
              refine lv_iload_n hx hb d_Mo_exact_79 rfl (lv_at hl 0 rfl) ?_
              refine lv_aload_n hx hb d_Mo_exact_80 rfl (lv_at hl 1 rfl) ?_
              refine mo_get 8 S hK hm (by decide) k474 rfl rfl d_Mo_exact_81 ?_
              refine lv_iload_n hx hb d_Mo_exact_84 rfl (lv_at hl 2 rfl) ?_
              refine mo_iald 7 S hK hm (by decide) (by simp only [moLen]; omega) d_Mo_exact_85 ?_
              refine fm_icmp_ge (tgt := 113) S (by omega) (by omega) d_Mo_exact_86 (by decide) (fun c11 => ?_) (fun c11 => ?_)
              · refine lv_ldc2 (v := jN (-1)) hx hb hown (hts _ k635) d_Mo_exact_113 ?_
                refine mo_lret S hr hlocks hK hm d_Mo_exact_116 ?_
                unfold sp_exact
                rw [if_neg (by omega), if_neg (by omega), if_neg (by omega), if_neg (by omega), if_neg (by omega)]
                first | (rw [if_pos (by omega)]; exact ⟨by rw [← hdg]; simp, hI, by rw [eV1]; rfl⟩) | (rw [if_neg (by omega)]; exact ⟨rfl, hI, by rw [eV1]; rfl⟩)
              · refine lv_aload_n hx hb d_Mo_exact_89 rfl (lv_at hl 1 rfl) ?_
                refine mo_get 7 S hK hm (by decide) k473 rfl rfl d_Mo_exact_90 ?_
                refine fm_bipush S d_Mo_exact_93 (by decide) ?_
                refine lv_iload_n hx hb d_Mo_exact_95 rfl (lv_at hl 2 rfl) ?_
                refine fm_imul S d_Mo_exact_96 ?_
                refine lv_aload_n hx hb d_Mo_exact_97 rfl (lv_at hl 1 rfl) ?_
                refine mo_get 8 S hK hm (by decide) k474 rfl rfl d_Mo_exact_98 ?_
                refine lv_iload_n hx hb d_Mo_exact_101 rfl (lv_at hl 2 rfl) ?_
                refine mo_iald 7 S hK hm (by decide) (by simp only [moLen]; omega) d_Mo_exact_102 ?_
                refine fm_iadd S d_Mo_exact_103 ?_
                refine fm_iconst S d_Mo_exact_104 ?_
                refine fm_isub S d_Mo_exact_105 ?_
                refine lv_iload_n hx hb d_Mo_exact_106 rfl (lv_at hl 0 rfl) ?_
                refine fm_isub S d_Mo_exact_107 ?_
                have hdg := dv_dig hwa.1.2.2.2.2.1 (k := nd (cN (sN σ n.toNat).2) - 1 - (side - 3).toNat) (by omega)
                rw [hwa.1.2.2.2.2.2] at hdg
                have hd9 := hwa.1.2.2.2.2.1 ((nd (cN (sN σ n.toNat).2) - 1 - (side - 3).toNat : Nat) : Int) (by omega) (by omega)
                rw [show 31 * n + ((nd (cN (sN σ n.toNat).2) - 1 - (side - 3).toNat : Nat) : Int) = 31 * n + M 7 n - 1 - x10 by omega] at hdg hd9
                refine mo_iald 6 S hK hm (by decide) (by simp only [moLen]; omega) d_Mo_exact_108 ?_
                refine fm_i2l S (by omega) d_Mo_exact_109 ?_
                refine lv_goto (tgt := 116) hx hb d_Mo_exact_110 (by decide) ?_
                refine mo_lret S hr hlocks hK hm d_Mo_exact_116 ?_
                unfold sp_exact
                rw [if_neg (by omega), if_neg (by omega), if_neg (by omega), if_neg (by omega), if_neg (by omega)]
                first | (rw [if_pos (by omega)]; exact ⟨by rw [← hdg]; simp, hI, by rw [eV1]; rfl⟩) | (rw [if_neg (by omega)]; exact ⟨rfl, hI, by rw [eV1]; rfl⟩)
            · refine lv_aload_n hx hb d_Mo_exact_67 rfl (lv_at hl 0 rfl) ?_
              refine mo_get 9 S hK hm (by decide) k475 rfl rfl d_Mo_exact_68 ?_
              refine lv_iload_n hx hb d_Mo_exact_71 rfl (lv_at hl 1 rfl) ?_
              refine mo_iald 8 S hK hm (by decide) (by simp only [moLen]; omega) d_Mo_exact_72 ?_
              refine fm_i2l S (by omega) d_Mo_exact_73 ?_
              refine mo_lret S hr hlocks hK hm d_Mo_exact_74 ?_
              unfold sp_exact
              rw [if_neg (by omega), if_neg (by omega), if_neg (by omega), if_neg (by omega), if_pos (by omega)]
              exact ⟨e8, hI, by rw [eV1]; rfl⟩
          · refine lv_aload_n hx hb d_Mo_exact_54 rfl (lv_at hl 0 rfl) ?_
            refine mo_get 8 S hK hm (by decide) k474 rfl rfl d_Mo_exact_55 ?_
            refine lv_iload_n hx hb d_Mo_exact_58 rfl (lv_at hl 1 rfl) ?_
            refine mo_iald 7 S hK hm (by decide) (by simp only [moLen]; omega) d_Mo_exact_59 ?_
            refine fm_i2l S (by omega) d_Mo_exact_60 ?_
            refine mo_lret S hr hlocks hK hm d_Mo_exact_61 ?_
            unfold sp_exact
            rw [if_neg (by omega), if_neg (by omega), if_neg (by omega), if_pos (by omega)]
            exact ⟨e7, hI, by rw [eV1]; rfl⟩
        · refine lv_aload_n hx hb d_Mo_exact_41 rfl (lv_at hl 0 rfl) ?_
          refine mo_get 10 S hK hm (by decide) k476 rfl rfl d_Mo_exact_42 ?_
          refine lv_iload_n hx hb d_Mo_exact_45 rfl (lv_at hl 1 rfl) ?_
          refine mo_iald 9 S hK hm (by decide) (by simp only [moLen]; omega) d_Mo_exact_46 ?_
          refine fm_i2l S (by omega) d_Mo_exact_47 ?_
          refine mo_lret S hr hlocks hK hm d_Mo_exact_48 ?_
          unfold sp_exact
          rw [if_neg (by omega), if_neg (by omega), if_pos (by omega)]
          exact ⟨e9, hI, by rw [eV1]; rfl⟩
      · refine lv_aload_n hx hb d_Mo_exact_30 rfl (lv_at hl 0 rfl) ?_
        refine fm_iconst S d_Mo_exact_31 ?_
        refine mo_puti 0 S hK hm (by decide) k466 d_Mo_exact_32 (fun V12 H locs eV12 hm => ?_)
        refine fm_lconst0 S d_Mo_exact_35 ?_
        refine mo_lret S hr hlocks hK hm d_Mo_exact_36 ?_
        unfold sp_exact
        rw [if_neg (by omega), if_pos (by omega)]
        exact ⟨rfl, hI.v0 eV12, by rw [eV12]; rfl⟩
    · refine lv_ldc2 (v := jN (-1)) hx hb hown (hts _ k635) d_Mo_exact_17 ?_
      refine mo_lret S hr hlocks hK hm d_Mo_exact_20 ?_
      unfold sp_exact
      rw [if_pos (by omega)]
      exact ⟨rfl, hI, by rw [eV1]; rfl⟩
end
