-- THE LAW'S START: what the tables and the start give (own work)
theorem wA_sub {w : Cond} (h : w ∈ wA) : w ∈ lw_tbl := (List.mem_filter.mp h).1
theorem prim_arr {args : Array Value} {s : State} {ty : FieldType} (h : (Cond.arrayClass ty).before args s = true) (hp : ∀ C, ty ≠ .object C) : ∃ c : ClassId, ArrOfT s c ty ∧ va_RA s c ty := by
  obtain ⟨c, k, comp, h1, h2, h3⟩ := Cond.arrayClass_spec h
  refine ⟨c, fun n z => ⟨(fun k h => by cases h), k, h2, comp, h3⟩, ?_⟩
  cases ty with
  | object C => exact absurd rfl (hp C)
  | _ => exact h1
theorem ref_arr {args : Array Value} {s : State} {C : String} (h : (Cond.arrayOver (.object C)).before args s = true) : ∃ c : ClassId, ArrOfT s c (.object C) ∧ va_RA s c (.object C) := by
  obtain ⟨comp, c, k, h1, h2, h3, h4, h5⟩ := Cond.arrayOver_spec h
  exact ⟨c, fun n z => ⟨(fun k h => by cases h), k, h3, comp, h4⟩, k, comp, h3, h4, h1, h5⟩
theorem law_K {args : Array Value} {s : State} (ht : ∀ w ∈ lw_tbl, w.before args s = true) : ∃ (D : va_G) (cs : Nat → ClassId), va_K D clsA (tysA cs) s := by
  have hts : ∀ w ∈ wA, w.before args s = true := fun w h => ht w (wA_sub h)
  obtain ⟨c0, i0, h0⟩ := u_known hts i_AF (hts _ k16)
  obtain ⟨c1, i1, h1⟩ := u_known hts i_Ca (hts _ k59)
  obtain ⟨c2, i2, h2⟩ := u_known hts i_De (hts _ k27)
  obtain ⟨c3, i3, h3⟩ := u_known hts i_Re (hts _ k275)
  obtain ⟨c4, i4, h4⟩ := u_known hts i_Mo (hts _ k461)
  obtain ⟨a0, b0⟩ := prim_arr (hts _ k536) (fun C h => by cases h)
  obtain ⟨a1, b1⟩ := prim_arr (hts _ k57) (fun C h => by cases h)
  obtain ⟨a2, b2⟩ := prim_arr (hts _ k537) (fun C h => by cases h)
  obtain ⟨a3, b3⟩ := ref_arr (ht _ k24t)
  obtain ⟨a4, b4⟩ := ref_arr (ht _ k26t)
  refine ⟨(fun c => if c = 0 then c0 else if c = 1 then c1 else if c = 2 then c2 else if c = 3 then c3 else c4, fun c => if c = 0 then i0 else if c = 1 then i1 else if c = 2 then i2 else if c = 3 then i3 else i4), fun c => if c = 0 then a0 else if c = 1 then a1 else if c = 2 then a2 else if c = 3 then a3 else a4, fun c q hq => ?_, fun c q hq => ?_⟩
  · have hc : c < 5 := (List.getElem?_eq_some_iff.mp hq).1
    rcases (show c = 0 ∨ c = 1 ∨ c = 2 ∨ c = 3 ∨ c = 4 by omega) with e | e | e | e | e <;> subst e <;> cases hq
    · exact h0
    · exact h1
    · exact h2
    · exact h3
    · exact h4
  · have hc : c < 5 := (List.getElem?_eq_some_iff.mp hq).1
    rcases (show c = 0 ∨ c = 1 ∨ c = 2 ∨ c = 3 ∨ c = 4 by omega) with e | e | e | e | e <;> subst e <;> cases hq
    · exact b0
    · exact b1
    · exact b2
    · exact b3
    · exact b4
theorem isRef_val {args : Array Value} {s : State} {t : Term} (h : (Cond.isRef t).before args s = true) : ∃ v : Value, t.eval args s none [] s = some v ∧ v.isRef = true := by
  cases hv : t.eval args s none [] s with
  | none => simp [Cond.before, Cond.holds, Cond.value, hv] at h
  | some v => exact ⟨v, rfl, by cases v <;> simp [Cond.before, Cond.holds, Cond.value, hv, Value.isRef] at h ⊢⟩
theorem Zs_of {args : Array Value} {s : State} {C n d : String} {v : Value} {A : Nat → Prop} (hl : (Cond.laysStatic C n d).before args s = true) (hv : (Term.static C n d).eval args s none [] s = some v) (hA : ∀ a : Nat, a < s.heap.size → ¬ A a) : Zs C n d v A s s.heap := by
  obtain ⟨c, k, i, f, a, cell, hc, hi, hst, ha, hcell, hs, hcls, hlt, hty⟩ := Cond.laysStatic_spec hl
  obtain ⟨hst', a', cell', ha', hcell', -, hslot⟩ := Term.static_spec hi hv
  cases ha.symm.trans ha'
  cases hcell.symm.trans hcell'
  exact ⟨c, k, i, f, a, cell, hc, hi, hst, ha, hcell, hs, hcls, hlt, hty, hslot, hA a (Array.getElem?_eq_some_iff.mp hcell).1⟩

set_option maxRecDepth 100000 in
set_option maxHeartbeats 4000000 in
theorem law_Z {b : Nat} {s : State} (ht : ∀ w ∈ lw_tbl, w.before #[Value.ref b] s = true) (hg : (Jvm.Cond.and given_1 narrow_1).before #[Value.ref b] s = true) (A : Nat → Prop) (hA : ∀ a : Nat, a < s.heap.size → ¬ A a) : ∃ (tT : Nat) (u0 sen : Value) (q : Nat), Zc tT A s s.heap ∧ Zx u0 sen q A s s.heap := by
  have hs := flat_of_before _ hg
  have hts : ∀ w ∈ wA, w.before #[Value.ref b] s = true := fun w h => ht w (wA_sub h)
  have harr : (Cond.arrayOf (Term.static "ArithmeticForms" "TENS" "[J") .long).before #[Value.ref b] s = true := hs _ (by decide +kernel)
  have hlen : (Term.length (Term.static "ArithmeticForms" "TENS" "[J")).eval #[Value.ref b] s none [] s = some (.int (Int32.ofNat 19)) := va_eqt (hs (Cond.eq (.length (Term.static "ArithmeticForms" "TENS" "[J")) (.int 19)) (by decide +kernel))
  have hel : ∀ j : Nat, j < 19 → (Term.elem (Term.static "ArithmeticForms" "TENS" "[J") (.int (Int32.ofNat j))).eval #[Value.ref b] s none [] s = some ((fun j => Value.long (jN (10 ^ j))) j) := by
    intro j hj
    rcases (show j = 0 ∨ j = 1 ∨ j = 2 ∨ j = 3 ∨ j = 4 ∨ j = 5 ∨ j = 6 ∨ j = 7 ∨ j = 8 ∨ j = 9 ∨ j = 10 ∨ j = 11 ∨ j = 12 ∨ j = 13 ∨ j = 14 ∨ j = 15 ∨ j = 16 ∨ j = 17 ∨ j = 18 by omega) with h | h | h | h | h | h | h | h | h | h | h | h | h | h | h | h | h | h | h <;> subst h
    · exact va_eqtl (hs (Cond.eq (.elem (Term.static "ArithmeticForms" "TENS" "[J") (.int 0)) (.long 1)) (by decide +kernel))
    · exact va_eqtl (hs (Cond.eq (.elem (Term.static "ArithmeticForms" "TENS" "[J") (.int 1)) (.long 10)) (by decide +kernel))
    · exact va_eqtl (hs (Cond.eq (.elem (Term.static "ArithmeticForms" "TENS" "[J") (.int 2)) (.long 100)) (by decide +kernel))
    · exact va_eqtl (hs (Cond.eq (.elem (Term.static "ArithmeticForms" "TENS" "[J") (.int 3)) (.long 1000)) (by decide +kernel))
    · exact va_eqtl (hs (Cond.eq (.elem (Term.static "ArithmeticForms" "TENS" "[J") (.int 4)) (.long 10000)) (by decide +kernel))
    · exact va_eqtl (hs (Cond.eq (.elem (Term.static "ArithmeticForms" "TENS" "[J") (.int 5)) (.long 100000)) (by decide +kernel))
    · exact va_eqtl (hs (Cond.eq (.elem (Term.static "ArithmeticForms" "TENS" "[J") (.int 6)) (.long 1000000)) (by decide +kernel))
    · exact va_eqtl (hs (Cond.eq (.elem (Term.static "ArithmeticForms" "TENS" "[J") (.int 7)) (.long 10000000)) (by decide +kernel))
    · exact va_eqtl (hs (Cond.eq (.elem (Term.static "ArithmeticForms" "TENS" "[J") (.int 8)) (.long 100000000)) (by decide +kernel))
    · exact va_eqtl (hs (Cond.eq (.elem (Term.static "ArithmeticForms" "TENS" "[J") (.int 9)) (.long 1000000000)) (by decide +kernel))
    · exact va_eqtl (hs (Cond.eq (.elem (Term.static "ArithmeticForms" "TENS" "[J") (.int 10)) (.long 10000000000)) (by decide +kernel))
    · exact va_eqtl (hs (Cond.eq (.elem (Term.static "ArithmeticForms" "TENS" "[J") (.int 11)) (.long 100000000000)) (by decide +kernel))
    · exact va_eqtl (hs (Cond.eq (.elem (Term.static "ArithmeticForms" "TENS" "[J") (.int 12)) (.long 1000000000000)) (by decide +kernel))
    · exact va_eqtl (hs (Cond.eq (.elem (Term.static "ArithmeticForms" "TENS" "[J") (.int 13)) (.long 10000000000000)) (by decide +kernel))
    · exact va_eqtl (hs (Cond.eq (.elem (Term.static "ArithmeticForms" "TENS" "[J") (.int 14)) (.long 100000000000000)) (by decide +kernel))
    · exact va_eqtl (hs (Cond.eq (.elem (Term.static "ArithmeticForms" "TENS" "[J") (.int 15)) (.long 1000000000000000)) (by decide +kernel))
    · exact va_eqtl (hs (Cond.eq (.elem (Term.static "ArithmeticForms" "TENS" "[J") (.int 16)) (.long 10000000000000000)) (by decide +kernel))
    · exact va_eqtl (hs (Cond.eq (.elem (Term.static "ArithmeticForms" "TENS" "[J") (.int 17)) (.long 100000000000000000)) (by decide +kernel))
    · exact va_eqtl (hs (Cond.eq (.elem (Term.static "ArithmeticForms" "TENS" "[J") (.int 18)) (.long 1000000000000000000)) (by decide +kernel))
  obtain ⟨tT, h1, h2⟩ := va_Tof (by decide) harr hlen hel hA
  obtain ⟨u0, hu1, hu2⟩ := isRef_val (hs (.isRef (.static Bundle.tN "UNASSIGNED_STACK" Bundle.steD)) (by decide +kernel))
  obtain ⟨sen, hn1, hn2⟩ := isRef_val (hs (.isRef (.static Bundle.tN "SUPPRESSED_SENTINEL" Bundle.listD)) (by decide +kernel))
  obtain ⟨q, cB, cellB, kB, hb, -⟩ := Cond.exactly_spec (hs (.exactly (.string "ArithmeticForms" 115) "java/lang/String") (by decide +kernel))
  refine ⟨tT, u0, sen, q, ⟨va_Zof (ht _ k87t) (hts _ k1) h1 hA, h2, ⟨ht _ k28t, ht _ k71t, ht _ k83t, ht _ k220t, ht _ k344t⟩, ht _ k24t, ht _ k26t, ht _ k198t⟩, fun a ha => va_Nw.of (xA_ok a ha).1 (ht a (xA_in a ha)), ⟨Zs_of (ht _ k419t) hu1 hA, hu2⟩, ⟨Zs_of (ht _ k421t) hn1 hA, hn2⟩, vk_R.of (ht _ k431t) hb⟩
