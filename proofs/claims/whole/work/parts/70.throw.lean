-- AN EXCEPTION THAT THE CLASS MAKES AND THROWS (own work; the library's ctorThrowS does the walk)
def xAE : String := "java/lang/ArithmeticException"
def xNs : List String := ["java/lang/RuntimeException", "java/lang/Exception"]
def xSt (n d : String) : Cond := .isRef (.static Bundle.tN n d)
def xLs (c : Cond) : Bool := match c with
  | .laysStatic .. => false
  | _ => true
def xA0 : List Cond := Bundle.throwableAtoms.filter xLs ++ Bundle.throwableSAtoms ++ Bundle.chainSAtoms xAE xNs ++
  [.methodLink "ArithmeticForms" 117 (Bundle.initS xAE), .instantiable xAE 6, .castable xAE xAE, .selects xAE Bundle.tFill0 Bundle.tFill0, .selects xAE Bundle.tFill Bundle.tFill,
   .lays xAE Bundle.tN "cause" "Ljava/lang/Throwable;", .lays xAE Bundle.tN "stackTrace" Bundle.steD, .lays xAE Bundle.tN "suppressedExceptions" Bundle.listD, .lays xAE Bundle.tN "detailMessage" "Ljava/lang/String;",
   .fieldLink Bundle.tN 198 Bundle.tN "backtrace" "Ljava/lang/Object;", .lays Bundle.tN Bundle.tN "backtrace" "Ljava/lang/Object;", .lays xAE Bundle.tN "backtrace" "Ljava/lang/Object;"]
set_option maxRecDepth 100000 in
theorem xA_in : ∀ a ∈ xA0, a ∈ lw_tbl := by decide +kernel
theorem xA_ok : ∀ a ∈ xA0, a.onTables = true ∧ a.keepsFace = true := by decide +kernel
theorem nw_warm {c : Cond} (h1 : c.onTables = true) (h2 : c.keepsFace = true) {s U : State} (hW : s.WarmedH U.vm) (h : va_Nw c s) : va_Nw c U := va_tabs h1 (rfl : (s.setVm U.vm).vm = U.vm) (Cond.before_shiftedFace (State.Shifted.of_warmed hW) c h2 h)
/-- a static of a class, its cell outside of A -/
def Zs (C n d : String) (v : Value) (A : Nat → Prop) (U : State) (H : Heap) : Prop := ∃ (c : ClassId) (k : Class) (i : Nat) (f : Field) (a : Nat) (cell : Cell), U.vm.findClass C = some c ∧ U.fieldFound? C n d = some (c, k, i, f) ∧ f.isStatic = true ∧ k.statics = some a ∧ H[a]? = some cell ∧ cell.vm.isStatics = true ∧ cell.cls = c ∧ f.slot < cell.slots.size ∧ k.staticTypes[f.slot]? = some f.type ∧ cell.slots[f.slot]? = some v ∧ ¬ A a
theorem Zs.moved {C n d : String} {v : Value} {A : Nat → Prop} {u U : State} {H : Heap} (hvm : u.vm.Alike U.vm) (h : Zs C n d v A u H) : Zs C n d v A U H := by
  obtain ⟨c, k, i, f, a, cell, h0, h1, h2, h3, h4, h5, h6, h7, h8, h9, h10⟩ := h
  obtain ⟨k', hi', he⟩ := State.fieldFound?_setVm hvm h1
  exact ⟨c, k', i, f, a, cell, by rw [hvm.findClass]; exact h0, hi', h2, by rw [he]; exact h3, h4, h5, h6, h7, by rw [he]; exact h8, h9, h10⟩
theorem Zs.kept {C n d : String} {v : Value} {A : Nat → Prop} {U : State} {H H1 : Heap} (h : Zs C n d v A U H) (hq : ∀ a : Nat, a < H.size → ¬ A a → H1[a]? = H[a]?) : Zs C n d v A U H1 := by
  obtain ⟨c, k, i, f, a, cell, h0, h1, h2, h3, h4, h5, h6, h7, h8, h9, h10⟩ := h
  exact ⟨c, k, i, f, a, cell, h0, h1, h2, h3, by rw [hq a (Array.getElem?_eq_some_iff.mp h4).1 h10]; exact h4, h5, h6, h7, h8, h9, h10⟩
theorem Zs.narrow {C n d : String} {v : Value} {A B : Nat → Prop} {U : State} {H : Heap} (h : Zs C n d v A U H) (hAB : ∀ q, B q → A q) : Zs C n d v B U H := by
  obtain ⟨c, k, i, f, a, cell, h0, h1, h2, h3, h4, h5, h6, h7, h8, h9, h10⟩ := h
  exact ⟨c, k, i, f, a, cell, h0, h1, h2, h3, h4, h5, h6, h7, h8, h9, fun q => h10 (hAB _ q)⟩
theorem Zs.lays {C n d : String} {v : Value} {A : Nat → Prop} {U : State} {args : Array Value} (h : Zs C n d v A U U.heap) : (Cond.laysStatic C n d).before args U = true := by
  obtain ⟨c, k, i, f, a, cell, h0, h1, h2, h3, h4, h5, h6, h7, h8, h9, h10⟩ := h
  exact Cond.laysStatic_of h0 h1 h2 h3 h4 h5 h6 h7 h8
/-- what a new exception stands on -/
def Zx (u0 sen : Value) (q : Nat) (A : Nat → Prop) (U : State) (H : Heap) : Prop := (∀ a ∈ xA0, va_Nw a U) ∧ (Zs Bundle.tN "UNASSIGNED_STACK" Bundle.steD u0 A U H ∧ u0.isRef = true) ∧ (Zs Bundle.tN "SUPPRESSED_SENTINEL" Bundle.listD sen A U H ∧ sen.isRef = true) ∧ vk_R "ArithmeticForms" 115 "the node's value is raised" q U
theorem Zx_ok (u0 sen : Value) (q : Nat) : fm_Zok (Zx u0 sen q) := by
  refine ⟨fun A B U H h hAB => ?_, fun A u U H hW h => ?_, fun A U H H1 h hq => ?_, fun A u U H hv h => ?_⟩
  · exact ⟨h.1, ⟨h.2.1.1.narrow hAB, h.2.1.2⟩, ⟨h.2.2.1.1.narrow hAB, h.2.2.1.2⟩, h.2.2.2⟩
  · exact ⟨fun a ha => nw_warm (xA_ok a ha).1 (xA_ok a ha).2 hW (h.1 a ha), ⟨h.2.1.1.moved hW.alike, h.2.1.2⟩, ⟨h.2.2.1.1.moved hW.alike, h.2.2.1.2⟩, h.2.2.2.warm hW⟩
  · exact ⟨h.1, ⟨h.2.1.1.kept hq, h.2.1.2⟩, ⟨h.2.2.1.1.kept hq, h.2.2.1.2⟩, h.2.2.2⟩
  · have ha : u.vm.Alike U.vm := by rw [hv]; exact Vm.Alike.refl U.vm
    exact ⟨fun a h2 => (h.1 a h2).same (xA_ok a h2).1 hv, ⟨h.2.1.1.moved ha, h.2.1.2⟩, ⟨h.2.2.1.1.moved ha, h.2.2.1.2⟩, h.2.2.2.same hv.symm⟩
theorem isRef_of {C n d : String} {v : Value} {A : Nat → Prop} {U : State} {args : Array Value} (h : Zs C n d v A U U.heap) (hv : v.isRef = true) : (Cond.isRef (.static C n d)).before args U = true := by
  obtain ⟨c, k, i, f, a, cell, h0, h1, h2, h3, h4, h5, h6, h7, h8, h9, h10⟩ := h
  simp [Cond.before, Cond.holds, Cond.value, Term.eval, State.fieldNamed?, h1, h2, h3, h4, h5, h9]
  cases v <;> simp [Value.isRef] at hv ⊢
/-- how it ends -/
def xQT (st : State) (o : Outcome) (t : State) : Prop := ∃ (a : Addr) (ce : Cell), o = .threw a ∧ t.heap[a]? = some ce ∧ ce.vm = .none ∧ st.vm.findClass xAE = some ce.cls ∧ st.vm.assignable ce.cls ce.cls = true ∧ st.WarmedH t.vm ∧ st.sameButNew ({ t with vm := st.vm } : State) [] 1 6
section ClThrow
variable {p : Program} {l : Launch} {e : Env} {R : Room} {s : State} {m : MethodId} {args : Array Value} {below : List Frame} {meth : Method} {c : Code} {cc : ByteArray} {pc nL : Nat} {ls : Array Slot} {A : Nat → Prop}
theorem cl_throw {u0 sen : Value} {q : Nat} (S : CallFix p m c cc nL s args wA "ArithmeticForms") (hlocks : meth.locks = false) (hnh : c.exceptionTable.isEmpty = true) (hfl : l.flags = pinnedFlags ++ [noTraceFlag]) (hZ : Zx u0 sen q A s s.heap) (hls : ls.size = nL) (hkc : (Cond.classLink "ArithmeticForms" 113 xAE).before args s = true) (hki : (Cond.initialized xAE).before args s = true) (d0 : decode cc pc = .ok (.new 113, 3)) (d1 : decode cc (pc + 3) = .ok (.dup, 1)) (d2 : decode cc (pc + 3 + 1) = .ok (.ldc 115, 2)) (d3 : decode cc (pc + 3 + 1 + 2) = .ok (.invokespecial 117, 3)) (d4 : decode cc (pc + 3 + 1 + 2 + 3) = .ok (.athrow, 1)) (hR : 6 ≤ R.frames ∧ 1 ≤ R.cells ∧ 6 ≤ R.slots ∧ 82 ≤ R.locals) : W p l e R s m args below meth c s.heap [] 0 0 (fun t => ∃ o, t.status = .running ∧ Ended t below o ∧ xQT s o t) (F0 m pc ls []) := by
  obtain ⟨hx, hb, hml, hown, hts⟩ := id S
  have at' : ∀ a ∈ xA0, a.before args s = true := fun a ha => (hZ.1 a ha).use (xA_ok a ha).1
  refine W.newc hx hb hown hkc (at' (.instantiable xAE 6) (by decide +kernel)) hki rfl d0 (by omega) (by omega) (fun cC kC h1 h2 h3 h4 => ?_)
  refine lv_dup hx hb d1 rfl ?_
  refine va_ldcS hx hb hown hZ.2.2.2 d2 ?_
  intro T hT X
  obtain ⟨U, st, hrun, hend, hW, hsame, ce, hce, hO⟩ := X.ctorThrowS hx (Launch.traces_off hfl X.admits) (own := "ArithmeticForms") (cls := xAE) (names := xNs) (ic := 117) hown (by decide +kernel) (by decide +kernel)
    (fun a ha => by
      by_cases h : a ∈ xA0
      · exact at' a h
      · have h2 : (a = xSt "UNASSIGNED_STACK" Bundle.steD ∨ a = xSt "SUPPRESSED_SENTINEL" Bundle.listD) ∨ (a = .laysStatic Bundle.tN "UNASSIGNED_STACK" Bundle.steD ∨ a = .laysStatic Bundle.tN "SUPPRESSED_SENTINEL" Bundle.listD) := by
          simp only [Bundle.ownAtoms, xA0, List.mem_append, List.mem_cons, List.not_mem_nil, or_false] at ha h
          rcases ha with ((ha | ha) | ha) | ha
          · by_cases hf : a ∈ Bundle.throwableAtoms.filter xLs
            · exact absurd (Or.inl (Or.inl (Or.inl hf))) h
            · have hl : xLs a = false := by
                cases hb : xLs a with
                | false => rfl
                | true => exact absurd (List.mem_filter.mpr ⟨ha, hb⟩) hf
              right
              revert hl
              revert ha
              exact (by decide +kernel : ∀ a ∈ Bundle.throwableAtoms, xLs a = false → (a = .laysStatic Bundle.tN "UNASSIGNED_STACK" Bundle.steD ∨ a = .laysStatic Bundle.tN "SUPPRESSED_SENTINEL" Bundle.listD)) a
          · exact absurd (Or.inl (Or.inl (Or.inr ha))) h
          · exact absurd (Or.inl (Or.inr ha)) h
          · rcases ha with ha | ha | ha | ha | ha | ha | ha | ha | ha | ha | ha | ha | ha | ha
            all_goals first | exact Or.inl (Or.inl ha) | exact Or.inl (Or.inr ha) | (exfalso; apply h; right; simp [ha])
        rcases h2 with (h2 | h2) | (h2 | h2)
        · rw [h2]; exact isRef_of hZ.2.1.1 hZ.2.1.2
        · rw [h2]; exact isRef_of hZ.2.2.1.1 hZ.2.2.1.2
        · rw [h2]; exact hZ.2.1.1.lays
        · rw [h2]; exact hZ.2.2.1.1.lays)
    (fun x hx => absurd hx List.not_mem_nil) h1 h2 (a := s.heap.size) (by rw [hT]; exact Array.getElem?_push_size) (Nat.le_refl _) (msg := .ref q) rfl (g := F0 m (pc + 3 + 1 + 2) ls (.ref q :: .ref s.heap.size :: .ref s.heap.size :: [])) rfl (by show ls.size = _; rw [hls, hml]) rfl rfl (rest := []) rfl (by rw [hb]; exact d3) (by rw [hb]; exact d4)
    (fun x hx => by rw [Array.isEmpty_iff.mp hnh] at hx; exact absurd hx List.not_mem_nil) (by show 2 + 3 < R.frames; omega) (by show 2 * 0 + (1 + 0) + (13 * (2 + 1) + 42) ≤ R.locals; omega) hlocks
  exact ⟨U, st, _, hrun, hend, _, ce, rfl, hce, hO.vm, hO.cls, hO.self, hW, hsame.weaken (fun _ h _ => h) (Nat.le_refl _) (by rw [Nat.zero_add]; exact Nat.le_refl _)⟩
end ClThrow
theorem cl_ofT {l : Launch} {y : MethodName} {cc : ByteArray} {maxL sz : Nat} {ret : Option FieldType} {rm : Room} {D : va_G} {cs : Nat → ClassId} {μ : fm_Mu} {Z : (Nat → Prop) → State → Heap → Prop} {av : List Value} (hy : plainName y.cls = true) (hlen : (lg_sl av).length ≤ maxL)
    (body : ∀ (p : Program) (e : Env) (s : State) (m : MethodId) (below : List Frame) (meth : Method) (c : Code), CallFix p m c cc maxL s av.toArray wA y.cls → meth.sig.returnType = ret → meth.locks = false → c.exceptionTable.isEmpty = true → s.heap.size = sz → fm_W D clsA (fm_A μ s.heap.size) s.heap μ s.heap [] → va_K D clsA (tysA cs) s → Z (fm_A μ s.heap.size) s s.heap → (∀ q, s.heap.size ≤ q → fm_A μ s.heap.size q) → ∀ ls : Array Slot, lv_has ls maxL (lv_args 0 av) → W p l e rm s m av.toArray below meth c s.heap [] 0 0 (fun t => ∃ o, t.status = .running ∧ Ended t below o ∧ xQT s o t) (F0 m 0 ls [])) : MetFree l y (headSpec (Cond.code y cc maxL ret :: wA) rm) (fm_Pc D clsA (tysA cs) Z μ sz av) (fun _ _ _ _ _ => True) (fun _ st o t => xQT st o t) := by
  refine MetFree.of_bodyS (code := cc) (maxLocals := maxL) (ret := ret) hy ?_ ?_
  · intro args s m h hn
    obtain ⟨meth, c, h1, h2, h3, h4, h5, h6, -, -⟩ := Cond.code_spec hn (atoms_spec (ws := Cond.code y cc maxL ret :: wA) h _ List.mem_cons_self)
    exact ⟨meth, c, h1, h2, h3, h4, h5, h6⟩
  · intro p e s m args below meth c s₁ B hml hv _
    obtain ⟨rfl, hsz, hM, hK, hZ⟩ := hv
    subst hsz
    have hl := lv_entry av (n := maxL) hlen
    have hh0 : s₁.heap = s.heap := by rw [B.state]; rfl
    have hts := atoms_spec (ws := Cond.code y cc maxL ret :: wA) B.pre
    obtain ⟨t, a1, o, b1, b2, b3⟩ := body p e s m below meth c ⟨B.exec, B.bytes, hml, findClass_of_methodNamed B.named, fun w h => hts w (List.mem_cons_of_mem _ h)⟩ B.returns B.notSynchronized (B.noHandlers (hts _ List.mem_cons_self)) rfl ⟨hM.own, va_S.rf⟩ hK hZ (fun _ h => Or.inr h) _ hl s₁ hh0 (Stand.of_body B)
    rw [lg_entry_eq]
    exact ⟨t, o, a1, b1, b2, b3⟩
