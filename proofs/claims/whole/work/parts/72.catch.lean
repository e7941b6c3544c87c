-- A CALL THAT THROWS, AND ITS CATCH (own work; the library's caughtLink and outOfThrown do the steps)
theorem same_all {s t : State} {k n : Nat} (h : s.sameButNew t [] k n) : s.heap.size ≤ t.heap.size ∧ ∀ a, a < s.heap.size → t.heap[a]? = s.heap[a]? := by
  obtain ⟨-, h2, -, -, -, h6⟩ := h
  refine ⟨h2, fun a ha => ?_⟩
  obtain ⟨c', hc', he, hs, hi⟩ := h6 a s.heap[a] (Array.getElem?_eq_getElem ha)
  rw [hc', Array.getElem?_eq_getElem ha]
  have : c'.slots = s.heap[a].slots := Array.ext_getElem? (fun i => hi i List.not_mem_nil)
  rw [he, this]
theorem fm_W.grow {D : va_G} {cl : List vw_C} {A : Nat → Prop} {H0 H H1 : Heap} {μ : fm_Mu} {locs : List Loc} (hw : fm_W D cl A H0 μ H locs) (h1 : H.size ≤ H1.size) (h2 : ∀ a, a < H.size → H1[a]? = H[a]?) : fm_W D cl A H0 μ H1 locs := by
  obtain ⟨⟨ws, w1, w2, hP, hD⟩, s1, s2, s3⟩ := hw
  refine ⟨⟨ws, w1, w2, fun k q hk => (hP k q hk).kept (h2 _ (hP k q hk).lt), hD⟩, Nat.le_trans s1 h1, fun q hq hA => ?_, s3⟩
  rw [h2 q (by omega), s2 q hq hA]
section ClCatch
variable {p : Program} {l : Launch} {e : Env} {R : Room} {s : State} {m : MethodId} {args : Array Value} {below : List Frame} {meth : Method} {c : Code} {H H0 : Heap} {locs : List Loc} {cells slots : Nat} {Q : State → Prop} {cc : ByteArray} {pc nL : Nat} {ls : Array Slot} {rest : List Value} {own : String} {D : va_G} {cl : List vw_C} {A : Nat → Prop} {μ : fm_Mu}
theorem cl_caught {C : String} {index n maxL : Nat} {y : MethodName} {bytes : ByteArray} {ret : Option FieldType} {ws : List Cond} {rm : Room} {b : Addr} {As : List Value} {Pc : Array Value → State → Prop} (S : CallFix p m c cc nL s args wA own) (hM : MetFree l y (headSpec ws rm) Pc (fun _ _ _ _ _ => True) (fun _ st o t => xQT st o t)) (cw : CallW R s args own C index y bytes maxL ret ws rm 1 6 n) (hp : PreV s H C b Pc As) (hw : fm_W D cl A H0 μ H locs)
    (hn : As.length = n) (hls : ls.size = nL) (hW : (rest.map fun v => v.category).sum ≤ 8) (hdg : decode cc pc = .ok (.invokevirtual index, 3)) (hf : cells + 1 ≤ R.cells ∧ slots + 6 ≤ R.slots)
    {x : ExceptionTableEntry} (hexc : c.exceptionTable.toList = [x]) (hcov : covers x pc = true) (h0 : x.catchType ≠ 0) (hcl : (Cond.classLink own x.catchType xAE).before args s = true)
    (kk : ∀ (a : Nat) (H1 : Heap), fm_W D cl A H0 μ H1 locs → W p l e R s m args below meth c H1 locs (cells + 1) (slots + 6) Q (F0 m x.handlerPc ls [.ref a])) : W p l e R s m args below meth c H locs cells slots Q (F0 m pc ls (As.reverse ++ .ref b :: rest)) := by
  intro T hT X
  obtain ⟨⟨hrc, hrs, hfr, hlo, hws, hcw, hcode, hini, hy, hlen, hl⟩, hin, hse⟩ := cw
  obtain ⟨hx, hb, hml, ho, -⟩ := S
  obtain ⟨hbl, ⟨cellB, hcB, hoB, hclB⟩, hPc⟩ := hp
  obtain ⟨mk, methM, hnamed, hmethM, hstM, habM⟩ := Cond.instanceMethod_spec hin
  obtain ⟨methM', cM, hmethM', hcodeM', -, hlocalsM, -, -, -, hsigM⟩ := Cond.code_spec hnamed hcode
  cases hmethM.symm.trans hmethM'
  obtain ⟨c2, r2, m2, q1, q2, q3, q4, kP, hkP, hkPi⟩ := Cond.selects_spec hse
  cases hclB.symm.trans q1
  cases (State.methodFound?_of_named hnamed hy).symm.trans q2
  cases hnamed.symm.trans q3
  have hselP : selectMethod e.platform s.vm cellB.cls mk = .method mk := by rw [Launch.admits_selectMethod X.admits]; exact q4
  have hinitP : kP.init = .initialized := Cond.initialized_spec (findClass_of_methodNamed hnamed) hkP hini
  obtain ⟨vm₁, X₁, hstep₁⟩ := X.invokevirtual hx ho hl hnamed hmethM hstM hkP hkPi hy (a := b) (cell := cellB) (by rw [hT]; exact hcB)
    (fun z h => by rw [h] at hoB; cases hoB) hselP hmethM habM hkP hkPi (g := F0 m pc ls (As.reverse ++ .ref b :: rest)) rfl (argsL := As) (rest := rest) (hn.trans (hlen _ hsigM)) rfl (by rw [hb]; exact hdg)
  have hW₁ : s.WarmedH (T.setVm vm₁).vm := X₁.warmed
  have hAt : At (T.setVm vm₁) (F0 m pc ls rest).method c below := X₁.here
  obtain ⟨kP₁, hkP₁, heP₁⟩ := hW₁.alike.2.2 _ _ hkP
  have happ : (headSpec ws rm).appliesLoose y e.platform ((T.setVm vm₁).calling (F0 m pc ls rest) mk (Value.ref b :: As).toArray) = true :=
    Spec.appliesLoose_calling (g := F0 m pc ls rest) hAt (by rw [hb]; exact hdg)
      (show (T.setVm vm₁).methodNamed? y = some mk by
        have q : (s.setVm (T.setVm vm₁).vm).methodNamed? y = some mk := by rw [State.methodNamed?_setVm hW₁.alike]; exact hnamed
        exact q)
      hkP₁ (by rw [heP₁]; exact hinitP)
      (X₁.room_calling (g := F0 m pc ls rest) (R' := rm) (by show ls.size = _; rw [hls, hml]) (show (T.setVm vm₁).vm.method? mk = some methM by rw [hW₁.alike.method?]; exact hmethM) hcodeM' hfr (by rw [hlocalsM]; show 2 * 0 + (rest.map fun v => v.category).sum + (maxL + 11) + rm.locals ≤ R.locals; omega) (by rw [hrc]; exact hf.1) (by rw [hrs]; exact hf.2))
      (atoms_intro fun w hw => hws w hw _ _ hW₁)
  obtain ⟨mid, hmid⟩ := hAt.above
  have hfr2 : ((T.setVm vm₁).setTop (F0 m pc ls rest)).frames = (.java (F0 m pc ls rest) :: mid) ++ below := by rw [State.frames_setTop' (F0 m pc ls rest) hAt.top, hmid]; rfl
  obtain ⟨o, s₂, hsteps, -, hend, hq⟩ := Steps.callFree hM p X.admits X.cas X.clock (acts := []) hfr2 happ (hbl _ _ _ _ (hPc (T.setVm vm₁) hT hW₁)) trivial
  rw [State.frames_setTop' (F0 m pc ls rest) hAt.top] at hend
  obtain ⟨ad, ce, rfl, hce, hvm, hfc, has, hW2, hsame⟩ := hq
  obtain ⟨g₀, hfe⟩ := X₁.frames_eq
  rw [hfe] at hend
  obtain ⟨T', X', hW', hB, ht⟩ := X₁.outOfThrown (g := F0 m pc ls rest) rfl hend hW2 hsame
  rw [List.append_nil] at X'
  have hhp : s₂.heap = T'.heap := by rw [ht, Stand.throwing_heap]
  have hfc' : s.vm.findClass xAE = some ce.cls := by
    have q : (T.setVm vm₁).vm.findClass xAE = some ce.cls := hfc
    rwa [hW₁.alike.findClass] at q
  have has' : s.vm.assignable ce.cls ce.cls = true := by
    have q : (T.setVm vm₁).vm.assignable ce.cls ce.cls = true := has
    rwa [hW₁.alike.assignable] at q
  obtain ⟨vm', X'', st''⟩ := X'.caughtLink ad (g := F0 m pc ls rest) rfl ho [] x [] (by rw [hexc]; rfl) (fun _ h => absurd h List.not_mem_nil) hcov h0 hcl hfc' (cell := ce) (by rw [← hhp]; exact hce) (by rw [hvm]; rfl) has'
  obtain ⟨g1, g2⟩ := same_all hB
  obtain ⟨tt, a1, b1⟩ := kk ad T'.heap (hw.grow (by rw [← hT]; exact g1) (fun a ha => by
    have := g2 a (by show a < T.heap.size; rw [hT]; exact ha)
    rw [← hT]; exact this)) (T'.setVm vm') rfl X''
  refine ⟨tt, hstep₁ _ (fun acts => ?_), b1⟩
  rw [doInvoke_state]
  refine hsteps.trans ?_
  rw [ht, X'.pushThrowing_eq]
  exact st'' tt a1
end ClCatch
