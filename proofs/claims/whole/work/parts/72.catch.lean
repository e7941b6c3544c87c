-- A CALL THAT THROWS, AND ITS CATCH (own work)
theorem same_all {s t : State} {k n : Nat} (h : s.sameButNew t [] k n) : s.heap.size ≤ t.heap.size ∧ ∀ a, a < s.heap.size → t.heap[a]? = s.heap[a]? := by
  obtain ⟨-, h2, -, -, -, h6⟩ := h
  refine ⟨h2, fun a ha => ?_⟩
  obtain ⟨c', hc', he, hs, hi⟩ := h6 a s.heap[a] (Array.getElem?_eq_getElem ha)
  rw [hc', Array.getElem?_eq_getElem ha]
  have : c'.slots = s.heap[a].slots := Array.ext_getElem? (fun i => hi i List.not_mem_nil)
  rw [he, this]
theorem fm_W.grow {D : va_G} {cl : List vw_C} {A : Nat → Prop} {H0 H H1 : Heap} {μ : fm_Mu} {locs : List Loc} (hw : fm_W D cl A H0 μ H locs) (h1 : H.size ≤ H1.size) (h2 : ∀ a, a < H.size → H1[a]? = H[a]?) : fm_W D cl A H0 μ H1 locs := by
  obtain ⟨⟨ws, w1, w2, hP, hD⟩, s1, s2, s3⟩ := hw
  refine ⟨⟨ws, w1, w2, fun k q hk => (hP k q hk).kept (h2 _ (hP k q hk).lt), hD⟩, Nat.le_trans s1 h1, fun q hq hA => ?_, s3⟩
  rw [h2 q (by omega), s2 q hq hA]
section ClCatch
variable {p : Program} {l : Launch} {e : Env} {R : Room} {s : State} {m : MethodId} {args : Array Value} {below : List Frame} {meth : Method} {c : Code} {H H0 : Heap} {locs : List Loc} {cells slots : Nat} {Q : State → Prop} {cc : ByteArray} {pc nL : Nat} {ls : Array Slot} {rest : List Value} {own : String} {D : va_G} {cl : List vw_C} {A : Nat → Prop} {μ : fm_Mu}
/-- a handler of the method's own, its class met here for the first time or not -/
theorem cl_handler {T : State} (X : Stand p l e R s m args below meth c T locs cells slots) {g : JFrame} (hg : g.method = m) {own name : String} (ho : s.vm.findClass own = some m.cls) {x : ExceptionTableEntry} (hexc : c.exceptionTable.toList = [x]) (hcov : covers x g.pc = true) (h0 : x.catchType ≠ 0) (hlink : (Cond.classLink own x.catchType name).before args s = true) {cT : ClassId} (hcT : s.vm.findClass name = some cT) {a : Addr} {cell : Cell} (hcell : T.heap[a]? = some cell) (hobj : cell.vm.isStatics = false) (hfit : s.vm.assignable cell.cls cT = true) :
    ∃ vm', Stand p l e R s m args below meth c (T.setVm vm') locs cells slots ∧ ∀ t, Steps p.tables e below ((T.setVm vm').setTop { g with pc := x.handlerPc, stack := [.ref a] }) t → Steps p.tables e below ((T.setTop g).pushFrame (.throwing a)) t := by
  subst hg
  obtain ⟨c', hc', hcl⟩ := Cond.classLink_spec ho hlink e.platform (by rw [X.admits.platform])
  cases hcT.symm.trans hc'
  obtain ⟨dk, _, _, kt, hd, _, _, _, _, hkt, _, hopen⟩ := hcl.here
  have hal := X.warmed.alike
  obtain ⟨kt2, hkt2, -⟩ := hal.2.2 _ _ hkt
  have hfit2 : T.vm.assignable cell.cls cT = true := by rw [hal.assignable]; exact hfit
  obtain ⟨kc2, hkc2⟩ := Vm.classAt_of_assignable hfit2 ⟨kt2, hkt2⟩
  generalize hvm : T.vm.noted g.method.cls x.catchType (.cls cT) = vm'
  have hal2 : T.vm.Alike vm' := by rw [← hvm]; exact (Vm.Alike.refl T.vm).noted _ _ _
  obtain ⟨k1, hk1, -⟩ := hal2.2.2 _ _ hkc2
  obtain ⟨k2, hk2, -⟩ := hal2.2.2 _ _ hkt2
  have hfit3 : vm'.assignable cell.cls cT = true := by rw [hal2.assignable]; exact hfit2
  refine ⟨vm', X.noted (by rw [← hvm]; exact X.warmed.noted hd hopen (State.rightAt_cls hcl)), fun t ht => ?_⟩
  obtain ⟨hgo, hwi⟩ := X.here.throwing a
  refine Steps.head hgo hwi ?_
  rw [stepThread_throwing (frames_entered X.here.top _)]
  have hfind : ∀ (Q : Handler → Pre) (E : CtlPost) (d : Bool) (acts : List Action), Sem.wp (findHandler g a) Q E e d acts ((T.setTop g).pushFrame (.throwing a)) ↔ Q (.found x.handlerPc) d acts (((T.setTop g).pushFrame (.throwing a)).setVm vm') := by
    intro Q E d acts
    obtain ⟨ha, hb⟩ := (resolveClass_links e.toSetting (X.warmed.classLinks hcl)).op (op := VmOp.resolveClass g.method.cls x.catchType) rfl
    rw [hvm] at hb
    simp only [covers] at hcov
    have hsv : ((T.setTop g).pushFrame (.throwing a)).vm = T.vm := Stand.throwing_vm T g a
    have hsh : ((T.setTop g).pushFrame (.throwing a)).heap[a]? = some cell := by rw [Stand.throwing_heap]; exact hcell
    generalize (T.setTop g).pushFrame (.throwing a) = st at hsv hsh ⊢
    rw [W.findHandler_eq (s := st) (meth := meth) (code := c) (by rw [hsv]; exact X.method') X.code, hexc]
    rw [← hsv] at ha hb
    have hc9 := VmOp.lands_eq (op := VmOp.resolveClass g.method.cls x.catchType) (e := e) (s := st) hb (by rw [hsv]; exact Nat.le_of_eq hal2.2.1)
    simp [findHandler.go, hcov, h0, ha, hc9, hsh, VmData.ne_statics_of hobj, hk1, hk2, hfit3, VmOp.dirties, VmOp.acts]
  have hres : (stepThrowing e ((T.setTop g).pushFrame (.throwing a)) a (.java g :: T.frames.tail)).1 = (((T.setTop g).pushFrame (.throwing a)).setVm vm').setFrames (.java { g with pc := x.handlerPc, stack := [.ref a] } :: T.frames.tail) := by
    simp only [stepThrowing, searchFrame, vmDo]
    generalize hr : Sem.go _ e false [] ((T.setTop g).pushFrame (.throwing a)) = res
    obtain ⟨as, rfl, -⟩ := Sem.eq_ok_of hr (a := Handler.found x.handlerPc) (s' := ((T.setTop g).pushFrame (.throwing a)).setVm vm') (acts' := []) (by simp [hfind _ _ _ _])
    rfl
  rw [hres]
  obtain ⟨g₀, hfe⟩ := X.frames_eq
  have hfe2 : (T.setVm vm').frames = .java g₀ :: below := hfe
  rw [State.setTop_of_frames _ hfe2] at ht
  rw [hfe, List.tail_cons, State.pushFrame, State.setTop_of_frames _ hfe, State.setFrames_setFrames]
  show Steps p.tables e below (((T.setVm vm').setFrames _).setFrames _) t
  rw [State.setFrames_setFrames]
  exact ht
theorem cl_caught {C : String} {index n maxL : Nat} {y : MethodName} {bytes : ByteArray} {ret : Option FieldType} {ws : List Cond} {rm : Room} {b : Addr} {As : List Value} {Pc : Array Value → State → Prop} (S : CallFix p m c cc nL s args wA own) (hM : MetFree l y (headSpec ws rm) Pc (fun _ _ _ _ _ => True) (fun _ st o t => xQT st o t)) (cw : CallW R s args own C index y bytes maxL ret ws rm 1 6 n) (hp : PreV s H C b Pc As) (hw : fm_W D cl A H0 μ H locs)
    (hn : As.length = n) (hls : ls.size = nL) (hW : (rest.map fun v => v.category).sum ≤ 8) (hdg : decode cc pc = .ok (.invokevirtual index, 3)) (hf : cells + 1 ≤ R.cells ∧ slots + 6 ≤ R.slots)
    {x : ExceptionTableEntry} (hexc : c.exceptionTable.toList = [x]) (hcov : covers x pc = true) (h0 : x.catchType ≠ 0) (hcl : (Cond.classLink own x.catchType xAE).before args s = true)
    (kk : ∀ (a : Nat) (H1 : Heap), fm_W D cl A H0 μ H1 locs → W p l e R s m args below meth c H1 locs (cells + 1) (slots + 6) Q (F0 m x.handlerPc ls [.ref a])) : W p l e R s m args below meth c H locs cells slots Q (F0 m pc ls (As.reverse ++ .ref b :: rest)) := by
  intro T hT X
  obtain ⟨⟨hrc, hrs, hfr, hlo, hws, hcw, hcode, hini, hy, hlen, hl⟩, hin, hse⟩ := cw
  obtain ⟨hx, hb, hml, ho, -⟩ := S
  obtain ⟨hbl, ⟨cellB, hcB, hoB, hclB⟩, hPc⟩ := hp
  obtain ⟨mk, methM, hnamed, hmethM, hstM, habM⟩ := Cond.instanceMethod_spec hin
  obtain ⟨methM', cM, hmethM', hcodeM', -, hlocalsM, -, -, -, hsigM⟩ := Cond.code_spec hnamed hcode
  cases hmethM.symm.trans hmethM'
  obtain ⟨c2, r2, m2, q1, q2, q3, q4, kP, hkP, hkPi⟩ := Cond.selects_spec hse
  cases hclB.symm.trans q1
  cases (State.methodFound?_of_named hnamed hy).symm.trans q2
  cases hnamed.symm.trans q3
  have hselP : selectMethod e.platform s.vm cellB.cls mk = .method mk := by rw [Launch.admits_selectMethod X.admits]; exact q4
  have hinitP : kP.init = .initialized := Cond.initialized_spec (findClass_of_methodNamed hnamed) hkP hini
  obtain ⟨vm₁, X₁, hstep₁⟩ := X.invokevirtual hx ho hl hnamed hmethM hstM hkP hkPi hy (a := b) (cell := cellB) (by rw [hT]; exact hcB)
    (fun z h => by rw [h] at hoB; cases hoB) hselP hmethM habM hkP hkPi (g := F0 m pc ls (As.reverse ++ .ref b :: rest)) rfl (argsL := As) (rest := rest) (hn.trans (hlen _ hsigM)) rfl (by rw [hb]; exact hdg)
  have hW₁ : s.WarmedH (T.setVm vm₁).vm := X₁.warmed
  have hAt : At (T.setVm vm₁) (F0 m pc ls rest).method c below := X₁.here
  obtain ⟨kP₁, hkP₁, heP₁⟩ := hW₁.alike.2.2 _ _ hkP
  have happ : (headSpec ws rm).appliesLoose y e.platform ((T.setVm vm₁).calling (F0 m pc ls rest) mk (Value.ref b :: As).toArray) = true :=
    Spec.appliesLoose_calling (g := F0 m pc ls rest) hAt (by rw [hb]; exact hdg)
      (show (T.setVm vm₁).methodNamed? y = some mk by
        have q : (s.setVm (T.setVm vm₁).vm).methodNamed? y = some mk := by rw [State.methodNamed?_setVm hW₁.alike]; exact hnamed
        exact q)
      hkP₁ (by rw [heP₁]; exact hinitP)
      (X₁.room_calling (g := F0 m pc ls rest) (R' := rm) (by show ls.size = _; rw [hls, hml]) (show (T.setVm vm₁).vm.method? mk = some methM by rw [hW₁.alike.method?]; exact hmethM) hcodeM' hfr (by rw [hlocalsM]; show 2 * 0 + (rest.map fun v => v.category).sum + (maxL + 11) + rm.locals ≤ R.locals; omega) (by rw [hrc]; exact hf.1) (by rw [hrs]; exact hf.2))
      (atoms_intro fun w hw => hws w hw _ _ hW₁)
  obtain ⟨mid, hmid⟩ := hAt.above
  have hfr2 : ((T.setVm vm₁).setTop (F0 m pc ls rest)).frames = (.java (F0 m pc ls rest) :: mid) ++ below := by rw [State.frames_setTop' (F0 m pc ls rest) hAt.top, hmid]; rfl
  obtain ⟨o, s₂, hsteps, -, hend, hq⟩ := Steps.callFree hM p X.admits X.cas X.clock (acts := []) hfr2 happ (hbl _ _ _ _ (hPc (T.setVm vm₁) hT hW₁)) trivial
  rw [State.frames_setTop' (F0 m pc ls rest) hAt.top] at hend
  obtain ⟨ad, ce, rfl, hce, hvm, hfc, has, hW2, hsame⟩ := hq
  obtain ⟨g₀, hfe⟩ := X₁.frames_eq
  rw [hfe] at hend
  obtain ⟨T', X', hW', hB, ht⟩ := X₁.outOfThrown (g := F0 m pc ls rest) rfl hend hW2 hsame
  rw [List.append_nil] at X'
  have hhp : s₂.heap = T'.heap := by rw [ht, Stand.throwing_heap]
  have hfc' : s.vm.findClass xAE = some ce.cls := by
    have q : (T.setVm vm₁).vm.findClass xAE = some ce.cls := hfc
    rwa [hW₁.alike.findClass] at q
  have has' : s.vm.assignable ce.cls ce.cls = true := by
    have q : (T.setVm vm₁).vm.assignable ce.cls ce.cls = true := has
    rwa [hW₁.alike.assignable] at q
  obtain ⟨vm', X'', st''⟩ := cl_handler X' (g := F0 m pc ls rest) rfl ho hexc hcov h0 hcl hfc' (a := ad) (cell := ce) (by rw [← hhp]; exact hce) (by rw [hvm]; rfl) has'
  obtain ⟨g1, g2⟩ := same_all hB
  obtain ⟨tt, a1, b1⟩ := kk ad T'.heap (hw.grow (by rw [← hT]; exact g1) (fun a ha => by
    have := g2 a (by show a < T.heap.size; rw [hT]; exact ha)
    rw [← hT]; exact this)) (T'.setVm vm') rfl X''
  refine ⟨tt, hstep₁ _ (fun acts => ?_), b1⟩
  rw [doInvoke_state]
  refine hsteps.trans ?_
  rw [ht]
  exact st'' tt a1
end ClCatch
