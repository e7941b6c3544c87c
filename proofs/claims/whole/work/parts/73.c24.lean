abbrev c_Lw_exact : ByteArray := method_3_code
theorem d_Lw_exact_0 : decode c_Lw_exact 0 = .ok (.aload_n 3, 1) := by decide +kernel
theorem d_Lw_exact_1 : decode c_Lw_exact 1 = .ok (.iconst 0, 1) := by decide +kernel
theorem d_Lw_exact_2 : decode c_Lw_exact 2 = .ok (.aload_n 0, 1) := by decide +kernel
theorem d_Lw_exact_3 : decode c_Lw_exact 3 = .ok (.iload_n 1, 1) := by decide +kernel
theorem d_Lw_exact_4 : decode c_Lw_exact 4 = .ok (.iload_n 2, 1) := by decide +kernel
theorem d_Lw_exact_5 : decode c_Lw_exact 5 = .ok (.invokevirtual 7, 3) := by decide +kernel
theorem d_Lw_exact_8 : decode c_Lw_exact 8 = .ok (.lastore, 1) := by decide +kernel
theorem d_Lw_exact_9 : decode c_Lw_exact 9 = .ok (.goto 7, 3) := by decide +kernel
theorem d_Lw_exact_12 : decode c_Lw_exact 12 = .ok (.astore 4, 2) := by decide +kernel
theorem d_Lw_exact_14 : decode c_Lw_exact 14 = .ok (.iconst 1, 1) := by decide +kernel
theorem d_Lw_exact_15 : decode c_Lw_exact 15 = .ok (.ireturn, 1) := by decide +kernel
theorem d_Lw_exact_16 : decode c_Lw_exact 16 = .ok (.iconst 0, 1) := by decide +kernel
theorem d_Lw_exact_17 : decode c_Lw_exact 17 = .ok (.ireturn, 1) := by decide +kernel
abbrev xHH : List (Nat × Nat × Nat × Nat) := [((0 : Nat), (9 : Nat), (12 : Nat), (13 : Nat))]
theorem cl_ofW {l : Launch} {y : MethodName} {cc : ByteArray} {maxL sz mc ms : Nat} {ret : Option FieldType} {hh : List (Nat × Nat × Nat × Nat)} {rm : Room} {D : va_G} {cs : Nat → ClassId} {μ : fm_Mu} {Z : (Nat → Prop) → State → Heap → Prop} {Qc : Array Value → State → Outcome → State → Prop} {free : Addr → Prop} {av : List Value} (hy : plainName y.cls = true) (hlen : (lg_sl av).length ≤ maxL)
    (body : ∀ (p : Program) (e : Env) (s : State) (m : MethodId) (below : List Frame) (meth : Method) (c : Code), CallFix p m c cc maxL s av.toArray wA y.cls → meth.sig.returnType = ret → meth.locks = false → c.exceptionTable.toList.map (fun h => (h.startPc, h.endPc, h.handlerPc, h.catchType)) = hh → s.heap.size = sz → fm_W D clsA (fm_A μ s.heap.size) s.heap μ s.heap [] → va_K D clsA (tysA cs) s → Z (fm_A μ s.heap.size) s s.heap → (∀ q, s.heap.size ≤ q → fm_A μ s.heap.size q) → ∀ ls : Array Slot, lv_has ls maxL (lv_args 0 av) → W p l e rm s m av.toArray below meth c s.heap [] 0 0 (MQ below Qc av.toArray s mc ms free) (F0 m 0 ls [])) : Met l y (Cond.codeWith y cc maxL ret hh :: wA) rm (fm_Pc D clsA (tysA cs) Z μ sz av) Qc mc ms free := by
  refine va_MetW (cc := cc) (maxL := maxL) (ret := ret) (hh := hh) hy rfl ?_
  intro p e s m args below meth c s₁ B hml hv
  obtain ⟨rfl, hsz, hM, hK, hZ⟩ := hv
  subst hsz
  have hl := lv_entry av (n := maxL) hlen
  have hts := atoms_spec (ws := Cond.codeWith y cc maxL ret hh :: wA) B.pre
  obtain ⟨m9, meth9, c9, hn9, h1, h2, h3, h4, h5, -⟩ := Cond.codeWith_spec (hts _ List.mem_cons_self)
  cases B.named.symm.trans hn9
  cases B.method.symm.trans h1
  cases (Stand.of_body B).code.symm.trans h2
  rw [lg_entry_eq]
  exact body p e s m below meth c ⟨B.exec, B.bytes, hml, findClass_of_methodNamed B.named, fun w h => hts w (List.mem_cons_of_mem _ h)⟩ B.returns B.notSynchronized h5 rfl ⟨hM.own, va_S.rf⟩ hK hZ (fun _ h => Or.inr h) _ hl
section ClRunSW
variable {p : Program} {l : Launch} {e : Env} {R : Room} {s : State} {m : MethodId} {args : Array Value} {below : List Frame} {meth : Method} {c : Code} {H : Heap} {locs : List Loc} {cells slots : Nat} {cc : ByteArray} {nL : Nat} {own : String}
theorem cl_runSW {y : MethodName} {bytes : ByteArray} {maxL mc ms n index : Nat} {ret : Option FieldType} {hh : List (Nat × Nat × Nat × Nat)} {rm : Room} {Pc : Array Value → State → Prop} {Qc : Array Value → State → Outcome → State → Prop} {free : Addr → Prop} {As rest : List Value} {g : JFrame} (S : CallFix p m c cc nL s args wA own) (hM : Met l y (Cond.codeWith y bytes maxL ret hh :: wA) rm Pc Qc mc ms free)
    (hcw : Cond.codeWith y bytes maxL ret hh ∈ wA) (hl : Cond.methodLink own index y ∈ wA) (hst : Cond.static y ∈ wA) (hini : Cond.initialized y.cls ∈ wA) (hrc : rm.cells = mc) (hrs : rm.slots = ms) (hR : rm.frames + 1 ≤ R.frames ∧ 8 + (maxL + 11) + rm.locals ≤ R.locals) (hy : y.cls ≠ "java/lang/invoke/MethodHandle" ∧ y.cls ≠ "java/lang/invoke/VarHandle" ∧ (parseMethodDescriptor y.desc).map (fun d => d.parameters.length) = some n) (hp : PreS s H Pc As)
    (hg : g.method = m) (hn : As.length = n) (hsize : g.locals.size = nL) (hstack : g.stack = As.reverse ++ rest) (hW : 2 * g.monitorRoom + (rest.map fun v => v.category).sum ≤ 8) (hdg : decode cc g.pc = .ok (.invokestatic index, 3)) (hf : cells + mc ≤ R.cells ∧ slots + ms ≤ R.slots) :
    va_Run p l e R s m args below meth c H locs cells slots mc ms g rest (Qc As.toArray) free := by
  obtain ⟨hx, hb, hml, ho, hts⟩ := S
  have hws : ∀ w ∈ (Cond.codeWith y bytes maxL ret hh :: wA), ∀ (a' : Array Value) (U : State), s.WarmedH U.vm → w.before a' U = true := fun w hw a' U hW => by
    have hw' : w ∈ wA := by rcases List.mem_cons.mp hw with r | r; rw [r]; exact hcw; exact r
    exact word_at hW (wA_good hw') (hts w hw')
  have hK : Back l R p e below s args y 3 8 (PreOf R mc ms Pc) (PostOf Qc mc ms free) := va_backW (bytes := bytes) (maxL := maxL) (ret := ret) (hh := hh) hM hp.1 hrc hrs hR.1 hR.2 hws List.mem_cons_self (fun a' U hW => word_at hW (wA_good hini) (hts _ hini))
  intro T hT X
  obtain ⟨mk, methM, cM, hnamed, hmethM, -, -, -, -, -, -, hsigM⟩ := Cond.codeWith_spec (hts _ hcw)
  have hstatic : methM.isStatic = true := Cond.static_spec hnamed hmethM (hts _ hst)
  obtain ⟨kP, hkP, -⟩ := className_of_methodNamed hnamed
  have hinitP : kP.init = .initialized := Cond.initialized_spec (findClass_of_methodNamed hnamed) hkP (hts _ hini)
  have hlen : As.length = methM.sig.parameters.length := by
    have h1 := hy.2.2
    rw [hsigM] at h1
    rw [hn]
    exact (Option.some.inj h1).symm
  obtain ⟨vm₁, X₁, hstep₁⟩ := X.invokestatic hx ho (hts _ hl) hnamed hmethM hstatic hkP hinitP ⟨hy.1, hy.2.1⟩ (g := g) hg (argsL := As) (rest := rest) hlen hstack (by rw [hb]; exact hdg)
  obtain ⟨v, ⟨U', l2, c2, s2⟩, X', ⟨g', mk', t, L, e1, e2, hq, h1, hL, h2, h3⟩, hsteps⟩ := hK m meth c ⟨T.setVm vm₁, locs, cells, slots⟩ { g with stack := rest } (.invokestatic index) mk As.toArray X₁ hg (hsize.trans hml.symm) (by rw [hb]; exact hdg) hW (X₁.named hnamed) ⟨hf.1, hf.2, hp.2 (T.setVm vm₁) hT X₁.warmed⟩
  dsimp only [Pt.U, Pt.locs, Pt.cells, Pt.slots] at X' e1 e2 h1 h2 h3 hsteps
  subst h1; subst h2; subst h3
  exact ⟨v, (T.setVm vm₁).calling g' mk' As.toArray, t, U', L, hT, X', hL, e1, e2, hq, fun target h => hstep₁ _ fun acts => by rw [doInvoke_state]; exact hsteps.trans h⟩
end ClRunSW
theorem sp_ex01 (σ : Sg) (n side : Int) : (sp_exact σ n side).1 = 0 ∨ (sp_exact σ n side).1 = 1 := by
  unfold sp_exact
  repeat' split
  all_goals first | exact Or.inl rfl | exact Or.inr rfl

set_option maxHeartbeats 4000000 in
set_option maxRecDepth 100000 in
/-- the law's exact -/
theorem t_Lw_exact (l : Launch) (D : va_G) (cs : Nat → ClassId) (Z : (Nat → Prop) → State → Heap → Prop) (hZo : fm_Zok Z) (tT : Nat) (hZc : ∀ A U H, Z A U H → Zc tT A U H) (u0 sen : Value) (qS : Nat) (hZx : ∀ A U H, Z A U H → Zx u0 sen qS A U H) (hfl : l.flags = pinnedFlags ++ [noTraceFlag]) (μ : fm_Mu) (sz : Nat) (x kc kn kr wd lf : Nat) (da dl ra : Nat → Nat) (σ : Sg) (n side : Int) (ot : Nat) (O : Int → Int) (hS : afS cs μ x kc kn kr wd lf da dl ra σ) (hin : inI n) (his : inI side) (c_ot : μ ot = some (lE cs 1 O)) : Met l y_Lw_exact (Cond.codeWith y_Lw_exact c_Lw_exact 5 (some .int) xHH :: wA) { frames := 7, cells := 1, slots := 6, locals := 124 } (fm_Pc D clsA (tysA cs) Z μ sz [.ref x, .int (iN n), .int (iN side), .ref ot]) (fm_Qi D clsA (tysA cs) μ sz (fun z μ' => ((sp_exact σ n side).1 = 0 ∧ z = 0 ∧ ∃ O' : Int → Int, μ' ot = some (lE cs 1 O') ∧ O' 0 = (sp_exact σ n side).2 ∧ fm_O μ μ' [ot]) ∨ ((sp_exact σ n side).1 = 1 ∧ z = 1 ∧ μ' = μ))) 1 6 (fm_A μ sz) := by
  refine cl_ofW (by decide +kernel) (Nat.le_of_ble_eq_true rfl) (fun p e s m below meth c S hr hlocks hexc hsz hw hK hZ hA ls hl => ?_)
  subst hsz
  replace S : CallFix p m c c_Lw_exact 5 s _ wA "ArithmeticFormsLaw" := S
  obtain ⟨hx, hb, hml, hown, hts⟩ := id S
  have hl : lv_has ls 5 [(0, .ref x), (1, .int (iN n)), (2, .int (iN side)), (3, .ref ot)] := hl
  obtain ⟨xe, hxe, hx1, hx2, hx3, hx4⟩ : ∃ xe : ExceptionTableEntry, c.exceptionTable.toList = [xe] ∧ xe.startPc = 0 ∧ xe.endPc = 9 ∧ xe.handlerPc = 12 ∧ xe.catchType = 13 := by
    match h : c.exceptionTable.toList with
    | [] => rw [h] at hexc; cases hexc
    | [xe] =>
      rw [h] at hexc
      simp only [List.map_cons, List.map_nil, List.cons.injEq, Prod.mk.injEq, and_true] at hexc
      exact ⟨xe, rfl, hexc.1, hexc.2.1, hexc.2.2.1, hexc.2.2.2⟩
    | a :: b :: r => rw [h] at hexc; simp at hexc
  refine lv_aload_n hx hb d_Lw_exact_0 rfl (lv_at hl 3 rfl) ?_
  refine fm_iconst S d_Lw_exact_1 ?_
  refine lv_aload_n hx hb d_Lw_exact_2 rfl (lv_at hl 0 rfl) ?_
  refine lv_iload_n hx hb d_Lw_exact_3 rfl (lv_at hl 1 rfl) ?_
  refine lv_iload_n hx hb d_Lw_exact_4 rfl (lv_at hl 2 rfl) ?_
  rcases sp_ex01 σ n side with h0 | h1
  · refine fm_callSl (va_runV (As := [.int (iN n), .int (iN side)]) (rest := [.int (iN 0), .ref ot]) S (t_AF_exact l D cs Z hZo tT hZc μ _ x kc kn kr wd lf da dl ra σ n side hS hin his h0) (cwV 2 hts (gV k387 k388 k389 k1 k390) rfl rfl rfl (by decide +kernel) (by decide)) (fm_preV hZo hK hw hZ hA hS.cx rfl _) rfl rfl hl.1 rfl (lv_room (Nat.le_of_ble_eq_true rfl)) d_Lw_exact_5 ⟨Nat.le_of_ble_eq_true rfl, Nat.le_of_ble_eq_true rfl⟩) (fun z hz => ?_)
    refine cl_last S hK hw c_ot (by decide) d_Lw_exact_8 (fun F1 μ1 H locs eF1 hw hq hO => ?_)
    refine lv_goto (tgt := 16) hx hb d_Lw_exact_9 rfl ?_
    refine fm_iconst S d_Lw_exact_16 ?_
    refine W.widen (k := 1) (n := 6) (Nat.le_of_ble_eq_true rfl) (Nat.le_of_ble_eq_true rfl) ?_
    refine fm_iret S hr hlocks hK hw d_Lw_exact_17 ?_
    exact Or.inl ⟨h0, rfl, F1, hq, by rw [eF1, uI_s]; exact hz, hO⟩
  · refine cl_caught (As := [.int (iN n), .int (iN side)]) (rest := [.int (iN 0), .ref ot]) S (t_AF_exactT l D cs Z hZo tT hZc μ _ x kc kn kr wd lf da dl ra σ n side u0 sen qS hZx hfl hS hin his h1) (cwV 2 hts (gV k387 k388 k389 k1 k390) rfl rfl rfl (by decide +kernel) (by decide)) (fm_preV hZo hK hw hZ hA hS.cx rfl _) hw rfl hl.1 (Nat.le_of_ble_eq_true rfl) d_Lw_exact_5 ⟨Nat.le_of_ble_eq_true rfl, Nat.le_of_ble_eq_true rfl⟩ hxe (by simp [covers, hx1, hx2]) (by rw [hx4]; decide) (by rw [hx4]; exact hts _ k386) (fun a H1 hw1 => ?_)
    rw [hx3]
    refine lv_astore (lv' := [(4, .ref a), (0, .ref x), (1, .int (iN n)), (2, .int (iN side)), (3, .ref ot)]) hx hb d_Lw_exact_12 hl (by decide) rfl (fun ls hl => ?_)
    refine fm_iconst S d_Lw_exact_14 ?_
    refine fm_iret S hr hlocks hK hw1 d_Lw_exact_15 ?_
    exact Or.inr ⟨h1, rfl, rfl⟩
