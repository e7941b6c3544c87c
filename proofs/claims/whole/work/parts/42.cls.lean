-- THE CLASS: what is known of statics and links, rows for its cells (own work)
def Zc (tT : Nat) (A : Nat → Prop) (U : State) (H : Heap) : Prop := va_Z "ArithmeticForms" "TENS" "[J" (.ref tT) A U H ∧ va_T .long tT 19 (fun j => .long (jN (10 ^ j))) A U H ∧ (va_Nw (.methodLinkNest "ArithmeticForms" 21 y_De_init "ArithmeticForms") U ∧ va_Nw (.methodLinkNest "ArithmeticForms$Calculator" 20 y_De_init "ArithmeticForms") U ∧ va_Nw (.methodLinkNest "ArithmeticForms$Decimal" 43 y_AF_ten "ArithmeticForms") U ∧ va_Nw (.methodLinkNest "ArithmeticForms$Calculator" 112 y_AF_ten "ArithmeticForms") U ∧ va_Nw (.methodLinkNest "ArithmeticForms$Receiver" 33 y_AF_ten "ArithmeticForms") U) ∧ (va_AO "ArithmeticForms$Decimal" U ∧ va_AO "ArithmeticForms$Receiver" U ∧ va_Nw (.native y_Sy_arraycopy) U)
theorem Nw_native {x : MethodName} {s U : State} (hW : s.WarmedH U.vm) (hZ : va_Nw (.native x) s) : va_Nw (.native x) U := va_tabs rfl (rfl : (s.setVm U.vm).vm = U.vm) (by rw [Cond.native_setVm hW.alike]; exact hZ)
theorem Zc_ok (tT : Nat) : fm_Zok (Zc tT) := by
  refine ⟨fun A B U H h hAB => ?_, fun A u U H hW h => ?_, fun A U H H1 h hq => ?_, fun A u U H hv h => ?_⟩
  · exact ⟨h.1.narrow hAB, h.2.1.narrow hAB, h.2.2⟩
  · obtain ⟨h1, h2, ⟨h3, h4, h5, h6, h7⟩, h8, h9, h10⟩ := h
    exact ⟨h1.moved hW.alike, h2.moved hW.alike, ⟨va_Nw.warmM hW h3, va_Nw.warmM hW h4, va_Nw.warmM hW h5, va_Nw.warmM hW h6, va_Nw.warmM hW h7⟩, h8.moved hW.alike, h9.moved hW.alike, Nw_native hW h10⟩
  · exact ⟨h.1.kept hq, h.2.1.kept hq, h.2.2⟩
  · have ha : u.vm.Alike U.vm := by rw [hv]; exact Vm.Alike.refl U.vm
    obtain ⟨h1, h2, ⟨h3, h4, h5, h6, h7⟩, h8, h9, h10⟩ := h
    exact ⟨h1.moved ha, h2.moved ha, ⟨h3.same rfl hv, h4.same rfl hv, h5.same rfl hv, h6.same rfl hv, h7.same rfl hv⟩, h8.moved ha, h9.moved ha, h10.same rfl hv⟩
abbrev lE (cs : Nat → ClassId) (n : Nat) (F : Int → Int) : va_E := jE (cs 1) n (fun j => F (j : Int))
abbrev dE (c sg tp ct : Int) (a : Nat) : va_E := oE 2 [.int (iN c), .int (iN sg), .int (iN tp), .int (iN ct), .ref a]
abbrev rE (q : Int × Int × Int × Int × Int × Int) : va_E := oE 3 [.int (iN q.2.1), .int (iN q.1), .int (iN q.2.2.1), .long (jN q.2.2.2.1), .long (jN q.2.2.2.2.1), .int (iN q.2.2.2.2.2)]
/-- the kind of a cell -/
def kd (e : va_E) : Nat × Nat := match e with
  | .inr (ci, _) => (0, ci)
  | .inl (_, n, .inl _) => (1, n)
  | .inl (_, n, .inr (.inl _)) => (2, n)
  | .inl (_, n, _) => (3, n)
theorem fm_kn {μ : fm_Mu} {a b : Nat} {e e' : va_E} (h1 : μ b = some e) (h2 : μ a = some e') (hk : (kd e == kd e') = false) : b ≠ a := fm_ne h1 h2 (fun h => by rw [h] at hk; simp at hk)
theorem fm_keep {μ μ' : fm_Mu} {a b : Nat} {e e' : va_E} (hO : fm_O μ μ' [a]) (h1 : μ b = some e) (h2 : μ a = some e') (hk : (kd e == kd e') = false) : μ' b = some e := hO.at (fun hm => fm_kn h1 h2 hk (List.mem_singleton.mp hm)) h1
theorem nm1 {a b : Nat} (h : b ≠ a) : b ∉ [a] := fun hm => h (List.mem_singleton.mp hm)
theorem nmc {a b : Nat} {l : List Nat} (h : b ≠ a) (h2 : b ∉ l) : b ∉ a :: l := fun hm => by rcases List.mem_cons.mp hm with h3 | h3; exact h h3; exact h2 h3
theorem nm0 {b : Nat} : b ∉ ([] : List Nat) := List.not_mem_nil
theorem fm_O.tr1 {μ0 μ1 μ2 : fm_Mu} {L l : List Nat} (h : fm_O μ0 μ1 L) (h2 : fm_O μ1 μ2 l) (hs : ∀ q ∈ l, q ∈ L) : fm_O μ0 μ2 L := h.tr (h2.mono hs)
section ClRows
variable {p : Program} {l : Launch} {e : Env} {R : Room} {s : State} {m : MethodId} {args : Array Value} {below : List Frame} {meth : Method} {c : Code} {H H0 : Heap} {locs : List Loc} {cells slots : Nat} {Q : State → Prop} {cc : ByteArray} {pc nL : Nat} {ls : Array Slot} {rest : List Value} {own : String} {D : va_G} {A : Nat → Prop} {μ : fm_Mu} {cs : Nat → ClassId} {Z : (Nat → Prop) → State → Heap → Prop} {tT : Nat}
theorem cl_lald {a n : Nat} {F : Int → Int} {i : Int} (S : CallFix p m c cc nL s args wA own) (hK : va_K D clsA (tysA cs) s) (hw : fm_W D clsA A H0 μ H locs) (ha : μ a = some (lE cs n F)) (hi : 0 ≤ i ∧ i < (n : Int) ∧ n < 2147483648) (hdg : decode cc pc = .ok (.laload, 1)) (kk : W p l e R s m args below meth c H locs cells slots Q (F0 m (pc + 1) ls (.long (jN (F i)) :: rest))) : W p l e R s m args below meth c H locs cells slots Q (F0 m pc ls (.int (iN i) :: .ref a :: rest)) :=
  fm_lald S hK hw ha 1 rfl hi hdg (by rw [Int.toNat_of_nonneg hi.1]; exact kk)
theorem cl_last {a n : Nat} {F : Int → Int} {i x : Int} (S : CallFix p m c cc nL s args wA own) (hK : va_K D clsA (tysA cs) s) (hw : fm_W D clsA A H0 μ H locs) (ha : μ a = some (lE cs n F)) (hi : 0 ≤ i ∧ i < (n : Int) ∧ n < 2147483648) (hdg : decode cc pc = .ok (.lastore, 1)) (kk : ∀ (F' : Int → Int) (μ' : fm_Mu) (H1 : Heap) (locs1 : List Loc), F' = uI F i x → fm_W D clsA A H0 μ' H1 locs1 → μ' a = some (lE cs n F') → fm_O μ μ' [a] → W p l e R s m args below meth c H1 locs1 cells slots Q (F0 m (pc + 1) ls rest)) : W p l e R s m args below meth c H locs cells slots Q (F0 m pc ls (.long (jN x) :: .int (iN i) :: .ref a :: rest)) := by
  refine fm_last S hK hw ha 1 rfl hi hdg (fun μ' H1 locs1 hw1 h1 h2 => ?_)
  rw [uF_I hi.1] at h1
  exact kk _ μ' H1 locs1 rfl hw1 h1 h2
theorem cl_alen {a n : Nat} {F : Int → Int} (S : CallFix p m c cc nL s args wA own) (hK : va_K D clsA (tysA cs) s) (hw : fm_W D clsA A H0 μ H locs) (ha : μ a = some (lE cs n F)) (hdg : decode cc pc = .ok (.arraylength, 1)) (kk : W p l e R s m args below meth c H locs cells slots Q (F0 m (pc + 1) ls (.int (iN (n : Int)) :: rest))) : W p l e R s m args below meth c H locs cells slots Q (F0 m pc ls (.ref a :: rest)) := fm_alen S hK hw ha 1 rfl rfl hdg kk
theorem cl_tens {index : Nat} (S : CallFix p m c cc nL s args wA own) (hw : fm_W D clsA A s.heap μ H locs) (hZ : Zc tT A s s.heap) (hlink : (Cond.fieldLink own index "ArithmeticForms" "TENS" "[J") ∈ wA) (hdg : decode cc pc = .ok (.getstatic index, 3)) (kk : W p l e R s m args below meth c H locs cells slots Q (F0 m (pc + 3) ls (.ref tT :: rest))) : W p l e R s m args below meth c H locs cells slots Q (F0 m pc ls rest) := va_gets S.1 S.2.1 hZ.1 hw.2 S.2.2.2.1 (S.2.2.2.2 _ hlink) (fun _ h => h) hdg kk
theorem cl_tlen (S : CallFix p m c cc nL s args wA own) (hw : fm_W D clsA A s.heap μ H locs) (hZ : Zc tT A s s.heap) (hdg : decode cc pc = .ok (.arraylength, 1)) (kk : W p l e R s m args below meth c H locs cells slots Q (F0 m (pc + 1) ls (.int (iN 19) :: rest))) : W p l e R s m args below meth c H locs cells slots Q (F0 m pc ls (.ref tT :: rest)) := va_tlen S.1 S.2.1 hZ.2.1 hw.2 (by decide) hdg kk
theorem cl_tl {i : Int} (S : CallFix p m c cc nL s args wA own) (hw : fm_W D clsA A s.heap μ H locs) (hZ : Zc tT A s s.heap) (hi : 0 ≤ i ∧ i < 19) (hdg : decode cc pc = .ok (.laload, 1)) (kk : W p l e R s m args below meth c H locs cells slots Q (F0 m (pc + 1) ls (.long (jN (10 ^ i.toNat)) :: rest))) : W p l e R s m args below meth c H locs cells slots Q (F0 m pc ls (.int (iN i) :: .ref tT :: rest)) := va_tl S.1 S.2.1 hZ.2.1 hw.2 (iN_vin hi.1 (n := 19) hi.2 (by decide)) (by rw [iN_cl hi.1 (by omega)]) hdg kk
/-- System.arraycopy of longs -/
theorem cl_copy {index a0 a n0 n1 : Nat} {f g : Int → Int} {sp dp n : Int} (S : CallFix p m c cc nL s args wA own) (hml : c.maxLocals = ls.size) (hK : va_K D clsA (tysA cs) s) (hw : fm_W D clsA A H0 μ H locs) (hnat : va_Nw (.native y_Sy_arraycopy) s) (hlink : Cond.methodLink own index y_Sy_arraycopy ∈ wA) (hstat : Cond.static y_Sy_arraycopy ∈ wA) (hini : Cond.initialized "java/lang/System" ∈ wA) (ha0 : μ a0 = some (lE cs n0 f)) (ha : μ a = some (lE cs n1 g)) (hb : 0 ≤ sp ∧ 0 ≤ dp ∧ 0 ≤ n ∧ sp + n ≤ n0 ∧ dp + n ≤ n1 ∧ n0 < 1000 ∧ n1 < 1000) (hframes : 1 ≤ R.frames) (hlocals : (rest.map fun v => v.category).sum + (nativeFrameWords "java/lang/System" "arraycopy" 5 + 11) ≤ R.locals) (hdg : decode cc pc = .ok (.invokestatic index, 3)) (kk : ∀ (F' : Int → Int) (μ' : fm_Mu) (H1 : Heap) (locs1 : List Loc), (∀ q : Int, 0 ≤ q → F' q = if dp ≤ q ∧ q < dp + n then f (sp + (q - dp)) else g q) → fm_W D clsA A H0 μ' H1 locs1 → μ' a = some (lE cs n1 F') → fm_O μ μ' [a] → W p l e R s m args below meth c H1 locs1 cells slots Q (F0 m (pc + 3) ls rest)) : W p l e R s m args below meth c H locs cells slots Q (F0 m pc ls (.int (iN n) :: .int (iN dp) :: .ref a :: .int (iN sp) :: .ref a0 :: rest)) := by
  obtain ⟨⟨ws, h1, h2, hP, hD⟩, hS⟩ := hw
  obtain ⟨q0, hq0⟩ := h1 _ _ ha0
  obtain ⟨q1, hq1⟩ := h1 _ _ ha
  obtain ⟨b1, b2, b3, b4, b5, b6, b7⟩ := hb
  have nlt : ∀ z : Int, 0 ≤ z → z < 1000 → ¬ iN z < 0 := fun z z0 z1 h => by
    have := (iN_lt (x := z) (y := 0) (by omega) inI_0).mp (by rw [iN_z]; exact h)
    omega
  have e1 := iN_cl b1 (by omega)
  have e2 := iN_cl b2 (by omega)
  have e3 := iN_cl b3 (by omega)
  refine va_copyl S.1 S.2.1 hml S.2.2.2.1 (S.2.2.2.2 _ hlink) (hnat.use rfl) (S.2.2.2.2 _ hstat) (S.2.2.2.2 _ hini) hK hP hD hS q0 q1 1 1 hq0 hq1 rfl rfl rfl (nlt _ b1 (by omega)) (nlt _ b2 (by omega)) (nlt _ b3 (by omega)) (by rw [e1, e3]; omega) (by rw [e2, e3]; omega) (fun _ _ => rfl) hframes hlocals hdg (fun H1 locs1 hP1 hD1 hS1 => ?_)
  have ef : va_cpy (fun j : Nat => jN (f (j : Int))) (fun j : Nat => jN (g (j : Int))) (iN sp).toNatClampNeg (iN dp).toNatClampNeg (iN n).toNatClampNeg = fun j : Nat => jN ((fun q : Int => if dp ≤ q ∧ q < dp + n then f (sp + (q - dp)) else g q) (j : Int)) := by
    funext j
    rw [e1, e2, e3]
    dsimp only
    by_cases h : dp ≤ (j : Int) ∧ (j : Int) < dp + n
    · rw [if_pos h, pk_cpy_in (by omega) (by omega)]
      congr 2
      omega
    · rw [if_neg h, pk_cpy_out (by omega)]
  rw [ef] at hP1 hD1
  exact kk (fun q : Int => if dp ≤ q ∧ q < dp + n then f (sp + (q - dp)) else g q) _ H1 locs1 (fun q _ => rfl) ⟨fm_M.set h1 h2 hD hq1 hP1 hD1, hS1⟩ (fm_up_s _ _ _) (fun q hq => fm_up_n (fun h => hq (by rw [h]; exact List.mem_singleton.mpr rfl)))
end ClRows
theorem cwIA {R : Room} {s : State} {args : Array Value} {own : String} {index : Nat} {y : MethodName} {bytes : ByteArray} {maxL mc ms : Nat} {rm : Room} (n : Nat) (ht : ∀ w ∈ wA, w.before args s = true) (hc : Cond.code y bytes maxL none ∈ wA) (hrc : rm.cells = mc) (hrs : rm.slots = ms) (hl : Cond.methodLink own index y ∈ wA) (hini : Cond.initialized y.cls ∈ wA) (hin : Cond.instanceMethod y ∈ wA) (hnm : y.name = "<init>") (hd : y.cls ≠ "java/lang/invoke/MethodHandle" ∧ y.cls ≠ "java/lang/invoke/VarHandle" ∧ (parseMethodDescriptor y.desc).map (fun d => d.parameters.length) = some n) (hR : rm.frames + 1 ≤ R.frames ∧ 8 + (maxL + 11) + rm.locals ≤ R.locals) : CallB R s args own index y bytes maxL none (Cond.code y bytes maxL none :: wA) rm mc ms n ∧ y.name = "<init>" ∧ (Cond.instanceMethod y).before args s = true :=
  ⟨callB_of n ht (gC hc) rfl hrc hrs (ht _ hini) (ht _ hl) hd hR, hnm, ht _ hin⟩
theorem cwNA {R : Room} {s : State} {args : Array Value} {own host : String} {index : Nat} {y : MethodName} {bytes : ByteArray} {maxL mc ms : Nat} {ret : Option FieldType} {rm : Room} (n : Nat) (ht : ∀ w ∈ wA, w.before args s = true) (hc : Cond.code y bytes maxL ret ∈ wA) (hrc : rm.cells = mc) (hrs : rm.slots = ms) (hl : va_Nw (.methodLinkNest own index y host) s) (hini : Cond.initialized y.cls ∈ wA) (hd : y.cls ≠ "java/lang/invoke/MethodHandle" ∧ y.cls ≠ "java/lang/invoke/VarHandle" ∧ (parseMethodDescriptor y.desc).map (fun d => d.parameters.length) = some n) (hR : rm.frames + 1 ≤ R.frames ∧ 8 + (maxL + 11) + rm.locals ≤ R.locals) : va_CN R s args own index y host bytes maxL ret (Cond.code y bytes maxL ret :: wA) rm mc ms n :=
  va_cnB n ht (gC hc) rfl hrc hrs hl (ht _ hini) hd hR
/-- a method of the class, from its entry -/
theorem cl_of {l : Launch} {y : MethodName} {cc : ByteArray} {maxL sz mc ms : Nat} {ret : Option FieldType} {rm : Room} {D : va_G} {cs : Nat → ClassId} {μ : fm_Mu} {Z : (Nat → Prop) → State → Heap → Prop} {Qc : Array Value → State → Outcome → State → Prop} {free : Addr → Prop} {av : List Value} (hy : plainName y.cls = true) (hlen : (lg_sl av).length ≤ maxL)
    (body : ∀ (p : Program) (e : Env) (s : State) (m : MethodId) (below : List Frame) (meth : Method) (c : Code), CallFix p m c cc maxL s av.toArray wA y.cls → meth.sig.returnType = ret → meth.locks = false → meth.name = y.name → s.heap.size = sz → fm_W D clsA (fm_A μ s.heap.size) s.heap μ s.heap [] → va_K D clsA (tysA cs) s → Z (fm_A μ s.heap.size) s s.heap → (∀ q, s.heap.size ≤ q → fm_A μ s.heap.size q) → ∀ ls : Array Slot, lv_has ls maxL (lv_args 0 av) → W p l e rm s m av.toArray below meth c s.heap [] 0 0 (MQ below Qc av.toArray s mc ms free) (F0 m 0 ls [])) : Met l y (Cond.code y cc maxL ret :: wA) rm (fm_Pc D clsA (tysA cs) Z μ sz av) Qc mc ms free :=
  fm_of hy rfl hlen (fun p e s m below meth c S hr hl hn hsz hw hK hZ hA ls hls => body p e s m below meth c ⟨S.1, S.2.1, S.2.2.1, S.2.2.2.1, fun w h => S.2.2.2.2 w (List.mem_cons_of_mem _ h)⟩ hr hl hn hsz hw hK hZ hA ls hls)
/-- a method of the JDK, from its entry -/
theorem cl_ofF {l : Launch} {y : MethodName} {cc : ByteArray} {maxL sz mc ms : Nat} {ret : Option FieldType} {rm : Room} {D : va_G} {cs : Nat → ClassId} {μ : fm_Mu} {Z : (Nat → Prop) → State → Heap → Prop} {Qc : Array Value → State → Outcome → State → Prop} {free : Addr → Prop} {av : List Value} (hy : plainFor y = true) (hlen : (lg_sl av).length ≤ maxL)
    (body : ∀ (p : Program) (e : Env) (s : State) (m : MethodId) (below : List Frame) (meth : Method) (c : Code), CallFix p m c cc maxL s av.toArray wA y.cls → meth.sig.returnType = ret → meth.locks = false → meth.name = y.name → s.heap.size = sz → fm_W D clsA (fm_A μ s.heap.size) s.heap μ s.heap [] → va_K D clsA (tysA cs) s → Z (fm_A μ s.heap.size) s s.heap → (∀ q, s.heap.size ≤ q → fm_A μ s.heap.size q) → ∀ ls : Array Slot, lv_has ls maxL (lv_args 0 av) → W p l e rm s m av.toArray below meth c s.heap [] 0 0 (MQ below Qc av.toArray s mc ms free) (F0 m 0 ls [])) : Met l y (Cond.code y cc maxL ret :: wA) rm (fm_Pc D clsA (tysA cs) Z μ sz av) Qc mc ms free := by
  refine va_MetF (cc := cc) (maxL := maxL) (ret := ret) hy rfl ?_
  intro p e s m args below meth c s₁ B hml hv
  obtain ⟨rfl, hsz, hM, hK, hZ⟩ := hv
  subst hsz
  have hl := lv_entry av (n := maxL) hlen
  rw [lg_entry_eq]
  have hts := atoms_spec (ws := Cond.code y cc maxL ret :: wA) B.pre
  exact body p e s m below meth c ⟨B.exec, B.bytes, hml, findClass_of_methodNamed B.named, fun w h => hts w (List.mem_cons_of_mem _ h)⟩ B.returns B.notSynchronized (name_of_methodNamed B.named B.method).1 rfl ⟨hM.own, va_S.rf⟩ hK hZ (fun _ h => Or.inr h) _ hl
