-- ENTRY, CALLS AND RETURNS OVER THE FLAT MEMORY (own work)
section FmCalls
variable {p : Program} {l : Launch} {e : Env} {R : Room} {s : State} {m : MethodId} {args : Array Value} {below : List Frame} {meth : Method} {c : Code} {H H0 : Heap} {locs : List Loc} {cells slots : Nat} {Q : State → Prop} {cc : ByteArray} {pc nL : Nat} {ls : Array Slot} {rest st0 : List Value} {Ts : List Cond} {own : String} {D : va_G} {cl : List vw_C} {tys : List (ClassId × FieldType)} {A : Nat → Prop} {μ μ0 : fm_Mu} {Z : (Nat → Prop) → State → Heap → Prop} {a : Array Value} {mc ms : Nat}
theorem fm_pre (hZo : fm_Zok Z) (hK : va_K D cl tys s) (hw : fm_W D cl A s.heap μ H locs) (hZ : Z A s s.heap) (hA : ∀ q, s.heap.size ≤ q → A q) (As : List Value) : PreS s H (fm_Pc D cl tys Z μ H.size As) As := by
  refine ⟨fun a U g mk q => ?_, fun U hU hW => ?_⟩
  · obtain ⟨q0, q1, q2, q3, q4⟩ := q
    exact ⟨q0, q1, q2, va_K.moved (u := U) (U := U.calling g mk a) (Vm.Alike.refl U.vm) q3, hZo.2.2.2 _ U (U.calling g mk a) _ rfl q4⟩
  · refine ⟨rfl, by rw [hU], by rw [hU]; exact hw.1.weaken (fun _ _ => trivial), va_K.moved hW.alike hK, ?_⟩
    rw [hU]
    exact hZo.1 _ _ _ _ (hZo.2.1 _ _ _ _ hW (hZo.2.2.1 _ _ _ _ hZ hw.2.2.1)) (fm_A.sub hw hA)
theorem fm_preV (hZo : fm_Zok Z) (hK : va_K D cl tys s) (hw : fm_W D cl A s.heap μ H locs) (hZ : Z A s s.heap) (hA : ∀ q, s.heap.size ≤ q → A q) {b ci : Nat} {fs : List Value} {C : String} {T : u_T} {N : Nat} (hb : μ b = some (oE ci fs)) (hc : cl[ci]? = some (C, T, N)) (As : List Value) : PreV s H C b (fm_Pc D cl tys Z μ H.size (.ref b :: As)) As := by
  have h := fm_pre (tys := tys) hZo hK hw hZ hA (.ref b :: As)
  refine ⟨h.1, ?_, h.2⟩
  obtain ⟨⟨ws, h1, h2, hP, hD⟩, hS⟩ := hw
  obtain ⟨k, hk⟩ := h1 _ _ hb
  exact va_recv hK hP hc hk
theorem fm_calli {P : Int → fm_Mu → Prop} (hr : va_Run p l e R s m args below meth c H locs cells slots mc ms (F0 m pc ls st0) rest (fm_Qi D cl tys μ H.size P a) (fm_A μ H.size)) (hw : fm_W D cl A s.heap μ H locs) (hA : ∀ q, s.heap.size ≤ q → A q) (kk : ∀ (x : Int) (μ' : fm_Mu) (H1 : Heap) (locs1 : List Loc), P x μ' → fm_W D cl A s.heap μ' H1 locs1 → W p l e R s m args below meth c H1 locs1 (cells + mc) (slots + ms) Q (F0 m (pc + 3) ls (.int (iN x) :: rest))) : W p l e R s m args below meth c H locs cells slots Q (F0 m pc ls st0) := by
  refine va_calli hr hw.2 (fun q _ h => fm_A.sub hw hA q h) (fm_A.sub hw hA) (fun r u t H1 locs1 ht hvm hp hB hz hk hS => ?_)
  obtain ⟨x, rfl, hp⟩ := hp
  exact kk x u H1 locs1 hp ⟨by rw [← ht]; exact hB.1.weaken (fm_A.sub hw hA), hS⟩
theorem fm_calll {P : Int → fm_Mu → Prop} (hr : va_Run p l e R s m args below meth c H locs cells slots mc ms (F0 m pc ls st0) rest (fm_Ql D cl tys μ H.size P a) (fm_A μ H.size)) (hw : fm_W D cl A s.heap μ H locs) (hA : ∀ q, s.heap.size ≤ q → A q) (kk : ∀ (x : Int) (μ' : fm_Mu) (H1 : Heap) (locs1 : List Loc), P x μ' → fm_W D cl A s.heap μ' H1 locs1 → W p l e R s m args below meth c H1 locs1 (cells + mc) (slots + ms) Q (F0 m (pc + 3) ls (.long (jN x) :: rest))) : W p l e R s m args below meth c H locs cells slots Q (F0 m pc ls st0) := by
  refine va_calll hr hw.2 (fun q _ h => fm_A.sub hw hA q h) (fm_A.sub hw hA) (fun r u t H1 locs1 ht hvm hp hB hz hk hS => ?_)
  obtain ⟨x, rfl, hp⟩ := hp
  exact kk x u H1 locs1 hp ⟨by rw [← ht]; exact hB.1.weaken (fm_A.sub hw hA), hS⟩
theorem fm_callv {P : fm_Mu → Prop} (hr : va_Run p l e R s m args below meth c H locs cells slots mc ms (F0 m pc ls st0) rest (fm_Qv D cl tys μ H.size P a) (fm_A μ H.size)) (hw : fm_W D cl A s.heap μ H locs) (hA : ∀ q, s.heap.size ≤ q → A q) (kk : ∀ (μ' : fm_Mu) (H1 : Heap) (locs1 : List Loc), P μ' → fm_W D cl A s.heap μ' H1 locs1 → W p l e R s m args below meth c H1 locs1 (cells + mc) (slots + ms) Q (F0 m (pc + 3) ls rest)) : W p l e R s m args below meth c H locs cells slots Q (F0 m pc ls st0) := by
  refine va_callv hr hw.2 (fun q _ h => fm_A.sub hw hA q h) (fm_A.sub hw hA) (fun u t H1 locs1 ht hvm hp hB hz hk hS => ?_)
  exact kk u H1 locs1 hp ⟨by rw [← ht]; exact hB.1.weaken (fm_A.sub hw hA), hS⟩
theorem fm_callq {P : Option Nat → fm_Mu → Prop} (hr : va_Run p l e R s m args below meth c H locs cells slots mc ms (F0 m pc ls st0) rest (fm_Qq D cl tys μ H.size P a) (fm_A μ H.size)) (hw : fm_W D cl A s.heap μ H locs) (hA : ∀ q, s.heap.size ≤ q → A q) (kk : ∀ (x : Option Nat) (μ' : fm_Mu) (H1 : Heap) (locs1 : List Loc), P x μ' → fm_W D cl A s.heap μ' H1 locs1 → W p l e R s m args below meth c H1 locs1 (cells + mc) (slots + ms) Q (F0 m (pc + 3) ls (va_rf x :: rest))) : W p l e R s m args below meth c H locs cells slots Q (F0 m pc ls st0) := by
  refine va_callq hr hw.2 (fun q _ h => fm_A.sub hw hA q h) (fm_A.sub hw hA) (fun r u t H1 locs1 ht hvm hp hB hz hk hS => ?_)
  exact kk r u H1 locs1 hp ⟨by rw [← ht]; exact hB.1.weaken (fm_A.sub hw hA), hS⟩
theorem fm_callSi {P : Int → Prop} (hr : va_Run p l e R s m args below meth c H locs cells slots 0 0 (F0 m pc ls st0) rest (fm_Si P a) (fun _ => False)) (kk : ∀ x : Int, P x → W p l e R s m args below meth c H locs cells slots Q (F0 m (pc + 3) ls (.int (iN x) :: rest))) : W p l e R s m args below meth c H locs cells slots Q (F0 m pc ls st0) :=
  vp_callSi hr.run (fun r hr => by obtain ⟨x, rfl, hp⟩ := hr; exact kk x hp)
theorem fm_callSl {P : Int → Prop} (hr : va_Run p l e R s m args below meth c H locs cells slots 0 0 (F0 m pc ls st0) rest (fm_Sl P a) (fun _ => False)) (kk : ∀ x : Int, P x → W p l e R s m args below meth c H locs cells slots Q (F0 m (pc + 3) ls (.long (jN x) :: rest))) : W p l e R s m args below meth c H locs cells slots Q (F0 m pc ls st0) :=
  vp_callSl hr.run (fun r hr => by obtain ⟨x, rfl, hp⟩ := hr; exact kk x hp)
theorem fm_callSq {P : Option Nat → Prop} (hr : va_Run p l e R s m args below meth c H locs cells slots 0 0 (F0 m pc ls st0) rest (va_Sq P a) (fun _ => False)) (kk : ∀ x : Option Nat, P x → W p l e R s m args below meth c H locs cells slots Q (F0 m (pc + 3) ls (va_rf x :: rest))) : W p l e R s m args below meth c H locs cells slots Q (F0 m pc ls st0) :=
  va_csq hr.run kk
-- returns
theorem fm_iret {P : Int → fm_Mu → Prop} {X : Int} (S : CallFix p m c cc nL s args Ts own) (hr : meth.sig.returnType = some .int) (hlocks : meth.locks = false) (hK : va_K D cl tys s) (hw : fm_W D cl (fm_A μ0 s.heap.size) s.heap μ H locs) (hdg : decode cc pc = .ok (.ireturn, 1)) (hp : P X μ) : W p l e R s m args below meth c H locs cells slots (MQ below (fm_Qi D cl tys μ0 s.heap.size P) args s cells slots (fm_A μ0 s.heap.size)) (F0 m pc ls [.int (iN X)]) :=
  W.iret S.1 S.2.1 hr (fun t ht hW => ⟨⟨iN X, μ, rfl, ⟨X, rfl, hp⟩, by rw [ht]; exact hw.1, va_K.moved hW.alike hK⟩, hw.2.F ht⟩) hw.2.2.2 hdg hlocks
theorem fm_zret {P : Int → fm_Mu → Prop} {X : Int} (S : CallFix p m c cc nL s args Ts own) (hr : meth.sig.returnType = some .boolean) (hlocks : meth.locks = false) (hK : va_K D cl tys s) (hw : fm_W D cl (fm_A μ0 s.heap.size) s.heap μ H locs) (hX : X = 0 ∨ X = 1) (hdg : decode cc pc = .ok (.ireturn, 1)) (hp : P X μ) : W p l e R s m args below meth c H locs cells slots (MQ below (fm_Qi D cl tys μ0 s.heap.size P) args s cells slots (fm_A μ0 s.heap.size)) (F0 m pc ls [.int (iN X)]) :=
  W.zret S.1 S.2.1 hr (by rcases hX with h | h <;> subst h <;> rfl) (fun t ht hW => ⟨⟨iN X, μ, rfl, ⟨X, rfl, hp⟩, by rw [ht]; exact hw.1, va_K.moved hW.alike hK⟩, hw.2.F ht⟩) hw.2.2.2 hdg hlocks
theorem fm_lret {P : Int → fm_Mu → Prop} {X : Int} (S : CallFix p m c cc nL s args Ts own) (hr : meth.sig.returnType = some .long) (hlocks : meth.locks = false) (hK : va_K D cl tys s) (hw : fm_W D cl (fm_A μ0 s.heap.size) s.heap μ H locs) (hdg : decode cc pc = .ok (.lreturn, 1)) (hp : P X μ) : W p l e R s m args below meth c H locs cells slots (MQ below (fm_Ql D cl tys μ0 s.heap.size P) args s cells slots (fm_A μ0 s.heap.size)) (F0 m pc ls [.long (jN X)]) :=
  W.lret S.1 S.2.1 hr (fun t ht hW => ⟨⟨jN X, μ, rfl, ⟨X, rfl, hp⟩, by rw [ht]; exact hw.1, va_K.moved hW.alike hK⟩, hw.2.F ht⟩) hw.2.2.2 hdg hlocks
theorem fm_vret {P : fm_Mu → Prop} (S : CallFix p m c cc nL s args Ts own) (hr : meth.sig.returnType = none) (hlocks : meth.locks = false) (hK : va_K D cl tys s) (hw : fm_W D cl (fm_A μ0 s.heap.size) s.heap μ H locs) (hdg : decode cc pc = .ok (.return_, 1)) (hp : P μ) : W p l e R s m args below meth c H locs cells slots (MQ below (fm_Qv D cl tys μ0 s.heap.size P) args s cells slots (fm_A μ0 s.heap.size)) (F0 m pc ls []) :=
  W.vret S.1 S.2.1 hr (fun t ht hW => ⟨⟨μ, rfl, hp, by rw [ht]; exact hw.1, va_K.moved hW.alike hK⟩, hw.2.F ht⟩) hw.2.2.2 hdg hlocks
theorem fm_aret {P : Option Nat → fm_Mu → Prop} {X : Option Nat} {rt : FieldType} (S : CallFix p m c cc nL s args Ts own) (hr : meth.sig.returnType = some rt) (hrt : (∃ n, rt = .object n) ∨ ∃ t, rt = .array t) (hlocks : meth.locks = false) (hK : va_K D cl tys s) (hw : fm_W D cl (fm_A μ0 s.heap.size) s.heap μ H locs) (hdg : decode cc pc = .ok (.areturn, 1)) (hp : P X μ) : W p l e R s m args below meth c H locs cells slots (MQ below (fm_Qq D cl tys μ0 s.heap.size P) args s cells slots (fm_A μ0 s.heap.size)) (F0 m pc ls [va_rf X]) :=
  W.aret S.1 S.2.1 hr hrt (va_rf_or X) (fun t ht hW => ⟨⟨X, μ, rfl, hp, by rw [ht]; exact hw.1, va_K.moved hW.alike hK⟩, hw.2.F ht⟩) hw.2.2.2 hdg hlocks
theorem fm_iretS {P : Int → Prop} {X : Int} (S : CallFix p m c cc nL s args Ts own) (hr : meth.sig.returnType = some .int) (hlocks : meth.locks = false) (hdg : decode cc pc = .ok (.ireturn, 1)) (hp : P X) : W p l e R s m args below meth c s.heap [] cells slots (MQ below (fm_Si P) args s cells slots (fun _ => False)) (F0 m pc ls [.int (iN X)]) :=
  W.iret S.1 S.2.1 hr (fun t ht _ => ⟨iN X, rfl, ⟨X, rfl, hp⟩, ht⟩) (fun _ h => absurd h List.not_mem_nil) hdg hlocks
theorem fm_zretS {P : Int → Prop} {X : Int} (S : CallFix p m c cc nL s args Ts own) (hr : meth.sig.returnType = some .boolean) (hlocks : meth.locks = false) (hX : X = 0 ∨ X = 1) (hdg : decode cc pc = .ok (.ireturn, 1)) (hp : P X) : W p l e R s m args below meth c s.heap [] cells slots (MQ below (fm_Si P) args s cells slots (fun _ => False)) (F0 m pc ls [.int (iN X)]) :=
  W.zret S.1 S.2.1 hr (by rcases hX with h | h <;> subst h <;> rfl) (fun t ht _ => ⟨iN X, rfl, ⟨X, rfl, hp⟩, ht⟩) (fun _ h => absurd h List.not_mem_nil) hdg hlocks
theorem fm_lretS {P : Int → Prop} {X : Int} (S : CallFix p m c cc nL s args Ts own) (hr : meth.sig.returnType = some .long) (hlocks : meth.locks = false) (hdg : decode cc pc = .ok (.lreturn, 1)) (hp : P X) : W p l e R s m args below meth c s.heap [] cells slots (MQ below (fm_Sl P) args s cells slots (fun _ => False)) (F0 m pc ls [.long (jN X)]) :=
  W.lret S.1 S.2.1 hr (fun t ht _ => ⟨jN X, rfl, ⟨X, rfl, hp⟩, ht⟩) (fun _ h => absurd h List.not_mem_nil) hdg hlocks
theorem fm_aretS {P : Option Nat → Prop} {X : Option Nat} {rt : FieldType} (S : CallFix p m c cc nL s args Ts own) (hr : meth.sig.returnType = some rt) (hrt : (∃ n, rt = .object n) ∨ ∃ t, rt = .array t) (hlocks : meth.locks = false) (hdg : decode cc pc = .ok (.areturn, 1)) (hp : P X) : W p l e R s m args below meth c s.heap [] cells slots (MQ below (va_Sq P) args s cells slots (fun _ => False)) (F0 m pc ls [va_rf X]) :=
  W.aret S.1 S.2.1 hr hrt (va_rf_or X) (fun t ht _ => ⟨X, rfl, hp, ht⟩) (fun _ h => absurd h List.not_mem_nil) hdg hlocks
/-- a method's entry -/
theorem fm_of {y : MethodName} {ws ws' : List Cond} {rm : Room} {Qc : Array Value → State → Outcome → State → Prop} {free : Addr → Prop} {maxL sz : Nat} {ret : Option FieldType} {av : List Value} (hy : plainName y.cls = true) (hw : ws = Cond.code y cc maxL ret :: ws') (hlen : (lg_sl av).length ≤ maxL)
    (body : ∀ (p : Program) (e : Env) (s : State) (m : MethodId) (below : List Frame) (meth : Method) (c : Code), CallFix p m c cc maxL s av.toArray ws y.cls → meth.sig.returnType = ret → meth.locks = false → meth.name = y.name → s.heap.size = sz → fm_W D cl (fm_A μ s.heap.size) s.heap μ s.heap [] → va_K D cl tys s → Z (fm_A μ s.heap.size) s s.heap → (∀ q, s.heap.size ≤ q → fm_A μ s.heap.size q) → ∀ ls : Array Slot, lv_has ls maxL (lv_args 0 av) → W p l e rm s m av.toArray below meth c s.heap [] 0 0 (MQ below Qc av.toArray s mc ms free) (F0 m 0 ls [])) : Met l y ws rm (fm_Pc D cl tys Z μ sz av) Qc mc ms free := by
  refine Met.ofW (cc := cc) (maxL := maxL) (ret := ret) hy hw ?_
  intro p e s m args below meth c s₁ B hml hv
  obtain ⟨rfl, hsz, hM, hK, hZ⟩ := hv
  subst hsz
  have hl := lv_entry av (n := maxL) hlen
  rw [lg_entry_eq]
  exact body p e s m below meth c ⟨B.exec, B.bytes, hml, findClass_of_methodNamed B.named, atoms_spec (ws := ws) B.pre⟩ B.returns B.notSynchronized (name_of_methodNamed B.named B.method).1 rfl ⟨hM.own, va_S.rf⟩ hK hZ (fun _ h => Or.inr h) _ hl
end FmCalls
