-- NEW CELLS OF THE CLASS (own work)
section FmNewQ
variable {p : Program} {l : Launch} {e : Env} {R : Room} {s : State} {m : MethodId} {args : Array Value} {below : List Frame} {meth : Method} {c : Code} {H H0 : Heap} {locs : List Loc} {cells slots : Nat} {Q : State → Prop} {cc : ByteArray} {pc nL : Nat} {ls : Array Slot} {rest : List Value} {Ts : List Cond} {own : String} {D : va_G} {cl : List vw_C} {tys : List (ClassId × FieldType)} {A : Nat → Prop} {μ : fm_Mu}
theorem fm_newq {C : String} {index : Nat} (S : CallFix p m c cc nL s args Ts own) (hK : va_K D cl tys s) (hw : fm_W D cl A H0 μ H locs) (hA : ∀ q, H0.size ≤ q → A q) (hcl : (Cond.classLink own index C).before args s = true) (hov : va_AO C s) (t0 : Nat) {cA : ClassId} (ht : tys[t0]? = some (cA, .object C)) {n : Int} {N : Nat} (hn : 0 ≤ n ∧ n ≤ 1000000) (hN : n.toNat = N) (hbytes : N * 4 ≤ 536870912) (hcells : cells + 1 ≤ R.cells) (hslots : slots + N ≤ R.slots) (hdg : decode cc pc = .ok (.anewarray index, 3)) (kk : ∀ (q : Nat) (μ' : fm_Mu) (H1 : Heap), fm_W D cl A H0 μ' H1 locs → μ q = none → μ' q = some (qE cA N (fun _ => none)) → fm_O μ μ' [q] → W p l e R s m args below meth c H1 locs (cells + 1) (slots + N) Q (F0 m (pc + 3) ls (.ref q :: rest))) : W p l e R s m args below meth c H locs cells slots Q (F0 m pc ls (.int (iN n) :: rest)) := by
  obtain ⟨⟨ws, h1, h2, hP, hD⟩, hS⟩ := hw
  refine va_newq S.1 S.2.1 S.2.2.2.1 hcl hov hK hP hD hS hA (fun h => ?_) (by rw [iN_cl hn.1 (by omega)]; exact hN) hbytes hcells hslots hdg (fun q cB H1 hK1 hP1 hD1 hS1 => ?_)
  · have := (iN_lt (x := n) (y := 0) (by omega) inI_0).mp (by rw [iN_z]; exact h)
    omega
  · have e1 : cB = cA := fm_RAu (hK1.2 tys.length (cB, .object C) (by simp)).2 (hK.2 t0 _ ht).2
    subst e1
    exact kk q _ H1 ⟨(fm_M.push h1 h2 hP1 hD1).2, hS1⟩ (fm_M.push h1 h2 hP1 hD1).1 (fm_up_s _ _ _) (fun q hq => fm_up_n (fun h => hq (by rw [h]; exact List.mem_singleton.mpr rfl)))
end FmNewQ
theorem nn_ne {μ : fm_Mu} {b q : Nat} {e : va_E} (h : μ b = some e) (hn : μ q = none) : b ≠ q := fun h2 => by rw [h2, hn] at h; cases h
/-- fresh at the start, too -/
theorem fm_O.fr {μ μ1 : fm_Mu} {L : List Nat} {q : Nat} (h : fm_O μ μ1 L) (hn : μ1 q = none) (hL : q ∉ L) : μ q = none := (h q hL).symm.trans hn
