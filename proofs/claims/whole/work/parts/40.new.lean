-- NEW ARRAYS, AND THE REFERENCE'S CONSTRUCTOR (own work)
section FmNew
variable {p : Program} {l : Launch} {e : Env} {R : Room} {s : State} {m : MethodId} {args : Array Value} {below : List Frame} {meth : Method} {c : Code} {H H0 : Heap} {locs : List Loc} {cells slots : Nat} {Q : State → Prop} {cc : ByteArray} {pc nL : Nat} {ls : Array Slot} {rest : List Value} {Ts : List Cond} {own : String} {D : va_G} {cl : List vw_C} {tys : List (ClassId × FieldType)} {A : Nat → Prop} {μ : fm_Mu}
theorem fm_RAu {U : State} {c1 c2 : ClassId} {ty : FieldType} (h1 : va_RA U c1 ty) (h2 : va_RA U c2 ty) : c1 = c2 := by
  cases ty <;> first | (exact Option.some.inj (h1.symm.trans h2)) | (obtain ⟨_, _, _, _, _, e1⟩ := h1; obtain ⟨_, _, _, _, _, e2⟩ := h2; exact Option.some.inj (e1.symm.trans e2))
theorem fm_newa {atype : ArrayType} {ty : FieldType} (hty : newarray.typeOf atype = ty) (S : CallFix p m c cc nL s args Ts own) (hK : va_K D cl tys s) (hw : fm_W D cl A H0 μ H locs) (hA : ∀ q, H0.size ≤ q → A q) (harr : (Cond.arrayClass ty).before args s = true) (t0 : Nat) {cA : ClassId} (ht : tys[t0]? = some (cA, ty)) {n : Int} {N : Nat} {a0 : vp_A} (ha : ∀ cB : ClassId, vp_cell cB a0 = arrV cB N (fun _ => defaultValue ty)) (hn : 0 ≤ n ∧ n ≤ 1000000) (hN : n.toNat = N) (hbytes : N * componentBytes ty ≤ 536870912) (hcells : cells + 1 ≤ R.cells) (hslots : slots + N ≤ R.slots) (hdg : decode cc pc = .ok (.newarray atype, 2)) (kk : ∀ (q : Nat) (μ' : fm_Mu) (H1 : Heap), fm_W D cl A H0 μ' H1 locs → μ q = none → μ' q = some (.inl (cA, a0)) → fm_O μ μ' [q] → W p l e R s m args below meth c H1 locs (cells + 1) (slots + N) Q (F0 m (pc + 2) ls (.ref q :: rest))) : W p l e R s m args below meth c H locs cells slots Q (F0 m pc ls (.int (iN n) :: rest)) := by
  obtain ⟨⟨ws, h1, h2, hP, hD⟩, hS⟩ := hw
  subst hty
  refine va_newa S.1 S.2.1 harr rfl hK hP hD hS hA ha (fun h => ?_) (by rw [iN_cl hn.1 (by omega)]; exact hN) hbytes hcells hslots hdg (fun q cB H1 hK1 hP1 hD1 hS1 => ?_)
  · have := (iN_lt (x := n) (y := 0) (by omega) inI_0).mp (by rw [iN_z]; exact h)
    omega
  · have e1 : cB = cA := fm_RAu (hK1.2 tys.length (cB, newarray.typeOf atype) (by simp)).2 (hK.2 t0 _ ht).2
    subst e1
    exact kk q _ H1 ⟨(fm_M.push h1 h2 hP1 hD1).2, hS1⟩ (fm_M.push h1 h2 hP1 hD1).1 (fm_up_s _ _ _) (fun q hq => fm_up_n (fun h => hq (by rw [h]; exact List.mem_singleton.mpr rfl)))
end FmNew
theorem fm_i0 (N : Nat) (cB : ClassId) : vp_cell cB (N, .inl (fun _ => iN 0)) = arrV cB N (fun _ => defaultValue .int) := by
  show arrV cB N (fun _ => Value.int (iN 0)) = _
  rw [iN_z]; rfl
theorem fm_z0 (N : Nat) (cB : ClassId) : vp_cell cB (N, .inl (fun _ => iN 0)) = arrV cB N (fun _ => defaultValue .boolean) := by
  show arrV cB N (fun _ => Value.int (iN 0)) = _
  rw [iN_z]; rfl
theorem fm_j0 (N : Nat) (cB : ClassId) : vp_cell cB (N, .inr (.inl (fun _ => jN 0))) = arrV cB N (fun _ => defaultValue .long) := by
  show arrV cB N (fun _ => Value.long (jN 0)) = _
  rw [jN_z]; rfl
/-- the constructor on its way: k arrays are made, fs are the object's fields -/
def moCI (cs : Nat → ClassId) (μ0 : fm_Mu) (h0 k : Nat) (μ : fm_Mu) (ad : Nat → Nat) (fs : List Value) : Prop := ad 0 = h0 ∧ ((∀ i j, i ≤ k → j ≤ k → ad i = ad j → i = j) ∧ ∀ i, i ≤ k → μ (ad i) ≠ none) ∧ (∀ j, 1 ≤ j → j ≤ k → μ (ad j) = some (moArr cs j (fun _ => 0))) ∧ (∀ a e, a ≠ h0 → μ0 a = some e → μ a = some e) ∧ μ h0 = some (oE 4 fs)
theorem moCI.new {cs : Nat → ClassId} {μ0 μ μ' : fm_Mu} {h0 k q : Nat} {ad : Nat → Nat} {fs : List Value} (h : moCI cs μ0 h0 k μ ad fs) (hn : μ q = none) (hq : μ' q = some (moArr cs (k + 1) (fun _ => 0))) (hO : fm_O μ μ' [q]) : moCI cs μ0 h0 (k + 1) μ' (uF ad (k + 1) q) fs := by
  obtain ⟨h1, ⟨h2, h3⟩, h4, h5, h6⟩ := h
  have ne : ∀ a, μ a ≠ none → a ∉ [q] := fun a ha hm => by rw [List.mem_singleton.mp hm] at ha; exact ha hn
  have old : ∀ i, i ≤ k → uF ad (k + 1) q i = ad i := fun i hi => uF_n (by omega)
  have nq : ∀ i, i ≤ k → ad i ≠ q := fun i hi e => h3 i hi (by rw [e]; exact hn)
  refine ⟨by rw [old 0 (by omega)]; exact h1, ⟨fun i j hi hj e => ?_, fun i hi => ?_⟩, fun j hj hk => ?_, fun a e ha hm => hO.at (ne a (by rw [h5 a e ha hm]; exact Option.some_ne_none _)) (h5 a e ha hm), hO.at (ne h0 (by rw [h6]; exact Option.some_ne_none _)) h6⟩
  · by_cases hi1 : i = k + 1
    · by_cases hj1 : j = k + 1
      · rw [hi1, hj1]
      · rw [hi1, uF_s, old j (by omega)] at e; exact absurd e.symm (nq j (by omega))
    · by_cases hj1 : j = k + 1
      · rw [hj1, uF_s, old i (by omega)] at e; exact absurd e (nq i (by omega))
      · rw [old i (by omega), old j (by omega)] at e; exact h2 i j (by omega) (by omega) e
  · by_cases hi1 : i = k + 1
    · rw [hi1, uF_s, hq]; exact Option.some_ne_none _
    · rw [old i (by omega), hO _ (ne _ (h3 i (by omega)))]; exact h3 i (by omega)
  · by_cases hj1 : j = k + 1
    · rw [hj1, uF_s]; exact hq
    · rw [old j (by omega)]; exact hO.at (ne _ (h3 j (by omega))) (h4 j hj (by omega))
theorem moCI.put {cs : Nat → ClassId} {μ0 μ μ' : fm_Mu} {h0 k : Nat} {ad : Nat → Nat} {fs fs' : List Value} (h : moCI cs μ0 h0 k μ ad fs) (hh : μ' h0 = some (oE 4 fs')) (hO : fm_O μ μ' [h0]) : moCI cs μ0 h0 k μ' ad fs' := by
  obtain ⟨h1, ⟨h2, h3⟩, h4, h5, h6⟩ := h
  have ne : ∀ a, a ≠ h0 → a ∉ [h0] := fun a ha hm => ha (List.mem_singleton.mp hm)
  refine ⟨h1, ⟨h2, fun i hi => ?_⟩, fun j hj hk => hO.at (ne _ (fun e => by rw [← h1] at e; have := h2 j 0 hk (by omega) e; omega)) (h4 j hj hk), fun a e ha hm => hO.at (ne a ha) (h5 a e ha hm), hh⟩
  by_cases e : ad i = h0
  · rw [e, hh]; exact Option.some_ne_none _
  · rw [hO _ (ne _ e)]; exact h3 i hi
