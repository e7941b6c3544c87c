-- THE REFERENCE'S STATE (own work): scalars V by the field's number, arrays M by the array's number, at addresses ad 0 (the object), ad 1 .. ad 16
abbrev tysA (cs : Nat → ClassId) : List (ClassId × FieldType) := [(cs 0, .int), (cs 1, .long), (cs 2, .boolean), (cs 3, .object "ArithmeticForms$Decimal"), (cs 4, .object "ArithmeticForms$Receiver")]
def moLen (k : Nat) : Nat := match k with
  | 1 => 2240
  | 2 => 7
  | 3 => 7
  | 4 => 7
  | 5 => 40
  | 6 => 3131
  | 7 => 101
  | 8 => 101
  | 9 => 101
  | 10 => 101
  | _ => 21
theorem moLen_lt (k : Nat) : moLen k < 2147483648 := by unfold moLen; split <;> decide
abbrev moCell (ad : Nat → Nat) (V : Nat → Int) : va_E := oE 4 [.int (iN (V 0)), .int (iN (V 1)), .ref (ad 1), .ref (ad 2), .ref (ad 3), .ref (ad 4), .ref (ad 5), .ref (ad 6), .ref (ad 7), .ref (ad 8), .ref (ad 9), .ref (ad 10), .int (iN (V 12)), .int (iN (V 13)), .int (iN (V 14)), .ref (ad 11), .ref (ad 12), .ref (ad 13), .ref (ad 14), .ref (ad 15), .ref (ad 16), .long (jN (V 21)), .int (iN (V 22))]
def uI (F : Int → Int) (i x : Int) : Int → Int := fun q => if q = i then x else F q
theorem uI_s {F : Int → Int} {i x : Int} : uI F i x i = x := by simp [uI]
theorem uI_n {F : Int → Int} {i j x : Int} (h : j ≠ i) : uI F i x j = F j := by simp [uI, h]
theorem uF_I {F : Int → Int} {i x : Int} (h : 0 ≤ i) : uF (fun j : Nat => F (j : Int)) i.toNat x = fun j : Nat => uI F i x (j : Int) := by
  funext j
  unfold uF uI
  by_cases hj : j = i.toNat
  · rw [if_pos hj, if_pos (by omega)]
  · rw [if_neg hj, if_neg (by omega)]
def moArr (cs : Nat → ClassId) (k : Nat) (F : Int → Int) : va_E := if k ≤ 13 then iE (cs 0) (moLen k) (fun j => F (j : Int)) else if k ≤ 15 then jE (cs 1) (moLen k) (fun j => F (j : Int)) else iE (cs 2) (moLen k) (fun j => F (j : Int))
def moS (cs : Nat → ClassId) (μ : fm_Mu) (ad : Nat → Nat) (V : Nat → Int) (M : Nat → Int → Int) : Prop := (∀ i j, i ≤ 16 → j ≤ 16 → ad i = ad j → i = j) ∧ μ (ad 0) = some (moCell ad V) ∧ ∀ k, 1 ≤ k → k ≤ 16 → μ (ad k) = some (moArr cs k (M k))
abbrev moL (ad : Nat → Nat) : List Nat := (List.range 17).map ad
theorem moL_in {ad : Nat → Nat} {k : Nat} (h : k ≤ 16) : ad k ∈ moL ad := List.mem_map.mpr ⟨k, List.mem_range.mpr (by omega), rfl⟩
def setA (M : Nat → Int → Int) (k : Nat) (i x : Int) : Nat → Int → Int := fun j => if j = k then uI (M j) i x else M j
theorem setA_s (M : Nat → Int → Int) (k : Nat) (i x : Int) : setA M k i x k = uI (M k) i x := by simp [setA]
theorem setA_n {M : Nat → Int → Int} {k j : Nat} {i x : Int} (h : j ≠ k) : setA M k i x j = M j := by simp [setA, h]
/-- the reference's state on the way: V, M at this heap, nothing else changed since μ0 -/
def moW (D : va_G) (A : Nat → Prop) (H0 : Heap) (μ0 : fm_Mu) (cs : Nat → ClassId) (ad : Nat → Nat) (V : Nat → Int) (M : Nat → Int → Int) (H : Heap) (locs : List Loc) : Prop := ∃ μ, fm_W D clsA A H0 μ H locs ∧ moS cs μ ad V M ∧ fm_O μ0 μ (moL ad)
def moQv (D : va_G) (cs : Nat → ClassId) (ad : Nat → Nat) (μ : fm_Mu) (sz : Nat) (P : (Nat → Int) → (Nat → Int → Int) → Prop) : Array Value → State → Outcome → State → Prop := fm_Qv D clsA (tysA cs) μ sz (fun μ' => ∃ V' M', P V' M' ∧ moS cs μ' ad V' M' ∧ fm_O μ μ' (moL ad))
def moQi (D : va_G) (cs : Nat → ClassId) (ad : Nat → Nat) (μ : fm_Mu) (sz : Nat) (P : Int → (Nat → Int) → (Nat → Int → Int) → Prop) : Array Value → State → Outcome → State → Prop := fm_Qi D clsA (tysA cs) μ sz (fun x μ' => ∃ V' M', P x V' M' ∧ moS cs μ' ad V' M' ∧ fm_O μ μ' (moL ad))
def moQl (D : va_G) (cs : Nat → ClassId) (ad : Nat → Nat) (μ : fm_Mu) (sz : Nat) (P : Int → (Nat → Int) → (Nat → Int → Int) → Prop) : Array Value → State → Outcome → State → Prop := fm_Ql D clsA (tysA cs) μ sz (fun x μ' => ∃ V' M', P x V' M' ∧ moS cs μ' ad V' M' ∧ fm_O μ μ' (moL ad))
section MoRows
variable {p : Program} {l : Launch} {e : Env} {R : Room} {s : State} {m : MethodId} {args : Array Value} {below : List Frame} {meth : Method} {c : Code} {H H0 : Heap} {locs : List Loc} {cells slots : Nat} {Q : State → Prop} {cc : ByteArray} {pc nL : Nat} {ls : Array Slot} {rest st0 : List Value} {own : String} {D : va_G} {A : Nat → Prop} {μ μ0 : fm_Mu} {cs : Nat → ClassId} {ad : Nat → Nat} {V : Nat → Int} {M : Nat → Int → Int} {Z : (Nat → Prop) → State → Heap → Prop}
theorem moS.put {μ' : fm_Mu} {k : Nat} {F : Int → Int} (h : moS cs μ ad V M) (hk : 1 ≤ k ∧ k ≤ 16) (h1 : μ' (ad k) = some (moArr cs k F)) (h2 : fm_O μ μ' [ad k]) {M' : Nat → Int → Int} (hs : M' k = F) (hn : ∀ j, j ≠ k → M' j = M j) : moS cs μ' ad V M' := by
  have hne : ∀ j, j ≤ 16 → j ≠ k → ad j ∉ [ad k] := fun j hj hjk hm => hjk (h.1 j k hj hk.2 (List.mem_singleton.mp hm))
  refine ⟨h.1, h2.at (hne 0 (by omega) (by omega)) h.2.1, fun j h3 h4 => ?_⟩
  by_cases hjk : j = k
  · subst hjk
    rw [hs]
    exact h1
  · rw [hn j hjk]
    exact h2.at (hne j h4 hjk) (h.2.2 j h3 h4)
theorem moS.scal {μ' : fm_Mu} {V' : Nat → Int} (h : moS cs μ ad V M) (h1 : μ' (ad 0) = some (moCell ad V')) (h2 : fm_O μ μ' [ad 0]) : moS cs μ' ad V' M :=
  ⟨h.1, h1, fun j h3 h4 => h2.at (fun hm => absurd (h.1 j 0 h4 (by omega) (List.mem_singleton.mp hm)) (by omega)) (h.2.2 j h3 h4)⟩
theorem moO1 {k : Nat} (hk : k ≤ 16) {μ1 μ2 : fm_Mu} (h : fm_O μ0 μ1 (moL ad)) (h2 : fm_O μ1 μ2 [ad k]) : fm_O μ0 μ2 (moL ad) := h.tr (h2.mono (fun q hq => by rw [List.mem_singleton.mp hq]; exact moL_in hk))
theorem mo_get {v : Value} {index : Nat} (k : Nat) (S : CallFix p m c cc nL s args wA "ArithmeticFormsModel") (hK : va_K D clsA (tysA cs) s) (hm : moW D A H0 μ0 cs ad V M H locs) (hk : k < 23) (hlink : (Cond.fieldLink "ArithmeticFormsModel" index "ArithmeticFormsModel" (T_Mo k).2.1 (T_Mo k).2.2.1) ∈ wA) (hd : (T_Mo k).1 = "ArithmeticFormsModel") (hv : [Value.int (iN (V 0)), .int (iN (V 1)), .ref (ad 1), .ref (ad 2), .ref (ad 3), .ref (ad 4), .ref (ad 5), .ref (ad 6), .ref (ad 7), .ref (ad 8), .ref (ad 9), .ref (ad 10), .int (iN (V 12)), .int (iN (V 13)), .int (iN (V 14)), .ref (ad 11), .ref (ad 12), .ref (ad 13), .ref (ad 14), .ref (ad 15), .ref (ad 16), .long (jN (V 21)), .int (iN (V 22))][k]? = some v) (hdg : decode cc pc = .ok (.getfield index, 3)) (kk : W p l e R s m args below meth c H locs cells slots Q (F0 m (pc + 3) ls (v :: rest))) : W p l e R s m args below meth c H locs cells slots Q (F0 m pc ls (.ref (ad 0) :: rest)) := by
  obtain ⟨μ, hw, hM, hO⟩ := hm
  exact fm_get S hK hw hM.2.1 i_Mo rfl k hk (S.2.2.2.2 _ hlink) (fun x hx => by rw [hd] at hx; exact hx) hv hdg kk
theorem mo_iald {i : Int} (k : Nat) (S : CallFix p m c cc nL s args wA own) (hK : va_K D clsA (tysA cs) s) (hm : moW D A H0 μ0 cs ad V M H locs) (hk : 1 ≤ k ∧ k ≤ 13) (hi : 0 ≤ i ∧ i < (moLen k : Int)) (hdg : decode cc pc = .ok (.iaload, 1)) (kk : W p l e R s m args below meth c H locs cells slots Q (F0 m (pc + 1) ls (.int (iN (M k i)) :: rest))) : W p l e R s m args below meth c H locs cells slots Q (F0 m pc ls (.int (iN i) :: .ref (ad k) :: rest)) := by
  obtain ⟨μ, hw, hM, hO⟩ := hm
  have e := hM.2.2 k hk.1 (by omega)
  rw [moArr, if_pos hk.2] at e
  exact fm_iald S hK hw e 0 rfl ⟨hi.1, hi.2, moLen_lt k⟩ hdg (by rw [Int.toNat_of_nonneg hi.1]; exact kk)
theorem mo_iast {i x : Int} (k : Nat) (S : CallFix p m c cc nL s args wA own) (hK : va_K D clsA (tysA cs) s) (hm : moW D A H0 μ0 cs ad V M H locs) (hk : 1 ≤ k ∧ k ≤ 13) (hi : 0 ≤ i ∧ i < (moLen k : Int)) (hdg : decode cc pc = .ok (.iastore, 1)) (kk : ∀ (M' : Nat → Int → Int) (H1 : Heap) (locs1 : List Loc), M' = setA M k i x → moW D A H0 μ0 cs ad V M' H1 locs1 → W p l e R s m args below meth c H1 locs1 cells slots Q (F0 m (pc + 1) ls rest)) : W p l e R s m args below meth c H locs cells slots Q (F0 m pc ls (.int (iN x) :: .int (iN i) :: .ref (ad k) :: rest)) := by
  obtain ⟨μ, hw, hM, hO⟩ := hm
  have e := hM.2.2 k hk.1 (by omega)
  rw [moArr, if_pos hk.2] at e
  refine fm_iast S hK hw e 0 rfl ⟨hi.1, hi.2, moLen_lt k⟩ hdg (fun μ' H1 locs1 hw1 h1 h2 => ?_)
  rw [uF_I hi.1] at h1
  exact kk _ H1 locs1 rfl ⟨μ', hw1, hM.put ⟨hk.1, by omega⟩ (by rw [moArr, if_pos hk.2]; exact h1) h2 (setA_s _ _ _ _) (fun j hj => setA_n hj), moO1 (by omega) hO h2⟩
theorem mo_lald {i : Int} (k : Nat) (S : CallFix p m c cc nL s args wA own) (hK : va_K D clsA (tysA cs) s) (hm : moW D A H0 μ0 cs ad V M H locs) (hk : 14 ≤ k ∧ k ≤ 15) (hi : 0 ≤ i ∧ i < (moLen k : Int)) (hdg : decode cc pc = .ok (.laload, 1)) (kk : W p l e R s m args below meth c H locs cells slots Q (F0 m (pc + 1) ls (.long (jN (M k i)) :: rest))) : W p l e R s m args below meth c H locs cells slots Q (F0 m pc ls (.int (iN i) :: .ref (ad k) :: rest)) := by
  obtain ⟨μ, hw, hM, hO⟩ := hm
  have e := hM.2.2 k (by omega) (by omega)
  rw [moArr, if_neg (by omega), if_pos hk.2] at e
  exact fm_lald S hK hw e 1 rfl ⟨hi.1, hi.2, moLen_lt k⟩ hdg (by rw [Int.toNat_of_nonneg hi.1]; exact kk)
theorem mo_last {i x : Int} (k : Nat) (S : CallFix p m c cc nL s args wA own) (hK : va_K D clsA (tysA cs) s) (hm : moW D A H0 μ0 cs ad V M H locs) (hk : 14 ≤ k ∧ k ≤ 15) (hi : 0 ≤ i ∧ i < (moLen k : Int)) (hdg : decode cc pc = .ok (.lastore, 1)) (kk : ∀ (M' : Nat → Int → Int) (H1 : Heap) (locs1 : List Loc), M' = setA M k i x → moW D A H0 μ0 cs ad V M' H1 locs1 → W p l e R s m args below meth c H1 locs1 cells slots Q (F0 m (pc + 1) ls rest)) : W p l e R s m args below meth c H locs cells slots Q (F0 m pc ls (.long (jN x) :: .int (iN i) :: .ref (ad k) :: rest)) := by
  obtain ⟨μ, hw, hM, hO⟩ := hm
  have e := hM.2.2 k (by omega) (by omega)
  rw [moArr, if_neg (by omega), if_pos hk.2] at e
  refine fm_last S hK hw e 1 rfl ⟨hi.1, hi.2, moLen_lt k⟩ hdg (fun μ' H1 locs1 hw1 h1 h2 => ?_)
  rw [uF_I hi.1] at h1
  exact kk _ H1 locs1 rfl ⟨μ', hw1, hM.put ⟨by omega, by omega⟩ (by rw [moArr, if_neg (by omega), if_pos hk.2]; exact h1) h2 (setA_s _ _ _ _) (fun j hj => setA_n hj), moO1 (by omega) hO h2⟩
theorem mo_zald {i : Int} (S : CallFix p m c cc nL s args wA own) (hK : va_K D clsA (tysA cs) s) (hm : moW D A H0 μ0 cs ad V M H locs) (hi : 0 ≤ i ∧ i < 21) (hdg : decode cc pc = .ok (.baload, 1)) (kk : W p l e R s m args below meth c H locs cells slots Q (F0 m (pc + 1) ls (.int (iN (M 16 i)) :: rest))) : W p l e R s m args below meth c H locs cells slots Q (F0 m pc ls (.int (iN i) :: .ref (ad 16) :: rest)) := by
  obtain ⟨μ, ⟨⟨ws, h1, h2, hP, hD⟩, hS⟩, hM, hO⟩ := hm
  obtain ⟨q0, hq⟩ := h1 _ _ (hM.2.2 16 (by omega) (by omega))
  exact va_zald S.1 S.2.1 hK hP q0 2 hq rfl (iN_vin hi.1 (n := 21) hi.2 (by omega)) hdg (by rw [iN_cl hi.1 (by omega)]; dsimp only; rw [Int.toNat_of_nonneg hi.1]; exact kk)
theorem mo_zast {i x : Int} (S : CallFix p m c cc nL s args wA own) (hK : va_K D clsA (tysA cs) s) (hm : moW D A H0 μ0 cs ad V M H locs) (hx : x = 0 ∨ x = 1) (hi : 0 ≤ i ∧ i < 21) (hdg : decode cc pc = .ok (.bastore, 1)) (kk : ∀ (M' : Nat → Int → Int) (H1 : Heap) (locs1 : List Loc), M' = setA M 16 i x → moW D A H0 μ0 cs ad V M' H1 locs1 → W p l e R s m args below meth c H1 locs1 cells slots Q (F0 m (pc + 1) ls rest)) : W p l e R s m args below meth c H locs cells slots Q (F0 m pc ls (.int (iN x) :: .int (iN i) :: .ref (ad 16) :: rest)) := by
  obtain ⟨μ, ⟨⟨ws, h1, h2, hP, hD⟩, hS⟩, hM, hO⟩ := hm
  obtain ⟨q0, hq⟩ := h1 _ _ (hM.2.2 16 (by omega) (by omega))
  refine va_zast S.1 S.2.1 hK hP hD hS q0 2 hq rfl (iN_vin hi.1 (n := 21) hi.2 (by omega)) hdg (fun H1 locs1 hP1 hD1 hS1 => ?_)
  have e : vp_nar .boolean (iN x) = iN x := by rcases hx with h | h <;> subst h <;> decide
  rw [iN_cl hi.1 (by omega), e, fm_updI, uF_I hi.1] at hP1 hD1
  exact kk _ H1 locs1 rfl ⟨_, ⟨fm_M.set h1 h2 hD hq hP1 hD1, hS1⟩, hM.put ⟨by omega, by omega⟩ (fm_up_s _ _ _) (fun q hq => fm_up_n (fun h => hq (by rw [h]; exact List.mem_singleton.mpr rfl))) (setA_s _ _ _ _) (fun j hj => setA_n hj), moO1 (k := 16) (by omega) hO (fun q hq => fm_up_n (fun h => hq (by rw [h]; exact List.mem_singleton.mpr rfl)))⟩
theorem mo_puti {x : Int} {index : Nat} (k : Nat) (S : CallFix p m c cc nL s args wA "ArithmeticFormsModel") (hK : va_K D clsA (tysA cs) s) (hm : moW D A H0 μ0 cs ad V M H locs) (hk : k = 0 ∨ k = 12 ∨ k = 13 ∨ k = 14) (hlink : (Cond.fieldLink "ArithmeticFormsModel" index "ArithmeticFormsModel" (T_Mo k).2.1 (T_Mo k).2.2.1) ∈ wA) (hdg : decode cc pc = .ok (.putfield index, 3)) (kk : ∀ (V' : Nat → Int) (H1 : Heap) (locs1 : List Loc), V' = uF V k x → moW D A H0 μ0 cs ad V' M H1 locs1 → W p l e R s m args below meth c H1 locs1 cells slots Q (F0 m (pc + 3) ls rest)) : W p l e R s m args below meth c H locs cells slots Q (F0 m pc ls (.int (iN x) :: .ref (ad 0) :: rest)) := by
  obtain ⟨μ, hw, hM, hO⟩ := hm
  have go : ∀ (μ' : fm_Mu) (H1 : Heap) (locs1 : List Loc), fm_W D clsA A H0 μ' H1 locs1 → μ' (ad 0) = some (moCell ad (uF V k x)) → fm_O μ μ' [ad 0] → W p l e R s m args below meth c H1 locs1 cells slots Q (F0 m (pc + 3) ls rest) := fun μ' H1 locs1 hw1 h1 h2 => kk _ H1 locs1 rfl ⟨μ', hw1, hM.scal h1 h2, moO1 (by omega) hO h2⟩
  rcases hk with h | h | h | h <;> subst h
  · exact fm_put S hK hw hM.2.1 i_Mo rfl t_Mo t_Mo_ok n_Mo 0 (by decide) (S.2.2.2.2 _ hlink) (fun _ h => h) rfl (ty := .int) (by decide +kernel) rfl rfl (Nat.le_of_ble_eq_true rfl) hdg go
  · exact fm_put S hK hw hM.2.1 i_Mo rfl t_Mo t_Mo_ok n_Mo 12 (by decide) (S.2.2.2.2 _ hlink) (fun _ h => h) rfl (ty := .int) (by decide +kernel) rfl rfl (Nat.le_of_ble_eq_true rfl) hdg go
  · exact fm_put S hK hw hM.2.1 i_Mo rfl t_Mo t_Mo_ok n_Mo 13 (by decide) (S.2.2.2.2 _ hlink) (fun _ h => h) rfl (ty := .int) (by decide +kernel) rfl rfl (Nat.le_of_ble_eq_true rfl) hdg go
  · exact fm_put S hK hw hM.2.1 i_Mo rfl t_Mo t_Mo_ok n_Mo 14 (by decide) (S.2.2.2.2 _ hlink) (fun _ h => h) rfl (ty := .int) (by decide +kernel) rfl rfl (Nat.le_of_ble_eq_true rfl) hdg go
theorem mo_putl {x : Int} {index : Nat} (S : CallFix p m c cc nL s args wA "ArithmeticFormsModel") (hK : va_K D clsA (tysA cs) s) (hm : moW D A H0 μ0 cs ad V M H locs) (hlink : (Cond.fieldLink "ArithmeticFormsModel" index "ArithmeticFormsModel" (T_Mo 21).2.1 (T_Mo 21).2.2.1) ∈ wA) (hdg : decode cc pc = .ok (.putfield index, 3)) (kk : ∀ (V' : Nat → Int) (H1 : Heap) (locs1 : List Loc), V' = uF V 21 x → moW D A H0 μ0 cs ad V' M H1 locs1 → W p l e R s m args below meth c H1 locs1 cells slots Q (F0 m (pc + 3) ls rest)) : W p l e R s m args below meth c H locs cells slots Q (F0 m pc ls (.long (jN x) :: .ref (ad 0) :: rest)) := by
  obtain ⟨μ, hw, hM, hO⟩ := hm
  exact fm_put S hK hw hM.2.1 i_Mo rfl t_Mo t_Mo_ok n_Mo 21 (by decide) (S.2.2.2.2 _ hlink) (fun _ h => h) rfl (ty := .long) (by decide +kernel) rfl rfl (Nat.le_of_ble_eq_true rfl) hdg (fun μ' H1 locs1 hw1 h1 h2 => kk (uF V 21 x) H1 locs1 rfl ⟨μ', hw1, hM.scal h1 h2, moO1 (by omega) hO h2⟩)
theorem mo_putz {x : Int} {index : Nat} (S : CallFix p m c cc nL s args wA "ArithmeticFormsModel") (hK : va_K D clsA (tysA cs) s) (hm : moW D A H0 μ0 cs ad V M H locs) (hx : x = 0 ∨ x = 1) (hlink : (Cond.fieldLink "ArithmeticFormsModel" index "ArithmeticFormsModel" (T_Mo 22).2.1 (T_Mo 22).2.2.1) ∈ wA) (hdg : decode cc pc = .ok (.putfield index, 3)) (kk : ∀ (V' : Nat → Int) (H1 : Heap) (locs1 : List Loc), V' = uF V 22 x → moW D A H0 μ0 cs ad V' M H1 locs1 → W p l e R s m args below meth c H1 locs1 cells slots Q (F0 m (pc + 3) ls rest)) : W p l e R s m args below meth c H locs cells slots Q (F0 m pc ls (.int (iN x) :: .ref (ad 0) :: rest)) := by
  obtain ⟨μ, hw, hM, hO⟩ := hm
  exact fm_put S hK hw hM.2.1 i_Mo rfl t_Mo t_Mo_ok n_Mo 22 (by decide) (S.2.2.2.2 _ hlink) (fun _ h => h) rfl (ty := .boolean) (by decide +kernel) (by rcases hx with h | h <;> subst h <;> decide) (by rcases hx with h | h <;> subst h <;> decide) (Nat.le_of_ble_eq_true rfl) hdg (fun μ' H1 locs1 hw1 h1 h2 => kk (uF V 22 x) H1 locs1 rfl ⟨μ', hw1, hM.scal h1 h2, moO1 (by omega) hO h2⟩)
-- calls of the reference's own methods
theorem mo_cv {y : MethodName} {bytes : ByteArray} {maxL n index : Nat} {rm : Room} {As : List Value} {P : (Nat → Int) → (Nat → Int → Int) → Prop} (S : CallFix p m c cc nL s args wA own) (hK : va_K D clsA (tysA cs) s) (hZo : fm_Zok Z) (hZ : Z A s s.heap) (hA : ∀ q, s.heap.size ≤ q → A q) (hm : moW D A s.heap μ0 cs ad V M H locs) (con : ∀ (μ : fm_Mu) (sz : Nat), moS cs μ ad V M → Met l y (Cond.code y bytes maxL none :: wA) rm (fm_Pc D clsA (tysA cs) Z μ sz (.ref (ad 0) :: As)) (moQv D cs ad μ sz P) 0 0 (fm_A μ sz)) (hG : GoodIn wA (wsV own index "ArithmeticFormsModel" y (Cond.code y bytes maxL none :: wA))) (hrm : rm.cells = 0 ∧ rm.slots = 0 ∧ rm.frames + 1 ≤ R.frames ∧ 8 + (maxL + 11) + rm.locals ≤ R.locals) (hd : y.cls = "ArithmeticFormsModel" ∧ y.cls ≠ "java/lang/invoke/MethodHandle" ∧ y.cls ≠ "java/lang/invoke/VarHandle" ∧ (parseMethodDescriptor y.desc).map (fun d => d.parameters.length) = some n) (hn : As.length = n) (hsize : ls.size = nL) (hst : st0 = As.reverse ++ .ref (ad 0) :: rest) (hW : (rest.map fun v => v.category).sum ≤ 8) (hf : cells ≤ R.cells ∧ slots ≤ R.slots) (hdg : decode cc pc = .ok (.invokevirtual index, 3)) (kk : ∀ (V' : Nat → Int) (M' : Nat → Int → Int) (H1 : Heap) (locs1 : List Loc), P V' M' → moW D A s.heap μ0 cs ad V' M' H1 locs1 → W p l e R s m args below meth c H1 locs1 cells slots Q (F0 m (pc + 3) ls rest)) : W p l e R s m args below meth c H locs cells slots Q (F0 m pc ls st0) := by
  obtain ⟨μ, hw, hM, hO⟩ := hm
  exact fm_callv (va_runV (As := As) (rest := rest) S (con μ H.size hM) (cwV n S.2.2.2.2 hG rfl hrm.1 hrm.2.1 hd hrm.2.2) (fm_preV hZo hK hw hZ hA hM.2.1 rfl As) rfl hn hsize hst (lv_room hW) hdg hf) hw hA (fun μ' H1 locs1 hp hw1 => by
    obtain ⟨V', M', hp, hM', hO'⟩ := hp
    exact kk V' M' H1 locs1 hp ⟨μ', hw1, hM', hO.tr hO'⟩)
theorem mo_ci {y : MethodName} {bytes : ByteArray} {maxL n index : Nat} {rm : Room} {ret : Option FieldType} {As : List Value} {P : Int → (Nat → Int) → (Nat → Int → Int) → Prop} (S : CallFix p m c cc nL s args wA own) (hK : va_K D clsA (tysA cs) s) (hZo : fm_Zok Z) (hZ : Z A s s.heap) (hA : ∀ q, s.heap.size ≤ q → A q) (hm : moW D A s.heap μ0 cs ad V M H locs) (con : ∀ (μ : fm_Mu) (sz : Nat), moS cs μ ad V M → Met l y (Cond.code y bytes maxL ret :: wA) rm (fm_Pc D clsA (tysA cs) Z μ sz (.ref (ad 0) :: As)) (moQi D cs ad μ sz P) 0 0 (fm_A μ sz)) (hG : GoodIn wA (wsV own index "ArithmeticFormsModel" y (Cond.code y bytes maxL ret :: wA))) (hrm : rm.cells = 0 ∧ rm.slots = 0 ∧ rm.frames + 1 ≤ R.frames ∧ 8 + (maxL + 11) + rm.locals ≤ R.locals) (hd : y.cls = "ArithmeticFormsModel" ∧ y.cls ≠ "java/lang/invoke/MethodHandle" ∧ y.cls ≠ "java/lang/invoke/VarHandle" ∧ (parseMethodDescriptor y.desc).map (fun d => d.parameters.length) = some n) (hn : As.length = n) (hsize : ls.size = nL) (hst : st0 = As.reverse ++ .ref (ad 0) :: rest) (hW : (rest.map fun v => v.category).sum ≤ 8) (hf : cells ≤ R.cells ∧ slots ≤ R.slots) (hdg : decode cc pc = .ok (.invokevirtual index, 3)) (kk : ∀ (x : Int) (V' : Nat → Int) (M' : Nat → Int → Int) (H1 : Heap) (locs1 : List Loc), P x V' M' → moW D A s.heap μ0 cs ad V' M' H1 locs1 → W p l e R s m args below meth c H1 locs1 cells slots Q (F0 m (pc + 3) ls (.int (iN x) :: rest))) : W p l e R s m args below meth c H locs cells slots Q (F0 m pc ls st0) := by
  obtain ⟨μ, hw, hM, hO⟩ := hm
  exact fm_calli (va_runV (As := As) (rest := rest) S (con μ H.size hM) (cwV n S.2.2.2.2 hG rfl hrm.1 hrm.2.1 hd hrm.2.2) (fm_preV hZo hK hw hZ hA hM.2.1 rfl As) rfl hn hsize hst (lv_room hW) hdg hf) hw hA (fun x μ' H1 locs1 hp hw1 => by
    obtain ⟨V', M', hp, hM', hO'⟩ := hp
    exact kk x V' M' H1 locs1 hp ⟨μ', hw1, hM', hO.tr hO'⟩)
theorem mo_cl {y : MethodName} {bytes : ByteArray} {maxL n index : Nat} {rm : Room} {ret : Option FieldType} {As : List Value} {P : Int → (Nat → Int) → (Nat → Int → Int) → Prop} (S : CallFix p m c cc nL s args wA own) (hK : va_K D clsA (tysA cs) s) (hZo : fm_Zok Z) (hZ : Z A s s.heap) (hA : ∀ q, s.heap.size ≤ q → A q) (hm : moW D A s.heap μ0 cs ad V M H locs) (con : ∀ (μ : fm_Mu) (sz : Nat), moS cs μ ad V M → Met l y (Cond.code y bytes maxL ret :: wA) rm (fm_Pc D clsA (tysA cs) Z μ sz (.ref (ad 0) :: As)) (moQl D cs ad μ sz P) 0 0 (fm_A μ sz)) (hG : GoodIn wA (wsV own index "ArithmeticFormsModel" y (Cond.code y bytes maxL ret :: wA))) (hrm : rm.cells = 0 ∧ rm.slots = 0 ∧ rm.frames + 1 ≤ R.frames ∧ 8 + (maxL + 11) + rm.locals ≤ R.locals) (hd : y.cls = "ArithmeticFormsModel" ∧ y.cls ≠ "java/lang/invoke/MethodHandle" ∧ y.cls ≠ "java/lang/invoke/VarHandle" ∧ (parseMethodDescriptor y.desc).map (fun d => d.parameters.length) = some n) (hn : As.length = n) (hsize : ls.size = nL) (hst : st0 = As.reverse ++ .ref (ad 0) :: rest) (hW : (rest.map fun v => v.category).sum ≤ 8) (hf : cells ≤ R.cells ∧ slots ≤ R.slots) (hdg : decode cc pc = .ok (.invokevirtual index, 3)) (kk : ∀ (x : Int) (V' : Nat → Int) (M' : Nat → Int → Int) (H1 : Heap) (locs1 : List Loc), P x V' M' → moW D A s.heap μ0 cs ad V' M' H1 locs1 → W p l e R s m args below meth c H1 locs1 cells slots Q (F0 m (pc + 3) ls (.long (jN x) :: rest))) : W p l e R s m args below meth c H locs cells slots Q (F0 m pc ls st0) := by
  obtain ⟨μ, hw, hM, hO⟩ := hm
  exact fm_calll (va_runV (As := As) (rest := rest) S (con μ H.size hM) (cwV n S.2.2.2.2 hG rfl hrm.1 hrm.2.1 hd hrm.2.2) (fm_preV hZo hK hw hZ hA hM.2.1 rfl As) rfl hn hsize hst (lv_room hW) hdg hf) hw hA (fun x μ' H1 locs1 hp hw1 => by
    obtain ⟨V', M', hp, hM', hO'⟩ := hp
    exact kk x V' M' H1 locs1 hp ⟨μ', hw1, hM', hO.tr hO'⟩)
/-- a call that only reads -/
theorem mo_pi {y : MethodName} {bytes : ByteArray} {maxL n index : Nat} {rm : Room} {ret : Option FieldType} {As : List Value} {P : Int → Prop} (S : CallFix p m c cc nL s args wA own) (hK : va_K D clsA (tysA cs) s) (hZo : fm_Zok Z) (hZ : Z A s s.heap) (hA : ∀ q, s.heap.size ≤ q → A q) (hm : moW D A s.heap μ0 cs ad V M H locs) (con : ∀ (μ : fm_Mu) (sz : Nat), moS cs μ ad V M → Met l y (Cond.code y bytes maxL ret :: wA) rm (fm_Pc D clsA (tysA cs) Z μ sz (.ref (ad 0) :: As)) (fm_Si P) 0 0 (fun _ => False)) (hG : GoodIn wA (wsV own index "ArithmeticFormsModel" y (Cond.code y bytes maxL ret :: wA))) (hrm : rm.cells = 0 ∧ rm.slots = 0 ∧ rm.frames + 1 ≤ R.frames ∧ 8 + (maxL + 11) + rm.locals ≤ R.locals) (hd : y.cls = "ArithmeticFormsModel" ∧ y.cls ≠ "java/lang/invoke/MethodHandle" ∧ y.cls ≠ "java/lang/invoke/VarHandle" ∧ (parseMethodDescriptor y.desc).map (fun d => d.parameters.length) = some n) (hn : As.length = n) (hsize : ls.size = nL) (hst : st0 = As.reverse ++ .ref (ad 0) :: rest) (hW : (rest.map fun v => v.category).sum ≤ 8) (hf : cells ≤ R.cells ∧ slots ≤ R.slots) (hdg : decode cc pc = .ok (.invokevirtual index, 3)) (kk : ∀ x : Int, P x → W p l e R s m args below meth c H locs cells slots Q (F0 m (pc + 3) ls (.int (iN x) :: rest))) : W p l e R s m args below meth c H locs cells slots Q (F0 m pc ls st0) := by
  obtain ⟨μ, hw, hM, hO⟩ := hm
  exact fm_callSi (va_runV (As := As) (rest := rest) S (con μ H.size hM) (cwV n S.2.2.2.2 hG rfl hrm.1 hrm.2.1 hd hrm.2.2) (fm_preV hZo hK hw hZ hA hM.2.1 rfl As) rfl hn hsize hst (lv_room hW) hdg hf) kk
/-- the reference's static ten -/
theorem mo_sl {y : MethodName} {bytes : ByteArray} {maxL n index : Nat} {rm : Room} {ret : Option FieldType} {As : List Value} {P : Int → Prop} (S : CallFix p m c cc nL s args wA own) (hK : va_K D clsA (tysA cs) s) (hZo : fm_Zok Z) (hZ : Z A s s.heap) (hA : ∀ q, s.heap.size ≤ q → A q) (hm : moW D A s.heap μ0 cs ad V M H locs) (con : ∀ (μ : fm_Mu) (sz : Nat), Met l y (Cond.code y bytes maxL ret :: wA) rm (fm_Pc D clsA (tysA cs) Z μ sz As) (fm_Sl P) 0 0 (fun _ => False)) (hG : GoodIn wA (va_wsS own index y (Cond.code y bytes maxL ret :: wA))) (hrm : rm.cells = 0 ∧ rm.slots = 0 ∧ rm.frames + 1 ≤ R.frames ∧ 8 + (maxL + 11) + rm.locals ≤ R.locals) (hd : y.cls ≠ "java/lang/invoke/MethodHandle" ∧ y.cls ≠ "java/lang/invoke/VarHandle" ∧ (parseMethodDescriptor y.desc).map (fun d => d.parameters.length) = some n) (hn : As.length = n) (hsize : ls.size = nL) (hst : st0 = As.reverse ++ rest) (hW : (rest.map fun v => v.category).sum ≤ 8) (hf : cells ≤ R.cells ∧ slots ≤ R.slots) (hdg : decode cc pc = .ok (.invokestatic index, 3)) (kk : ∀ x : Int, P x → W p l e R s m args below meth c H locs cells slots Q (F0 m (pc + 3) ls (.long (jN x) :: rest))) : W p l e R s m args below meth c H locs cells slots Q (F0 m pc ls st0) := by
  obtain ⟨μ, hw, hM, hO⟩ := hm
  exact fm_callSl (va_runS (As := As) (rest := rest) S (con μ H.size) (va_cwS n S.2.2.2.2 hG rfl hrm.1 hrm.2.1 hd hrm.2.2) (fm_pre hZo hK hw hZ hA As) rfl hn hsize hst (lv_room hW) hdg hf) kk
-- returns
theorem mo_vret {P : (Nat → Int) → (Nat → Int → Int) → Prop} (S : CallFix p m c cc nL s args wA own) (hr : meth.sig.returnType = none) (hlocks : meth.locks = false) (hK : va_K D clsA (tysA cs) s) (hm : moW D (fm_A μ0 s.heap.size) s.heap μ0 cs ad V M H locs) (hdg : decode cc pc = .ok (.return_, 1)) (hp : P V M) : W p l e R s m args below meth c H locs cells slots (MQ below (moQv D cs ad μ0 s.heap.size P) args s cells slots (fm_A μ0 s.heap.size)) (F0 m pc ls []) := by
  obtain ⟨μ, hw, hM, hO⟩ := hm
  exact fm_vret S hr hlocks hK hw hdg ⟨V, M, hp, hM, hO⟩
theorem mo_iret {P : Int → (Nat → Int) → (Nat → Int → Int) → Prop} {X : Int} (S : CallFix p m c cc nL s args wA own) (hr : meth.sig.returnType = some .int) (hlocks : meth.locks = false) (hK : va_K D clsA (tysA cs) s) (hm : moW D (fm_A μ0 s.heap.size) s.heap μ0 cs ad V M H locs) (hdg : decode cc pc = .ok (.ireturn, 1)) (hp : P X V M) : W p l e R s m args below meth c H locs cells slots (MQ below (moQi D cs ad μ0 s.heap.size P) args s cells slots (fm_A μ0 s.heap.size)) (F0 m pc ls [.int (iN X)]) := by
  obtain ⟨μ, hw, hM, hO⟩ := hm
  exact fm_iret S hr hlocks hK hw hdg ⟨V, M, hp, hM, hO⟩
theorem mo_zret {P : Int → (Nat → Int) → (Nat → Int → Int) → Prop} {X : Int} (S : CallFix p m c cc nL s args wA own) (hr : meth.sig.returnType = some .boolean) (hlocks : meth.locks = false) (hK : va_K D clsA (tysA cs) s) (hm : moW D (fm_A μ0 s.heap.size) s.heap μ0 cs ad V M H locs) (hX : X = 0 ∨ X = 1) (hdg : decode cc pc = .ok (.ireturn, 1)) (hp : P X V M) : W p l e R s m args below meth c H locs cells slots (MQ below (moQi D cs ad μ0 s.heap.size P) args s cells slots (fm_A μ0 s.heap.size)) (F0 m pc ls [.int (iN X)]) := by
  obtain ⟨μ, hw, hM, hO⟩ := hm
  exact fm_zret S hr hlocks hK hw hX hdg ⟨V, M, hp, hM, hO⟩
theorem mo_lret {P : Int → (Nat → Int) → (Nat → Int → Int) → Prop} {X : Int} (S : CallFix p m c cc nL s args wA own) (hr : meth.sig.returnType = some .long) (hlocks : meth.locks = false) (hK : va_K D clsA (tysA cs) s) (hm : moW D (fm_A μ0 s.heap.size) s.heap μ0 cs ad V M H locs) (hdg : decode cc pc = .ok (.lreturn, 1)) (hp : P X V M) : W p l e R s m args below meth c H locs cells slots (MQ below (moQl D cs ad μ0 s.heap.size P) args s cells slots (fm_A μ0 s.heap.size)) (F0 m pc ls [.long (jN X)]) := by
  obtain ⟨μ, hw, hM, hO⟩ := hm
  exact fm_lret S hr hlocks hK hw hdg ⟨V, M, hp, hM, hO⟩
end MoRows
/-- a reference's method, from its entry -/
theorem mo_of {l : Launch} {y : MethodName} {cc : ByteArray} {maxL sz mc ms : Nat} {ret : Option FieldType} {rm : Room} {D : va_G} {cs : Nat → ClassId} {ad : Nat → Nat} {μ : fm_Mu} {V : Nat → Int} {M : Nat → Int → Int} {Z : (Nat → Prop) → State → Heap → Prop} {Qc : Array Value → State → Outcome → State → Prop} {free : Addr → Prop} {av : List Value} (hM : moS cs μ ad V M) (hy : plainName y.cls = true ∧ y.cls = "ArithmeticFormsModel") (hlen : (lg_sl av).length ≤ maxL)
    (body : ∀ (p : Program) (e : Env) (s : State) (m : MethodId) (below : List Frame) (meth : Method) (c : Code), CallFix p m c cc maxL s av.toArray wA "ArithmeticFormsModel" → meth.sig.returnType = ret → meth.locks = false → s.heap.size = sz → moW D (fm_A μ s.heap.size) s.heap μ cs ad V M s.heap [] → va_K D clsA (tysA cs) s → Z (fm_A μ s.heap.size) s s.heap → (∀ q, s.heap.size ≤ q → fm_A μ s.heap.size q) → ∀ ls : Array Slot, lv_has ls maxL (lv_args 0 av) → W p l e rm s m av.toArray below meth c s.heap [] 0 0 (MQ below Qc av.toArray s mc ms free) (F0 m 0 ls [])) : Met l y (Cond.code y cc maxL ret :: wA) rm (fm_Pc D clsA (tysA cs) Z μ sz av) Qc mc ms free := by
  refine fm_of hy.1 rfl hlen (fun p e s m below meth c S hr hl _ hsz hw hK hZ hA ls hls => ?_)
  exact body p e s m below meth c ⟨S.1, S.2.1, S.2.2.1, by rw [← hy.2]; exact S.2.2.2.1, fun w h => S.2.2.2.2 w (List.mem_cons_of_mem _ h)⟩ hr hl hsz ⟨μ, hw, hM, fm_O.rf⟩ hK hZ hA ls hls
