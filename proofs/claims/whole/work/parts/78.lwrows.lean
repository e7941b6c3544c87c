-- THE LAW'S LOOP (own work)
theorem moArr_ref {cs : Nat → ClassId} {k : Nat} {F : Int → Int} (h1 : 1 ≤ k) (h2 : k ≤ 16) : refK (moArr cs k F) = true ∧ (kd (moArr cs k F) == (2, 1)) = false := by
  rcases (show k = 1 ∨ k = 2 ∨ k = 3 ∨ k = 4 ∨ k = 5 ∨ k = 6 ∨ k = 7 ∨ k = 8 ∨ k = 9 ∨ k = 10 ∨ k = 11 ∨ k = 12 ∨ k = 13 ∨ k = 14 ∨ k = 15 ∨ k = 16 by omega) with h | h | h | h | h | h | h | h | h | h | h | h | h | h | h | h <;> subst h <;> exact ⟨rfl, rfl⟩
theorem moS.kp {cs : Nat → ClassId} {μ μ' : fm_Mu} {ad : Nat → Nat} {V : Nat → Int} {M : Nat → Int → Int} (h : moS cs μ ad V M) (hk : kpR μ μ') : moS cs μ' ad V M := ⟨h.1, hk _ _ h.2.1 rfl, fun k a b => hk _ _ (h.2.2 k a b) (moArr_ref a b).1⟩
theorem moL_mem {cs : Nat → ClassId} {μ : fm_Mu} {ad : Nat → Nat} {V : Nat → Int} {M : Nat → Int → Int} (h : moS cs μ ad V M) {b : Nat} (hm : b ∈ moL ad) : ∃ e, μ b = some e ∧ refK e = true ∧ (kd e == (2, 1)) = false := by
  obtain ⟨k, hk, rfl⟩ := List.mem_map.mp hm
  have hk2 := List.mem_range.mp hk
  by_cases h0 : k = 0
  · rw [h0]; exact ⟨_, h.2.1, rfl, rfl⟩
  · exact ⟨_, h.2.2 k (by omega) (by omega), (moArr_ref (by omega) (by omega)).1, (moArr_ref (by omega) (by omega)).2⟩
theorem kpC_mo {cs : Nat → ClassId} {μ μ' : fm_Mu} {ad : Nat → Nat} {V : Nat → Int} {M : Nat → Int → Int} (h : moS cs μ ad V M) (hO : fm_O μ μ' (moL ad)) : kpC μ μ' := fun b e hb hk => hO.at (fun hm => by
  obtain ⟨e2, h1, h2, -⟩ := moL_mem h hm
  rw [h1] at hb; cases hb; rw [h2] at hk; cases hk) hb
theorem ot_mo {cs : Nat → ClassId} {μ μ' : fm_Mu} {ad : Nat → Nat} {V : Nat → Int} {M : Nat → Int → Int} {ot : Nat} {O : Int → Int} (h : moS cs μ ad V M) (hO : fm_O μ μ' (moL ad)) (hot : μ ot = some (lE cs 1 O)) : μ' ot = some (lE cs 1 O) := hO.at (fun hm => by
  obtain ⟨e2, h1, -, h2⟩ := moL_mem h hm
  rw [h1] at hot; cases hot; exact absurd (show true = false from h2) (by decide)) hot
theorem kpC_ot {cs : Nat → ClassId} {μ μ' : fm_Mu} {ot : Nat} {O : Int → Int} (hot : μ ot = some (lE cs 1 O)) (hO : fm_O μ μ' [ot]) : kpC μ μ' := fun b e hb hk => hO.at (nm1 (fun h => by rw [h, hot] at hb; cases hb; exact absurd (show true = false from hk) (by decide))) hb
theorem moS.ot {cs : Nat → ClassId} {μ μ' : fm_Mu} {ad : Nat → Nat} {V : Nat → Int} {M : Nat → Int → Int} {ot : Nat} {O : Int → Int} (h : moS cs μ ad V M) (hot : μ ot = some (lE cs 1 O)) (hO : fm_O μ μ' [ot]) : moS cs μ' ad V M := by
  have key : ∀ k, k ≤ 16 → ad k ≠ ot := fun k hk e => by
    obtain ⟨e2, h1, -, h2⟩ := moL_mem h (moL_in (ad := ad) hk)
    rw [e, hot] at h1; cases h1; exact absurd (show true = false from h2) (by decide)
  exact ⟨h.1, hO.at (nm1 (key 0 (by omega))) h.2.1, fun k a b => hO.at (nm1 (key k b)) (h.2.2 k a b)⟩
def lgV (a b : Int) : Int := ((jN a <<< ((iN 32).toInt64 &&& 63)) ||| (jN b &&& jN 4294967295)).toInt
theorem lgV_e (a b : Int) : (jN a <<< ((iN 32).toInt64 &&& 63)) ||| (jN b &&& jN 4294967295) = jN (lgV a b) := (jN_of _).symm
theorem lgV_in (a b : Int) : inJ (lgV a b) := jN_in _
section LwRows
variable {p : Program} {l : Launch} {e : Env} {R : Room} {s : State} {m : MethodId} {args : Array Value} {below : List Frame} {meth : Method} {c : Code} {H : Heap} {locs : List Loc} {cells slots : Nat} {Q : State → Prop} {cc : ByteArray} {pc nL : Nat} {ls : Array Slot} {rest : List Value} {Ts : List Cond} {own : String}
theorem fm_icmp_same {X : Int} {off : Int} {tgt : Nat} (S : CallFix p m c cc nL s args Ts own) (hdg : decode cc pc = .ok (.if_icmp .eq off, 3)) (ht : (pc : Int) + off = (tgt : Int)) (kt : W p l e R s m args below meth c H locs cells slots Q (F0 m tgt ls rest)) : W p l e R s m args below meth c H locs cells slots Q (F0 m pc ls (.int (iN X) :: .int (iN X) :: rest)) := lv_icmp_eq S.1 S.2.1 hdg ht (fun _ => kt) (fun h => absurd rfl h)
theorem fm_lcmp_same {X : Int} (S : CallFix p m c cc nL s args Ts own) (hdg : decode cc pc = .ok (.lcmp, 1)) (k : W p l e R s m args below meth c H locs cells slots Q (F0 m (pc + 1) ls (.int (iN 0) :: rest))) : W p l e R s m args below meth c H locs cells slots Q (F0 m pc ls (.long (jN X) :: .long (jN X) :: rest)) := by
  refine W.lcmp S.1 S.2.1 hdg ?_
  have e : lg_cmp (jN X) (jN X) = iN 0 := by
    have h1 : ¬ jN X < jN X := fun h => Int64.lt_irrefl h
    unfold lg_cmp
    simp [h1]
    rfl
  rw [e]; exact k
end LwRows
def lwE (cs : Nat → ClassId) (μ : fm_Mu) (x : Nat) (ad : Nat → Nat) (ot : Nat) (σ : Sg) : Prop := ∃ (kc kn kr wd lf : Nat) (da dl ra : Nat → Nat) (V : Nat → Int) (M : Nat → Int → Int) (O : Int → Int), afS cs μ x kc kn kr wd lf da dl ra σ ∧ moS cs μ ad V M ∧ moInv V M σ ∧ μ ot = some (lE cs 1 O)
