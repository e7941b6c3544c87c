-- THE LAW'S SCRIPT (own work)
def Zl (b L : Nat) (xs : Nat → Int32) (tT : Nat) (u0 sen : Value) (q : Nat) (A : Nat → Prop) (U : State) (H : Heap) : Prop := Zc tT A U H ∧ Zx u0 sen q A U H ∧ va_X b L xs U H ∧ ¬ A b
theorem Zl_ok (b L : Nat) (xs : Nat → Int32) (tT : Nat) (u0 sen : Value) (q : Nat) : fm_Zok (Zl b L xs tT u0 sen q) := by
  have h1 := Zc_ok tT
  have h2 := Zx_ok u0 sen q
  refine ⟨fun A B U H h hAB => ?_, fun A u U H hW h => ?_, fun A U H H1 h hq => ?_, fun A u U H hv h => ?_⟩
  · exact ⟨h1.1 A B U H h.1 hAB, h2.1 A B U H h.2.1 hAB, h.2.2.1, fun z => h.2.2.2 (hAB _ z)⟩
  · exact ⟨h1.2.1 A u U H hW h.1, h2.2.1 A u U H hW h.2.1, h.2.2.1.moved hW.alike, h.2.2.2⟩
  · refine ⟨h1.2.2.1 A U H H1 h.1 hq, h2.2.2.1 A U H H1 h.2.1 hq, h.2.2.1.kept (hq b ?_ h.2.2.2), h.2.2.2⟩
    obtain ⟨scr, e1, -⟩ := h.2.2.1
    exact (Array.getElem?_eq_some_iff.mp e1).1
  · have ha : u.vm.Alike U.vm := by rw [hv]; exact Vm.Alike.refl U.vm
    exact ⟨h1.2.2.2 A u U H hv h.1, h2.2.2.2 A u U H hv h.2.1, h.2.2.1.moved ha, h.2.2.2⟩
theorem va_X.lt {b L : Nat} {xs : Nat → Int32} {U : State} {H : Heap} (h : va_X b L xs U H) : b < H.size := by
  obtain ⟨scr, e1, -⟩ := h
  exact (Array.getElem?_eq_some_iff.mp e1).1
/-- a number of the script -/
def xi (xs : Nat → Int32) (j : Int) : Int := (xs j.toNat).toInt
theorem xi_in (xs : Nat → Int32) (j : Int) : inI (xi xs j) := iN_in _
theorem iN_nat (n : Nat) : Int32.ofNat n = iN (n : Int) := by
  exact (Int32.ofInt_eq_ofNat (n := n)).symm
section ClScr
variable {p : Program} {l : Launch} {e : Env} {R : Room} {s : State} {m : MethodId} {args : Array Value} {below : List Frame} {meth : Method} {c : Code} {H : Heap} {locs : List Loc} {cells slots : Nat} {Q : State → Prop} {cc : ByteArray} {pc nL : Nat} {ls : Array Slot} {rest : List Value} {Ts : List Cond} {own : String} {D : va_G} {cl : List vw_C} {A : Nat → Prop} {μ : fm_Mu} {b L : Nat} {xs : Nat → Int32}
theorem sc_len (S : CallFix p m c cc nL s args Ts own) (hX : va_X b L xs s s.heap) (hbA : ¬ A b) (hw : fm_W D cl A s.heap μ H locs) (hdg : decode cc pc = .ok (.arraylength, 1)) (kk : W p l e R s m args below meth c H locs cells slots Q (F0 m (pc + 1) ls (.int (iN (L : Int)) :: rest))) : W p l e R s m args below meth c H locs cells slots Q (F0 m pc ls (.ref b :: rest)) := by
  refine va_slen S.1 S.2.1 hX hX.lt hbA hw.2 hdg ?_
  rw [iN_nat]; exact kk
theorem sc_ld (S : CallFix p m c cc nL s args Ts own) (hX : va_X b L xs s s.heap) (hbA : ¬ A b) (hw : fm_W D cl A s.heap μ H locs) {i : Int} (hi : 0 ≤ i ∧ i < (L : Int) ∧ L < 2147483648) (hdg : decode cc pc = .ok (.iaload, 1)) (kk : W p l e R s m args below meth c H locs cells slots Q (F0 m (pc + 1) ls (.int (iN (xi xs i)) :: rest))) : W p l e R s m args below meth c H locs cells slots Q (F0 m pc ls (.int (iN i) :: .ref b :: rest)) := by
  refine va_sld S.1 S.2.1 hX hX.lt hbA hw.2 (iN_vin hi.1 hi.2.1 hi.2.2) hdg ?_
  rw [iN_cl hi.1 (by omega)]
  unfold xi at kk
  rw [iN_of] at kk
  exact kk
end ClScr
def scV (L : Nat) (xs : Nat → Int32) : Int := if 0 < L then xi xs 0 else 0
theorem scV_in (L : Nat) (xs : Nat → Int32) : inI (scV L xs) := by unfold scV; split; exact xi_in _ _; decide
/-- cell(script, 0) -/
theorem t_Lw_cell (l : Launch) (D : va_G) (cs : Nat → ClassId) (Z : (Nat → Prop) → State → Heap → Prop) (b L : Nat) (xs : Nat → Int32) (hL : L < 2147483648) (hZs : ∀ A U H, Z A U H → va_X b L xs U H ∧ ¬ A b) (μ : fm_Mu) (sz : Nat) : Met l y_Lw_cell (Cond.code y_Lw_cell c_Lw_cell 2 (some .int) :: wA) { frames := 0, cells := 0, slots := 0, locals := 0 } (fm_Pc D clsA (tysA cs) Z μ sz [.ref b, .int (iN 0)]) (fm_Si (fun z => z = scV L xs)) 0 0 (fun _ => False) := by
  refine cl_of (by decide +kernel) (Nat.le_of_ble_eq_true rfl) (fun p e s m below meth c S hr hlocks hnm hsz hw hK hZ hA ls hl => ?_)
  subst hsz
  replace S : CallFix p m c c_Lw_cell 2 s _ wA "ArithmeticFormsLaw" := S
  obtain ⟨hx, hb, hml, hown, hts⟩ := id S
  have hl : lv_has ls 2 [(0, .ref b), (1, .int (iN 0))] := hl
  obtain ⟨hX, hbA⟩ := hZs _ _ _ hZ
  refine lv_iload_n hx hb d_Lw_cell_0 rfl (lv_at hl 1 rfl) ?_
  refine lv_aload_n hx hb d_Lw_cell_1 rfl (lv_at hl 0 rfl) ?_
  refine sc_len S hX hbA hw d_Lw_cell_2 ?_
  refine fm_icmp_ge (tgt := 12) S (by decide) (by omega) d_Lw_cell_3 rfl (fun c1 => ?_) (fun c1 => ?_)
  · refine fm_iconst S d_Lw_cell_12 ?_
    refine fm_iretS S hr hlocks d_Lw_cell_13 ?_
    unfold scV; rw [if_neg (by omega)]
  · refine lv_aload_n hx hb d_Lw_cell_6 rfl (lv_at hl 0 rfl) ?_
    refine lv_iload_n hx hb d_Lw_cell_7 rfl (lv_at hl 1 rfl) ?_
    refine sc_ld S hX hbA hw (by omega) d_Lw_cell_8 ?_
    refine lv_goto (tgt := 13) hx hb d_Lw_cell_9 rfl ?_
    refine fm_iretS S hr hlocks d_Lw_cell_13 ?_
    unfold scV; rw [if_pos (by omega)]
