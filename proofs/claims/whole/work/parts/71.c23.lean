set_option maxHeartbeats 4000000 in
set_option maxRecDepth 100000 in
/-- exact(n, side) that throws -/
theorem t_AF_exactT (l : Launch) (D : va_G) (cs : Nat → ClassId) (Z : (Nat → Prop) → State → Heap → Prop) (hZo : fm_Zok Z) (tT : Nat) (hZc : ∀ A U H, Z A U H → Zc tT A U H) (μ : fm_Mu) (sz : Nat) (x : Nat) (kc : Nat) (kn : Nat) (kr : Nat) (wd : Nat) (lf : Nat) (da : Nat → Nat) (dl : Nat → Nat) (ra : Nat → Nat) (σ : Sg) (n : Int) (side : Int) (u0 sen : Value) (qS : Nat) (hZx : ∀ A U H, Z A U H → Zx u0 sen qS A U H) (hfl : l.flags = pinnedFlags ++ [noTraceFlag]) (hS : afS cs μ x kc kn kr wd lf da dl ra σ) (hin : inI n) (his : inI side) (h1 : (sp_exact σ n side).1 = 1)  : MetFree l y_AF_exact (headSpec (Cond.code y_AF_exact c_AF_exact 5 (some .long) :: wA) { frames := 6, cells := 1, slots := 6, locals := 100 }) (fm_Pc D clsA (tysA cs) Z μ sz [.ref x, .int (iN (n)), .int (iN (side))]) (fun _ _ _ _ _ => True) (fun _ st o t => xQT st o t) := by
  refine cl_ofT (by decide +kernel) (Nat.le_of_ble_eq_true rfl) (fun p e s m below meth c S hr hlocks hnh hsz hw hK hZ hA ls hl => ?_)
  subst hsz
  replace S : CallFix p m c c_AF_exact 5 s _ wA "ArithmeticForms" := S
  obtain ⟨hx, hb, hml, hown, hts⟩ := id S
  have hzc := hZc _ _ _ hZ
  have hl : lv_has ls 5 [(0, .ref x), (1, .int (iN (n))), (2, .int (iN (side)))] := hl
  have c_x := hS.cx
  have c_kc := hS.ck
  obtain ⟨G0, c_wd⟩ := hS.cw
  obtain ⟨X0, c_lf⟩ := hS.cl
  obtain ⟨fn, c_kn, hfn⟩ := hS.cn
  obtain ⟨fr, c_kr, hfr⟩ := hS.cr
  have hok := hS.ok
  have hokC := hok.2.2.1
  have hokR := hok.2.2.2.1
  have hP : 1 ≤ sP σ ∧ sP σ ≤ 31 := ⟨hok.1, hok.2.1⟩
  have j_x := c_x
  have j_kc := c_kc
  have j_wd := c_wd
  have j_lf := c_lf
  have j_kn := c_kn
  have j_kr := c_kr
  refine lv_aload_n hx hb d_AF_exact_0 rfl (lv_at hl 0 rfl) ?_
  refine lv_iload_n hx hb d_AF_exact_1 rfl (lv_at hl 1 rfl) ?_
  refine fm_callSq (va_runV (As := [.int (iN (n))]) (rest := []) S (t_AF_nodeAt l D cs Z hZo tT hZc μ _ x kc kn kr wd lf da dl ra σ n hS (by omega)) (cwV 1 hts (gV k154 k156 ks1 k1 k157) rfl rfl rfl (by decide +kernel) (by decide)) (fm_preV hZo hK hw hZ hA c_x rfl _) rfl rfl hl.1 rfl (lv_room (Nat.le_of_ble_eq_true rfl)) d_AF_exact_2 ⟨Nat.le_of_ble_eq_true rfl, Nat.le_of_ble_eq_true rfl⟩) (fun x2 q1 => ?_)
  by_cases hki3 : 0 < n ∧ n ≤ (sC σ : Int)
  · rw [if_pos hki3] at q1
    obtain ⟨i3, hii3⟩ : ∃ i3 : Nat, n = (i3 : Int) + 1 := ⟨(n - 1).toNat, by omega⟩
    rw [show (n - 1).toNat = i3 by omega] at q1
    subst q1
    show W p l e _ s m _ below meth c _ _ _ _ _ (F0 m 5 ls [.ref (da (4 + i3))])
    obtain ⟨F4, c_da_4_i3, c_dl_4_i3, hdF4, hvF4⟩ := hS.dN i3 (by omega)
    have hoki3 := hok.2.2.2.2.2.2.1 (i3 + 1) (by omega) (by omega)
    refine lv_astore_n (lv' := [(3, .ref (da (4 + i3))), (0, .ref x), (1, .int (iN (n))), (2, .int (iN (side)))]) hx hb d_AF_exact_5 rfl hl (by decide) rfl (fun ls hl => ?_)
    refine lv_aload_n hx hb d_AF_exact_6 rfl (lv_at hl 0 rfl) ?_
    refine lv_ifnull hx hb d_AF_exact_7 ?_
    refine lv_iload_n hx hb d_AF_exact_10 rfl (lv_at hl 3 rfl) ?_
    refine fm_if_ge (tgt := 18) S (by omega) d_AF_exact_11 (by decide) (fun c5 => ?_) (fun c5 => ?_)
    · have hc1 := hoki3.1
      have hc2 := hoki3.2.1
      have hsz : (sN σ (i3 + 1)).1 ≠ 0 := fun q => by
        unfold sp_exact at h1
        rw [if_neg (fun q => q.elim (fun q => q hki3) (fun q => by omega)), show n.toNat = i3 + 1 by omega, if_neg (fun z => z q)] at h1
        revert h1
        repeat' split
        all_goals (intro h1; exact absurd (show (0 : Int) = 1 from h1) (by decide))
      refine lv_aload_n hx hb d_AF_exact_18 rfl (lv_at hl 0 rfl) ?_
      refine fm_get S hK hw c_da_4_i3 i_De rfl 0 (by decide) (hts _ k34) (fun _ h => h) rfl d_AF_exact_19 ?_
      refine fm_if_eq (tgt := 35) S (by omega) d_AF_exact_22 (by decide) (fun c6 => ?_) (fun c6 => ?_)
      · exact absurd (by assumption) hsz
      · exact cl_throw S hlocks hnh hfl (hZx _ _ _ hZ) hl.1 (hts _ k392) (hts _ k14) d_AF_exact_25 d_AF_exact_28 d_AF_exact_29 d_AF_exact_31 d_AF_exact_34 ⟨Nat.le_of_ble_eq_true rfl, Nat.le_of_ble_eq_true rfl, Nat.le_of_ble_eq_true rfl, Nat.le_of_ble_eq_true rfl⟩
    · exfalso
      unfold sp_exact at h1
      rw [if_pos (Or.inr (by omega))] at h1
      exact absurd h1 (by decide)
  · rw [if_neg hki3] at q1
    subst q1
    show W p l e _ s m _ below meth c _ _ _ _ _ (F0 m 5 ls [.null])
    refine lv_astore_nN (lv' := [(3, .null), (0, .ref x), (1, .int (iN (n))), (2, .int (iN (side)))]) hx hb d_AF_exact_5 rfl hl (by decide) rfl (fun ls hl => ?_)
    refine lv_aload_nN hx hb d_AF_exact_6 rfl (lv_at hl 0 rfl) ?_
    refine lv_ifnullN (tgt := 14) hx hb d_AF_exact_7 (by decide) ?_
    exfalso
    unfold sp_exact at h1
    rw [if_pos (Or.inl hki3)] at h1
    exact absurd h1 (by decide)
