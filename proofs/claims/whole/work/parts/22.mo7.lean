set_option maxHeartbeats 4000000 in
set_option maxRecDepth 100000 in
/-- power() -/
theorem t_Mo_power (l : Launch) (D : va_G) (cs : Nat → ClassId) (Z : (Nat → Prop) → State → Heap → Prop) (hZo : fm_Zok Z) (ad : Nat → Nat) (μ : fm_Mu) (V : Nat → Int) (M : Nat → Int → Int) (sz : Nat) (b : Int) (hM : moS cs μ ad V M) (hb1 : Rv M 1 b) (hvb : vB b) : Met l y_Mo_power (Cond.code y_Mo_power c_Mo_power 1 (some .int) :: wA) ({ frames := 1, cells := 0, slots := 0, locals := 23 }) (fm_Pc D clsA (tysA cs) Z μ sz [.ref (ad 0)]) (fm_Si (fun z => z = pw b)) 0 0 (fun _ => False) := by
  refine mo_of hM (by decide +kernel) (Nat.le_of_ble_eq_true rfl) (fun p e s m below meth c S hr hlocks hsz hm hK hZ hA ls hl => ?_)
  subst hsz
  obtain ⟨hx, hb, hml, hown, hts⟩ := id S
  have hl : lv_has ls 1 [(0, .ref (ad 0))] := hl
  have e21 := hb1.1
  have e31 := hb1.2.1
  have e41 := hb1.2.2.1
  have hv1 := hvb.1
  have hv2 := hvb.2.1
  have hv3 := hvb.2.2
  refine lv_aload_n hx hb d_Mo_power_0 rfl (lv_at hl 0 rfl) ?_
  refine mo_get 3 S hK hm (by decide) k469 rfl rfl d_Mo_power_1 ?_
  refine fm_iconst S d_Mo_power_4 ?_
  refine mo_iald 2 S hK hm (by decide) (by simp only [moLen]; omega) d_Mo_power_5 ?_
  refine fm_if_ne (tgt := 11) S (by omega) d_Mo_power_6 (by decide) (fun c1 => ?_) (fun c1 => ?_)
  · refine lv_aload_n hx hb d_Mo_power_11 rfl (lv_at hl 0 rfl) ?_
    refine mo_get 4 S hK hm (by decide) k470 rfl rfl d_Mo_power_12 ?_
    refine fm_iconst S d_Mo_power_15 ?_
    refine mo_iald 3 S hK hm (by decide) (by simp only [moLen]; omega) d_Mo_power_16 ?_
    refine fm_if_lt (tgt := 29) S (by omega) d_Mo_power_17 (by decide) (fun c2 => ?_) (fun c2 => ?_)
    · refine fm_bipush S d_Mo_power_29 (by decide) ?_
      refine fm_iretS S hr hlocks d_Mo_power_31 ?_
      exact (pw_100 (by omega) (by omega)).symm
    · refine lv_aload_n hx hb d_Mo_power_20 rfl (lv_at hl 0 rfl) ?_
      refine fm_iconst S d_Mo_power_21 ?_
      refine mo_pi (n := 1) (As := [.int (iN (1))]) (rest := []) S hK hZo hZ hA hm (fun μ sz hM => t_Mo_topOf l D cs Z hZo ad μ V M sz 1 hM (by omega)) (gV k591 k593 ks29 k6 k594) (by decide) (by decide +kernel) rfl hl.1 rfl (Nat.le_of_ble_eq_true rfl) ⟨Nat.le_of_ble_eq_true rfl, Nat.le_of_ble_eq_true rfl⟩ d_Mo_power_22 (fun x4 q3 => ?_)
      refine fm_iconst S d_Mo_power_25 ?_
      refine fm_icmp_le (tgt := 32) S (by omega) (by omega) d_Mo_power_26 (by decide) (fun c5 => ?_) (fun c5 => ?_)
      · refine lv_aload_n hx hb d_Mo_power_32 rfl (lv_at hl 0 rfl) ?_
        refine mo_get 5 S hK hm (by decide) k471 rfl rfl d_Mo_power_33 ?_
        refine fm_iconst S d_Mo_power_36 ?_
        refine mo_iald 4 S hK hm (by decide) (by simp only [moLen]; omega) d_Mo_power_37 ?_
        refine lv_aload_n hx hb d_Mo_power_38 rfl (lv_at hl 0 rfl) ?_
        refine fm_iconst S d_Mo_power_39 ?_
        refine fm_iconst S d_Mo_power_40 ?_
        refine mo_pi (n := 2) (As := [.int (iN (1)), .int (iN (0))]) (rest := [.int (iN ((M 4 1)))]) S hK hZo hZ hA hm (fun μ sz hM => t_Mo_digitAt l D cs Z hZo ad μ V M sz 1 0 (nd (cN b)) (cN b) (cX b) (sgn b) hM (by omega) hb1 (by omega)) (gV k599 k601 ks31 k6 k602) (by decide) (by decide +kernel) rfl hl.1 rfl (Nat.le_of_ble_eq_true rfl) ⟨Nat.le_of_ble_eq_true rfl, Nat.le_of_ble_eq_true rfl⟩ d_Mo_power_41 (fun x7 q6 => ?_)
        have hdi1 := dgt_in (cN b) (cX b) 0
        refine fm_bipush S d_Mo_power_44 (by decide) ?_
        refine lv_aload_n hx hb d_Mo_power_46 rfl (lv_at hl 0 rfl) ?_
        refine fm_iconst S d_Mo_power_47 ?_
        refine fm_iconst S d_Mo_power_48 ?_
        refine mo_pi (n := 2) (As := [.int (iN (1)), .int (iN (1))]) (rest := [.int (iN (10)), .int (iN (x7)), .int (iN ((M 4 1)))]) S hK hZo hZ hA hm (fun μ sz hM => t_Mo_digitAt l D cs Z hZo ad μ V M sz 1 1 (nd (cN b)) (cN b) (cX b) (sgn b) hM (by omega) hb1 (by omega)) (gV k599 k601 ks31 k6 k602) (by decide) (by decide +kernel) rfl hl.1 rfl (Nat.le_of_ble_eq_true rfl) ⟨Nat.le_of_ble_eq_true rfl, Nat.le_of_ble_eq_true rfl⟩ d_Mo_power_49 (fun x9 q8 => ?_)
        have hdi2 := dgt_in (cN b) (cX b) 1
        refine fm_imul S d_Mo_power_52 ?_
        refine fm_iadd S d_Mo_power_53 ?_
        refine fm_imul S d_Mo_power_54 ?_
        refine fm_iretS S hr hlocks d_Mo_power_55 ?_
        rw [pw_v (by omega) (by omega), e41, q6, q8]
      · refine fm_bipush S d_Mo_power_29 (by decide) ?_
        refine fm_iretS S hr hlocks d_Mo_power_31 ?_
        exact (pw_100 (by omega) (by omega)).symm
  · refine fm_iconst S d_Mo_power_9 ?_
    refine fm_iretS S hr hlocks d_Mo_power_10 ?_
    exact (pw_0 (by omega)).symm

set_option maxHeartbeats 4000000 in
set_option maxRecDepth 100000 in
/-- L_raise -/
theorem L_raise {p : Program} {l : Launch} {e : Env} {s : State} {m : MethodId} {args : Array Value} {below : List Frame} {meth : Method} {c : Code} {Q : State → Prop} {D : va_G} {cs : Nat → ClassId} {Z : (Nat → Prop) → State → Heap → Prop} {ad : Nat → Nat} {μ0 : fm_Mu} {A : Nat → Prop}  (S : CallFix p m c c_Mo_raise 4 s args wA "ArithmeticFormsModel") (hK : va_K D clsA (tysA cs) s) (hZo : fm_Zok Z) (hZ : Z A s s.heap) (hA : ∀ q, s.heap.size ≤ q → A q) (V : Nat → Int) (M0 : Nat → Int → Int) (a n : Int) (most : Nat) (hva : vB a) (hn0 : -100 ≤ n ∧ n ≤ 100) (hpr : V 1 = (most : Int) ∧ 1 ≤ most ∧ most ≤ 31) (kk102 : ∀ (M : Nat → Int → Int) (k : Int) (bad : Int) (kk : Nat) (H : Heap) (locs : List Loc) (ls : Array Slot), (kk ≤ n.natAbs ∧ (kk = n.natAbs ∨ bad ≠ 0)) → (bad = (sPowN most a kk).1) → (bad = 0 → Rv M 2 (sPowN most a kk).2) → (0 ≤ M 2 2 ∧ M 2 2 ≤ 320) → (FrO M0 M) → lv_has ls 4 [(3, .int (iN (k))), (2, .int (iN (bad))), (0, .ref (ad 0)), (1, .int (iN (n)))] → moW D A s.heap μ0 cs ad V M H locs → W p l e ({ frames := 3, cells := 0, slots := 0, locals := 72 }) s m args below meth c H locs 0 0 Q (F0 m 102 ls [])) : ∀ (fu : Nat) (M : Nat → Int → Int) (k : Int) (bad : Int) (kk : Nat) (H : Heap) (locs : List Loc) (ls : Array Slot), (n.natAbs : Int) - k < (fu : Int) → (k = kk ∧ kk ≤ n.natAbs) → (bad = (sPowN most a kk).1) → (bad = 0 → Rv M 2 (sPowN most a kk).2) → (0 ≤ M 2 2 ∧ M 2 2 ≤ 320) → (Rv M 6 a) → (FrO M0 M) → lv_has ls 4 [(3, .int (iN (k))), (2, .int (iN (bad))), (0, .ref (ad 0)), (1, .int (iN (n)))] → moW D A s.heap μ0 cs ad V M H locs → W p l e ({ frames := 3, cells := 0, slots := 0, locals := 72 }) s m args below meth c H locs 0 0 Q (F0 m 59 ls []) := by
  obtain ⟨hx, hb, hml, hown, hts⟩ := id S
  intro fu
  induction fu with
  | zero =>
    intro M k bad kk H locs ls hn hk hbd0 hC h22 hQ hF hl hm
    exfalso; omega
  | succ fu ih =>
    intro M k bad kk H locs ls hn hk hbd0 hC h22 hQ hF hl hm
    have hb01 := sPowN_1 most a kk
    rw [← hbd0] at hb01
    refine lv_iload_n hx hb d_Mo_raise_59 rfl (lv_at hl 0 rfl) ?_
    refine mo_join (P := fun y => y = (n.natAbs : Int)) (g := fun y => F0 m 71 ls ([.int (iN (y)), .int (iN (k))])) (fun y hy => ?_) (fun key => ?_)
    · refine fm_icmp_ge (tgt := 102) S (by omega) (by omega) d_Mo_raise_71 (by decide) (fun c1 => ?_) (fun c1 => ?_)
      · exact kk102 M k bad kk _ _ _ (by omega) (hbd0) (hC) (h22) (hF) (lv_sub hl [0, 1, 2, 3] rfl) hm
      · refine lv_iload_n hx hb d_Mo_raise_74 rfl (lv_at hl 1 rfl) ?_
        refine fm_if_ne (tgt := 102) S (by omega) d_Mo_raise_75 (by decide) (fun c2 => ?_) (fun c2 => ?_)
        · exact kk102 M k bad kk _ _ _ (by omega) (hbd0) (hC) (h22) (hF) (lv_sub hl [0, 1, 2, 3] rfl) hm
        · have hC1 := hC c2
          have hvC := sPowN_vB (a := a) hpr.2 kk
          have h31 := hvC.1
          have h32 := hva.1
          rw [c2] at hbd0
          refine lv_aload_n hx hb d_Mo_raise_78 rfl (lv_at hl 2 rfl) ?_
          refine fm_iconst S d_Mo_raise_79 ?_
          refine fm_iconst S d_Mo_raise_80 ?_
          refine mo_cvS (n := 2) (As := [.int (iN (2)), .int (iN (0))]) (rest := []) S hK hZo hZ hA hm (fun μ sz hM => t_Mo_copy l D cs Z hZo ad μ V M sz 2 0 (nd (cN (sPowN most a kk).2)) (cN (sPowN most a kk).2) (cX (sPowN most a kk).2) (sgn (sPowN most a kk).2) hM hC1 (by omega)) (gV k587 k589 ks28 k6 k590) (by decide) (by decide +kernel) rfl hl.1 rfl (Nat.le_of_ble_eq_true rfl) ⟨Nat.le_of_ble_eq_true rfl, Nat.le_of_ble_eq_true rfl⟩ d_Mo_raise_81 (fun M4 H locs q3 hm => ?_)
          obtain ⟨frM4, rgM4⟩ := q3
          have hQ1 := frM4.rv (by decide) hva hQ
          refine lv_aload_n hx hb d_Mo_raise_84 rfl (lv_at hl 2 rfl) ?_
          refine fm_bipush S d_Mo_raise_85 (by decide) ?_
          refine fm_iconst S d_Mo_raise_87 ?_
          refine mo_cvS (n := 2) (As := [.int (iN (6)), .int (iN (1))]) (rest := []) S hK hZo hZ hA hm (fun μ sz hM => t_Mo_copy l D cs Z hZo ad μ V M4 sz 6 1 (nd (cN a)) (cN a) (cX a) (sgn a) hM hQ1 (by omega)) (gV k587 k589 ks28 k6 k590) (by decide) (by decide +kernel) rfl hl.1 rfl (Nat.le_of_ble_eq_true rfl) ⟨Nat.le_of_ble_eq_true rfl, Nat.le_of_ble_eq_true rfl⟩ d_Mo_raise_88 (fun M6 H locs q5 hm => ?_)
          obtain ⟨frM6, rgM6⟩ := q5
          have hA2 : Rv M6 0 (sPowN most a kk).2 := frM6.rv (by decide) hvC rgM4
          refine lv_aload_n hx hb d_Mo_raise_91 rfl (lv_at hl 2 rfl) ?_
          refine mo_ciS (n := 0) (As := []) (rest := []) S hK hZo hZ hA hm (fun μ sz hM => t_Mo_multiply l D cs Z hZo ad μ V M6 sz most (nd (cN (sPowN most a kk).2)) (cN (sPowN most a kk).2) (nd (cN a)) (cN a) (cX (sPowN most a kk).2) (sgn (sPowN most a kk).2) (cX a) (sgn a) hM hA2 rgM6 (mul_bd hvC hva) (sg_bd _ _) hpr) (gV k603 k605 ks32 k6 k606) (by decide) (by decide +kernel) rfl hl.1 rfl (Nat.le_of_ble_eq_true rfl) ⟨Nat.le_of_ble_eq_true rfl, Nat.le_of_ble_eq_true rfl⟩ d_Mo_raise_92 (fun x9 M8 H locs q7 hm => ?_)
          have frM8 := q7.1
          have rsM8 := mul_res hpr.2 hvC hva q7.2
          rw [← sPowN_s hbd0.symm] at rsM8
          have hFm := ((hF.tr (frM4.o (by decide))).tr (frM6.o (by decide))).tr (frM8.o (by decide))
          have hQm := frM8.rv (by decide) hva (frM6.rv (by decide) hva hQ1)
          refine lv_istore_n (lv' := [(2, .int (iN (x9))), (3, .int (iN (k))), (0, .ref (ad 0)), (1, .int (iN (n)))]) hx hb d_Mo_raise_95 rfl hl (by decide) rfl (fun ls hl => ?_)
          refine lv_iinc (v := iN ((k + 1))) (lv' := [(3, .int (iN ((k + 1)))), (2, .int (iN (x9))), (0, .ref (ad 0)), (1, .int (iN (n)))]) hx hb d_Mo_raise_96 hl (k := 1) rfl (iN_add _ _) (by decide) rfl (fun ls hl => ?_)
          refine lv_goto (tgt := 59) hx hb d_Mo_raise_99 (by decide) ?_
          exact ih M8 (k + 1) x9 (kk + 1) _ _ _ (by omega) (by omega) (rsM8.1) (rsM8.2.1) (rsM8.2.2) (hQm) (hFm) (lv_sub hl [0, 1, 2, 3] rfl) hm
    · refine lv_iload_n hx hb d_Mo_raise_60 rfl (lv_at hl 3 rfl) ?_
      refine fm_if_ge (tgt := 70) S (by omega) d_Mo_raise_61 (by decide) (fun c10 => ?_) (fun c10 => ?_)
      · refine lv_iload_n hx hb d_Mo_raise_70 rfl (lv_at hl 3 rfl) ?_
        exact key _ (by omega)
      · refine fm_iconst S d_Mo_raise_64 ?_
        refine lv_iload_n hx hb d_Mo_raise_65 rfl (lv_at hl 3 rfl) ?_
        refine fm_isub S d_Mo_raise_66 ?_
        refine lv_goto (tgt := 71) hx hb d_Mo_raise_67 (by decide) ?_
        exact key _ (by omega)

set_option maxHeartbeats 4000000 in
set_option maxRecDepth 100000 in
/-- raise() -/
theorem t_Mo_raise (l : Launch) (D : va_G) (cs : Nat → ClassId) (Z : (Nat → Prop) → State → Heap → Prop) (hZo : fm_Zok Z) (ad : Nat → Nat) (μ : fm_Mu) (V : Nat → Int) (M : Nat → Int → Int) (sz : Nat) (most : Nat) (a : Int) (b : Int) (hM : moS cs μ ad V M) (h22 : 0 ≤ M 2 2 ∧ M 2 2 ≤ 320) (hra : Rv M 0 a) (hrb : Rv M 1 b) (hva : vB a) (hvb : vB b) (hpr : V 1 = (most : Int) ∧ 1 ≤ most ∧ most ≤ 31) : Met l y_Mo_raise (Cond.code y_Mo_raise c_Mo_raise 4 (some .int) :: wA) ({ frames := 3, cells := 0, slots := 0, locals := 72 }) (fm_Pc D clsA (tysA cs) Z μ sz [.ref (ad 0)]) (moQi D cs ad μ sz (fun z V' M' => V' = V ∧ FrO M M' ∧ resOk M' z (sPow most a b))) 0 0 (fm_A μ sz) := by
  refine mo_of hM (by decide +kernel) (Nat.le_of_ble_eq_true rfl) (fun p e s m below meth c S hr hlocks hsz hm hK hZ hA ls hl => ?_)
  subst hsz
  obtain ⟨hx, hb, hml, hown, hts⟩ := id S
  have hl : lv_has ls 4 [(0, .ref (ad 0))] := hl
  have e20 := hra.1
  have hv1 := hva.1
  refine lv_aload_n hx hb d_Mo_raise_0 rfl (lv_at hl 0 rfl) ?_
  refine mo_pi (n := 0) (As := []) (rest := []) S hK hZo hZ hA hm (fun μ sz hM => t_Mo_power l D cs Z hZo ad μ V M sz b hM hrb hvb) (gV k623 k625 ks37 k6 k626) (by decide) (by decide +kernel) rfl hl.1 rfl (Nat.le_of_ble_eq_true rfl) ⟨Nat.le_of_ble_eq_true rfl, Nat.le_of_ble_eq_true rfl⟩ d_Mo_raise_1 (fun x2 q1 => ?_)
  have hpi := pw_in (b := b)
  rw [← q1] at hpi
  refine lv_istore_n (lv' := [(1, .int (iN (x2))), (0, .ref (ad 0))]) hx hb d_Mo_raise_4 rfl hl (by decide) rfl (fun ls hl => ?_)
  refine lv_iload_n hx hb d_Mo_raise_5 rfl (lv_at hl 0 rfl) ?_
  refine fm_bipush S d_Mo_raise_6 (by decide) ?_
  refine fm_icmp_eq (tgt := 24) S (by omega) (by omega) d_Mo_raise_8 (by decide) (fun c3 => ?_) (fun c3 => ?_)
  · refine fm_iconst S d_Mo_raise_24 ?_
    refine mo_iret S hr hlocks hK hm d_Mo_raise_25 ?_
    rw [sPow_1 (by rw [← q1]; first | exact Or.inl (by omega) | exact Or.inr ⟨by omega, ndc_0 (by omega)⟩)]
    exact ⟨rfl, FrO.rf, res_r (by decide) h22⟩
  · refine lv_iload_n hx hb d_Mo_raise_11 rfl (lv_at hl 0 rfl) ?_
    refine fm_if_ne (tgt := 26) S (by omega) d_Mo_raise_12 (by decide) (fun c4 => ?_) (fun c4 => ?_)
    · refine lv_iload_n hx hb d_Mo_raise_26 rfl (lv_at hl 0 rfl) ?_
      refine fm_if_ge (tgt := 41) S (by omega) d_Mo_raise_27 (by decide) (fun c5 => ?_) (fun c5 => ?_)
      · have hza : a = 0 → 0 < x2 := fun e => by
          have h9 : nd (cN a) = 0 := by rw [e]; exact nz_0
          omega
        refine lv_aload_n hx hb d_Mo_raise_41 rfl (lv_at hl 1 rfl) ?_
        refine fm_iconst S d_Mo_raise_42 ?_
        refine fm_bipush S d_Mo_raise_43 (by decide) ?_
        refine mo_cvS (n := 2) (As := [.int (iN (0)), .int (iN (6))]) (rest := []) S hK hZo hZ hA hm (fun μ sz hM => t_Mo_copy l D cs Z hZo ad μ V M sz 0 6 (nd (cN a)) (cN a) (cX a) (sgn a) hM hra (by omega)) (gV k587 k589 ks28 k6 k590) (by decide) (by decide +kernel) rfl hl.1 rfl (Nat.le_of_ble_eq_true rfl) ⟨Nat.le_of_ble_eq_true rfl, Nat.le_of_ble_eq_true rfl⟩ d_Mo_raise_45 (fun M7 H locs q6 hm => ?_)
        obtain ⟨frM7, rgM7⟩ := q6
        refine lv_aload_n hx hb d_Mo_raise_48 rfl (lv_at hl 1 rfl) ?_
        refine fm_lconst1 S d_Mo_raise_49 ?_
        refine fm_iconst S d_Mo_raise_50 ?_
        refine fm_iconst S d_Mo_raise_51 ?_
        refine mo_cvS (n := 3) (As := [.long (jN (1)), .int (iN (0)), .int (iN (2))]) (rest := []) S hK hZo hZ hA hm (fun μ sz hM => t_Mo_whole l D cs Z hZo ad μ V M7 sz 1 0 2 hM (by omega) (by omega)) (gV k546 k548 ks19 k6 k549) (by decide) (by decide +kernel) rfl hl.1 rfl (Nat.le_of_ble_eq_true rfl) ⟨Nat.le_of_ble_eq_true rfl, Nat.le_of_ble_eq_true rfl⟩ d_Mo_raise_52 (fun M9 H locs q8 hm => ?_)
        obtain ⟨frM9, rgM9⟩ := q8
        refine fm_iconst S d_Mo_raise_55 ?_
        refine lv_istore_n (lv' := [(2, .int (iN (0))), (1, .int (iN (x2))), (0, .ref (ad 0))]) hx hb d_Mo_raise_56 rfl hl (by decide) rfl (fun ls hl => ?_)
        refine fm_iconst S d_Mo_raise_57 ?_
        refine lv_istore_n (lv' := [(3, .int (iN (0))), (2, .int (iN (0))), (1, .int (iN (x2))), (0, .ref (ad 0))]) hx hb d_Mo_raise_58 rfl hl (by decide) rfl (fun ls hl => ?_)
        have hC0 := one_rv rgM9
        have hQ0 : Rv M9 6 a := frM9.rv (by decide) hva rgM7
        have hF0 := (frM7.o (by decide)).tr (frM9.o (by decide))
        refine L_raise (Z := Z) S hK hZo hZ hA V M a x2 most hva (by omega) hpr (fun M10 k bad kk H locs ls hkk hbd0 hC h22b hF hl hm => ?_) (x2.natAbs + 1) M9 0 0 0 _ _ _ (by omega) (by omega) (rfl) (fun _ => hC0) (by rw [hC0.1, one_c.1, nd_1]; decide) (hQ0) (hF0) (lv_sub hl [0, 1, 3, 2] rfl) hm
        have hb01 := sPowN_1 most a kk
        rw [← hbd0] at hb01
        have hS : sPowN most a (pw b).natAbs = sPowN most a kk := by
          rw [← q1]
          rcases hkk.2 with e | e
          · rw [e]
          · exact sPowN_stop (by rw [← hbd0]; exact e) hkk.1
        refine lv_iload_n hx hb d_Mo_raise_102 rfl (lv_at hl 3 rfl) ?_
        refine fm_if_ge (tgt := 110) S (by omega) d_Mo_raise_103 (by decide) (fun c11 => ?_) (fun c11 => ?_)
        · refine lv_iload_n hx hb d_Mo_raise_110 rfl (lv_at hl 1 rfl) ?_
          refine mo_iret S hr hlocks hK hm d_Mo_raise_111 ?_
          rw [sPow_r (by rw [← q1]; omega) (by rw [← q1]; exact hza) (by rw [← q1, q1, hS, ← hbd0]; omega), hS]
          exact ⟨rfl, hF, hbd0, hC, h22b⟩
        · refine lv_iload_n hx hb d_Mo_raise_106 rfl (lv_at hl 1 rfl) ?_
          refine fm_if_eq (tgt := 112) S (by omega) d_Mo_raise_107 (by decide) (fun c12 => ?_) (fun c12 => ?_)
          · have hC1 := hC c12
            have hvC := sPowN_vB (a := a) hpr.2 kk
            have h31 := hvC.1
            refine lv_aload_n hx hb d_Mo_raise_112 rfl (lv_at hl 2 rfl) ?_
            refine fm_iconst S d_Mo_raise_113 ?_
            refine fm_iconst S d_Mo_raise_114 ?_
            refine mo_cvS (n := 2) (As := [.int (iN (2)), .int (iN (1))]) (rest := []) S hK hZo hZ hA hm (fun μ sz hM => t_Mo_copy l D cs Z hZo ad μ V M10 sz 2 1 (nd (cN (sPowN most a kk).2)) (cN (sPowN most a kk).2) (cX (sPowN most a kk).2) (sgn (sPowN most a kk).2) hM hC1 (by omega)) (gV k587 k589 ks28 k6 k590) (by decide) (by decide +kernel) rfl hl.1 rfl (Nat.le_of_ble_eq_true rfl) ⟨Nat.le_of_ble_eq_true rfl, Nat.le_of_ble_eq_true rfl⟩ d_Mo_raise_115 (fun M14 H locs q13 hm => ?_)
            obtain ⟨frM14, rgM14⟩ := q13
            refine lv_aload_n hx hb d_Mo_raise_118 rfl (lv_at hl 2 rfl) ?_
            refine fm_lconst1 S d_Mo_raise_119 ?_
            refine fm_iconst S d_Mo_raise_120 ?_
            refine fm_iconst S d_Mo_raise_121 ?_
            refine mo_cvS (n := 3) (As := [.long (jN (1)), .int (iN (0)), .int (iN (0))]) (rest := []) S hK hZo hZ hA hm (fun μ sz hM => t_Mo_whole l D cs Z hZo ad μ V M14 sz 1 0 0 hM (by omega) (by omega)) (gV k546 k548 ks19 k6 k549) (by decide) (by decide +kernel) rfl hl.1 rfl (Nat.le_of_ble_eq_true rfl) ⟨Nat.le_of_ble_eq_true rfl, Nat.le_of_ble_eq_true rfl⟩ d_Mo_raise_122 (fun M16 H locs q15 hm => ?_)
            obtain ⟨frM16, rgM16⟩ := q15
            have hA2 := one_rv rgM16
            have hB2 : Rv M16 1 (sPowN most a kk).2 := frM16.rv (by decide) hvC rgM14
            refine lv_aload_n hx hb d_Mo_raise_125 rfl (lv_at hl 2 rfl) ?_
            refine mo_ciS (n := 0) (As := []) (rest := []) S hK hZo hZ hA hm (fun μ sz hM => t_Mo_divide l D cs Z hZo ad μ V M16 sz most (nd (cN one300)) (cN one300) (nd (cN (sPowN most a kk).2)) (cN (sPowN most a kk).2) (cX one300) (sgn one300) (cX (sPowN most a kk).2) (sgn (sPowN most a kk).2) hM hA2 hB2 (div_bd one_vB hvC) ndc_nz (by rw [(frM16.2.2 2 (by decide)).1, (frM14.2.2 2 (by decide)).1]; exact h22b) (sg_bd _ _) hpr) (gV k607 k609 ks33 k6 k610) (by decide) (by decide +kernel) rfl hl.1 rfl (Nat.le_of_ble_eq_true rfl) ⟨Nat.le_of_ble_eq_true rfl, Nat.le_of_ble_eq_true rfl⟩ d_Mo_raise_126 (fun x19 M18 H locs q17 hm => ?_)
            have frM18 := q17.1
            have rsM18 := div_res hpr.2 one_vB hvC q17.2
            refine mo_iret S hr hlocks hK hm d_Mo_raise_129 ?_
            rw [sPow_d (fun e => by have := hza e; omega) (by rw [← q1]; omega) (by rw [hS, ← hbd0]; exact c12), hS]
            exact ⟨rfl, ((hF.tr (frM14.o (by decide))).tr (frM16.o (by decide))).tr (frM18.o (by decide)), rsM18⟩
          · refine lv_iload_n hx hb d_Mo_raise_110 rfl (lv_at hl 1 rfl) ?_
            refine mo_iret S hr hlocks hK hm d_Mo_raise_111 ?_
            rw [sPow_r (by rw [← q1]; omega) (by rw [← q1]; exact hza) (by rw [← q1, q1, hS, ← hbd0]; omega), hS]
            exact ⟨rfl, hF, hbd0, hC, h22b⟩
      · refine lv_aload_n hx hb d_Mo_raise_30 rfl (lv_at hl 1 rfl) ?_
        refine mo_get 3 S hK hm (by decide) k469 rfl rfl d_Mo_raise_31 ?_
        refine fm_iconst S d_Mo_raise_34 ?_
        refine mo_iald 2 S hK hm (by decide) (by simp only [moLen]; omega) d_Mo_raise_35 ?_
        refine fm_if_ne (tgt := 41) S (by omega) d_Mo_raise_36 (by decide) (fun c20 => ?_) (fun c20 => ?_)
        · have hza : a = 0 → 0 < x2 := fun e => by
            have h9 : nd (cN a) = 0 := by rw [e]; exact nz_0
            omega
          refine lv_aload_n hx hb d_Mo_raise_41 rfl (lv_at hl 1 rfl) ?_
          refine fm_iconst S d_Mo_raise_42 ?_
          refine fm_bipush S d_Mo_raise_43 (by decide) ?_
          refine mo_cvS (n := 2) (As := [.int (iN (0)), .int (iN (6))]) (rest := []) S hK hZo hZ hA hm (fun μ sz hM => t_Mo_copy l D cs Z hZo ad μ V M sz 0 6 (nd (cN a)) (cN a) (cX a) (sgn a) hM hra (by omega)) (gV k587 k589 ks28 k6 k590) (by decide) (by decide +kernel) rfl hl.1 rfl (Nat.le_of_ble_eq_true rfl) ⟨Nat.le_of_ble_eq_true rfl, Nat.le_of_ble_eq_true rfl⟩ d_Mo_raise_45 (fun M22 H locs q21 hm => ?_)
          obtain ⟨frM22, rgM22⟩ := q21
          refine lv_aload_n hx hb d_Mo_raise_48 rfl (lv_at hl 1 rfl) ?_
          refine fm_lconst1 S d_Mo_raise_49 ?_
          refine fm_iconst S d_Mo_raise_50 ?_
          refine fm_iconst S d_Mo_raise_51 ?_
          refine mo_cvS (n := 3) (As := [.long (jN (1)), .int (iN (0)), .int (iN (2))]) (rest := []) S hK hZo hZ hA hm (fun μ sz hM => t_Mo_whole l D cs Z hZo ad μ V M22 sz 1 0 2 hM (by omega) (by omega)) (gV k546 k548 ks19 k6 k549) (by decide) (by decide +kernel) rfl hl.1 rfl (Nat.le_of_ble_eq_true rfl) ⟨Nat.le_of_ble_eq_true rfl, Nat.le_of_ble_eq_true rfl⟩ d_Mo_raise_52 (fun M24 H locs q23 hm => ?_)
          obtain ⟨frM24, rgM24⟩ := q23
          refine fm_iconst S d_Mo_raise_55 ?_
          refine lv_istore_n (lv' := [(2, .int (iN (0))), (1, .int (iN (x2))), (0, .ref (ad 0))]) hx hb d_Mo_raise_56 rfl hl (by decide) rfl (fun ls hl => ?_)
          refine fm_iconst S d_Mo_raise_57 ?_
          refine lv_istore_n (lv' := [(3, .int (iN (0))), (2, .int (iN (0))), (1, .int (iN (x2))), (0, .ref (ad 0))]) hx hb d_Mo_raise_58 rfl hl (by decide) rfl (fun ls hl => ?_)
          have hC0 := one_rv rgM24
          have hQ0 : Rv M24 6 a := frM24.rv (by decide) hva rgM22
          have hF0 := (frM22.o (by decide)).tr (frM24.o (by decide))
          refine L_raise (Z := Z) S hK hZo hZ hA V M a x2 most hva (by omega) hpr (fun M25 k bad kk H locs ls hkk hbd0 hC h22b hF hl hm => ?_) (x2.natAbs + 1) M24 0 0 0 _ _ _ (by omega) (by omega) (rfl) (fun _ => hC0) (by rw [hC0.1, one_c.1, nd_1]; decide) (hQ0) (hF0) (lv_sub hl [0, 1, 3, 2] rfl) hm
          have hb01 := sPowN_1 most a kk
          rw [← hbd0] at hb01
          have hS : sPowN most a (pw b).natAbs = sPowN most a kk := by
            rw [← q1]
            rcases hkk.2 with e | e
            · rw [e]
            · exact sPowN_stop (by rw [← hbd0]; exact e) hkk.1
          refine lv_iload_n hx hb d_Mo_raise_102 rfl (lv_at hl 3 rfl) ?_
          refine fm_if_ge (tgt := 110) S (by omega) d_Mo_raise_103 (by decide) (fun c26 => ?_) (fun c26 => ?_)
          · refine lv_iload_n hx hb d_Mo_raise_110 rfl (lv_at hl 1 rfl) ?_
            refine mo_iret S hr hlocks hK hm d_Mo_raise_111 ?_
            rw [sPow_r (by rw [← q1]; omega) (by rw [← q1]; exact hza) (by rw [← q1, q1, hS, ← hbd0]; omega), hS]
            exact ⟨rfl, hF, hbd0, hC, h22b⟩
          · refine lv_iload_n hx hb d_Mo_raise_106 rfl (lv_at hl 1 rfl) ?_
            refine fm_if_eq (tgt := 112) S (by omega) d_Mo_raise_107 (by decide) (fun c27 => ?_) (fun c27 => ?_)
            · have hC1 := hC c27
              have hvC := sPowN_vB (a := a) hpr.2 kk
              have h31 := hvC.1
              refine lv_aload_n hx hb d_Mo_raise_112 rfl (lv_at hl 2 rfl) ?_
              refine fm_iconst S d_Mo_raise_113 ?_
              refine fm_iconst S d_Mo_raise_114 ?_
              refine mo_cvS (n := 2) (As := [.int (iN (2)), .int (iN (1))]) (rest := []) S hK hZo hZ hA hm (fun μ sz hM => t_Mo_copy l D cs Z hZo ad μ V M25 sz 2 1 (nd (cN (sPowN most a kk).2)) (cN (sPowN most a kk).2) (cX (sPowN most a kk).2) (sgn (sPowN most a kk).2) hM hC1 (by omega)) (gV k587 k589 ks28 k6 k590) (by decide) (by decide +kernel) rfl hl.1 rfl (Nat.le_of_ble_eq_true rfl) ⟨Nat.le_of_ble_eq_true rfl, Nat.le_of_ble_eq_true rfl⟩ d_Mo_raise_115 (fun M29 H locs q28 hm => ?_)
              obtain ⟨frM29, rgM29⟩ := q28
              refine lv_aload_n hx hb d_Mo_raise_118 rfl (lv_at hl 2 rfl) ?_
              refine fm_lconst1 S d_Mo_raise_119 ?_
              refine fm_iconst S d_Mo_raise_120 ?_
              refine fm_iconst S d_Mo_raise_121 ?_
              refine mo_cvS (n := 3) (As := [.long (jN (1)), .int (iN (0)), .int (iN (0))]) (rest := []) S hK hZo hZ hA hm (fun μ sz hM => t_Mo_whole l D cs Z hZo ad μ V M29 sz 1 0 0 hM (by omega) (by omega)) (gV k546 k548 ks19 k6 k549) (by decide) (by decide +kernel) rfl hl.1 rfl (Nat.le_of_ble_eq_true rfl) ⟨Nat.le_of_ble_eq_true rfl, Nat.le_of_ble_eq_true rfl⟩ d_Mo_raise_122 (fun M31 H locs q30 hm => ?_)
              obtain ⟨frM31, rgM31⟩ := q30
              have hA2 := one_rv rgM31
              have hB2 : Rv M31 1 (sPowN most a kk).2 := frM31.rv (by decide) hvC rgM29
              refine lv_aload_n hx hb d_Mo_raise_125 rfl (lv_at hl 2 rfl) ?_
              refine mo_ciS (n := 0) (As := []) (rest := []) S hK hZo hZ hA hm (fun μ sz hM => t_Mo_divide l D cs Z hZo ad μ V M31 sz most (nd (cN one300)) (cN one300) (nd (cN (sPowN most a kk).2)) (cN (sPowN most a kk).2) (cX one300) (sgn one300) (cX (sPowN most a kk).2) (sgn (sPowN most a kk).2) hM hA2 hB2 (div_bd one_vB hvC) ndc_nz (by rw [(frM31.2.2 2 (by decide)).1, (frM29.2.2 2 (by decide)).1]; exact h22b) (sg_bd _ _) hpr) (gV k607 k609 ks33 k6 k610) (by decide) (by decide +kernel) rfl hl.1 rfl (Nat.le_of_ble_eq_true rfl) ⟨Nat.le_of_ble_eq_true rfl, Nat.le_of_ble_eq_true rfl⟩ d_Mo_raise_126 (fun x34 M33 H locs q32 hm => ?_)
              have frM33 := q32.1
              have rsM33 := div_res hpr.2 one_vB hvC q32.2
              refine mo_iret S hr hlocks hK hm d_Mo_raise_129 ?_
              rw [sPow_d (fun e => by have := hza e; omega) (by rw [← q1]; omega) (by rw [hS, ← hbd0]; exact c27), hS]
              exact ⟨rfl, ((hF.tr (frM29.o (by decide))).tr (frM31.o (by decide))).tr (frM33.o (by decide)), rsM33⟩
            · refine lv_iload_n hx hb d_Mo_raise_110 rfl (lv_at hl 1 rfl) ?_
              refine mo_iret S hr hlocks hK hm d_Mo_raise_111 ?_
              rw [sPow_r (by rw [← q1]; omega) (by rw [← q1]; exact hza) (by rw [← q1, q1, hS, ← hbd0]; omega), hS]
              exact ⟨rfl, hF, hbd0, hC, h22b⟩
        · refine fm_iconst S d_Mo_raise_39 ?_
          refine mo_iret S hr hlocks hK hm d_Mo_raise_40 ?_
          rw [sPow_2 (by rw [← q1]; omega) (ndc_0 (by omega))]
          exact ⟨rfl, FrO.rf, res_r (by decide) h22⟩
    · refine lv_aload_n hx hb d_Mo_raise_15 rfl (lv_at hl 1 rfl) ?_
      refine mo_get 3 S hK hm (by decide) k469 rfl rfl d_Mo_raise_16 ?_
      refine fm_iconst S d_Mo_raise_19 ?_
      refine mo_iald 2 S hK hm (by decide) (by simp only [moLen]; omega) d_Mo_raise_20 ?_
      refine fm_if_ne (tgt := 26) S (by omega) d_Mo_raise_21 (by decide) (fun c35 => ?_) (fun c35 => ?_)
      · refine lv_iload_n hx hb d_Mo_raise_26 rfl (lv_at hl 0 rfl) ?_
        refine fm_if_ge (tgt := 41) S (by omega) d_Mo_raise_27 (by decide) (fun c36 => ?_) (fun c36 => ?_)
        · have hza : a = 0 → 0 < x2 := fun e => by
            have h9 : nd (cN a) = 0 := by rw [e]; exact nz_0
            omega
          refine lv_aload_n hx hb d_Mo_raise_41 rfl (lv_at hl 1 rfl) ?_
          refine fm_iconst S d_Mo_raise_42 ?_
          refine fm_bipush S d_Mo_raise_43 (by decide) ?_
          refine mo_cvS (n := 2) (As := [.int (iN (0)), .int (iN (6))]) (rest := []) S hK hZo hZ hA hm (fun μ sz hM => t_Mo_copy l D cs Z hZo ad μ V M sz 0 6 (nd (cN a)) (cN a) (cX a) (sgn a) hM hra (by omega)) (gV k587 k589 ks28 k6 k590) (by decide) (by decide +kernel) rfl hl.1 rfl (Nat.le_of_ble_eq_true rfl) ⟨Nat.le_of_ble_eq_true rfl, Nat.le_of_ble_eq_true rfl⟩ d_Mo_raise_45 (fun M38 H locs q37 hm => ?_)
          obtain ⟨frM38, rgM38⟩ := q37
          refine lv_aload_n hx hb d_Mo_raise_48 rfl (lv_at hl 1 rfl) ?_
          refine fm_lconst1 S d_Mo_raise_49 ?_
          refine fm_iconst S d_Mo_raise_50 ?_
          refine fm_iconst S d_Mo_raise_51 ?_
          refine mo_cvS (n := 3) (As := [.long (jN (1)), .int (iN (0)), .int (iN (2))]) (rest := []) S hK hZo hZ hA hm (fun μ sz hM => t_Mo_whole l D cs Z hZo ad μ V M38 sz 1 0 2 hM (by omega) (by omega)) (gV k546 k548 ks19 k6 k549) (by decide) (by decide +kernel) rfl hl.1 rfl (Nat.le_of_ble_eq_true rfl) ⟨Nat.le_of_ble_eq_true rfl, Nat.le_of_ble_eq_true rfl⟩ d_Mo_raise_52 (fun M40 H locs q39 hm => ?_)
          obtain ⟨frM40, rgM40⟩ := q39
          refine fm_iconst S d_Mo_raise_55 ?_
          refine lv_istore_n (lv' := [(2, .int (iN (0))), (1, .int (iN (x2))), (0, .ref (ad 0))]) hx hb d_Mo_raise_56 rfl hl (by decide) rfl (fun ls hl => ?_)
          refine fm_iconst S d_Mo_raise_57 ?_
          refine lv_istore_n (lv' := [(3, .int (iN (0))), (2, .int (iN (0))), (1, .int (iN (x2))), (0, .ref (ad 0))]) hx hb d_Mo_raise_58 rfl hl (by decide) rfl (fun ls hl => ?_)
          have hC0 := one_rv rgM40
          have hQ0 : Rv M40 6 a := frM40.rv (by decide) hva rgM38
          have hF0 := (frM38.o (by decide)).tr (frM40.o (by decide))
          refine L_raise (Z := Z) S hK hZo hZ hA V M a x2 most hva (by omega) hpr (fun M41 k bad kk H locs ls hkk hbd0 hC h22b hF hl hm => ?_) (x2.natAbs + 1) M40 0 0 0 _ _ _ (by omega) (by omega) (rfl) (fun _ => hC0) (by rw [hC0.1, one_c.1, nd_1]; decide) (hQ0) (hF0) (lv_sub hl [0, 1, 3, 2] rfl) hm
          have hb01 := sPowN_1 most a kk
          rw [← hbd0] at hb01
          have hS : sPowN most a (pw b).natAbs = sPowN most a kk := by
            rw [← q1]
            rcases hkk.2 with e | e
            · rw [e]
            · exact sPowN_stop (by rw [← hbd0]; exact e) hkk.1
          refine lv_iload_n hx hb d_Mo_raise_102 rfl (lv_at hl 3 rfl) ?_
          refine fm_if_ge (tgt := 110) S (by omega) d_Mo_raise_103 (by decide) (fun c42 => ?_) (fun c42 => ?_)
          · refine lv_iload_n hx hb d_Mo_raise_110 rfl (lv_at hl 1 rfl) ?_
            refine mo_iret S hr hlocks hK hm d_Mo_raise_111 ?_
            rw [sPow_r (by rw [← q1]; omega) (by rw [← q1]; exact hza) (by rw [← q1, q1, hS, ← hbd0]; omega), hS]
            exact ⟨rfl, hF, hbd0, hC, h22b⟩
          · refine lv_iload_n hx hb d_Mo_raise_106 rfl (lv_at hl 1 rfl) ?_
            refine fm_if_eq (tgt := 112) S (by omega) d_Mo_raise_107 (by decide) (fun c43 => ?_) (fun c43 => ?_)
            · have hC1 := hC c43
              have hvC := sPowN_vB (a := a) hpr.2 kk
              have h31 := hvC.1
              refine lv_aload_n hx hb d_Mo_raise_112 rfl (lv_at hl 2 rfl) ?_
              refine fm_iconst S d_Mo_raise_113 ?_
              refine fm_iconst S d_Mo_raise_114 ?_
              refine mo_cvS (n := 2) (As := [.int (iN (2)), .int (iN (1))]) (rest := []) S hK hZo hZ hA hm (fun μ sz hM => t_Mo_copy l D cs Z hZo ad μ V M41 sz 2 1 (nd (cN (sPowN most a kk).2)) (cN (sPowN most a kk).2) (cX (sPowN most a kk).2) (sgn (sPowN most a kk).2) hM hC1 (by omega)) (gV k587 k589 ks28 k6 k590) (by decide) (by decide +kernel) rfl hl.1 rfl (Nat.le_of_ble_eq_true rfl) ⟨Nat.le_of_ble_eq_true rfl, Nat.le_of_ble_eq_true rfl⟩ d_Mo_raise_115 (fun M45 H locs q44 hm => ?_)
              obtain ⟨frM45, rgM45⟩ := q44
              refine lv_aload_n hx hb d_Mo_raise_118 rfl (lv_at hl 2 rfl) ?_
              refine fm_lconst1 S d_Mo_raise_119 ?_
              refine fm_iconst S d_Mo_raise_120 ?_
              refine fm_iconst S d_Mo_raise_121 ?_
              refine mo_cvS (n := 3) (As := [.long (jN (1)), .int (iN (0)), .int (iN (0))]) (rest := []) S hK hZo hZ hA hm (fun μ sz hM => t_Mo_whole l D cs Z hZo ad μ V M45 sz 1 0 0 hM (by omega) (by omega)) (gV k546 k548 ks19 k6 k549) (by decide) (by decide +kernel) rfl hl.1 rfl (Nat.le_of_ble_eq_true rfl) ⟨Nat.le_of_ble_eq_true rfl, Nat.le_of_ble_eq_true rfl⟩ d_Mo_raise_122 (fun M47 H locs q46 hm => ?_)
              obtain ⟨frM47, rgM47⟩ := q46
              have hA2 := one_rv rgM47
              have hB2 : Rv M47 1 (sPowN most a kk).2 := frM47.rv (by decide) hvC rgM45
              refine lv_aload_n hx hb d_Mo_raise_125 rfl (lv_at hl 2 rfl) ?_
              refine mo_ciS (n := 0) (As := []) (rest := []) S hK hZo hZ hA hm (fun μ sz hM => t_Mo_divide l D cs Z hZo ad μ V M47 sz most (nd (cN one300)) (cN one300) (nd (cN (sPowN most a kk).2)) (cN (sPowN most a kk).2) (cX one300) (sgn one300) (cX (sPowN most a kk).2) (sgn (sPowN most a kk).2) hM hA2 hB2 (div_bd one_vB hvC) ndc_nz (by rw [(frM47.2.2 2 (by decide)).1, (frM45.2.2 2 (by decide)).1]; exact h22b) (sg_bd _ _) hpr) (gV k607 k609 ks33 k6 k610) (by decide) (by decide +kernel) rfl hl.1 rfl (Nat.le_of_ble_eq_true rfl) ⟨Nat.le_of_ble_eq_true rfl, Nat.le_of_ble_eq_true rfl⟩ d_Mo_raise_126 (fun x50 M49 H locs q48 hm => ?_)
              have frM49 := q48.1
              have rsM49 := div_res hpr.2 one_vB hvC q48.2
              refine mo_iret S hr hlocks hK hm d_Mo_raise_129 ?_
              rw [sPow_d (fun e => by have := hza e; omega) (by rw [← q1]; omega) (by rw [hS, ← hbd0]; exact c43), hS]
              exact ⟨rfl, ((hF.tr (frM45.o (by decide))).tr (frM47.o (by decide))).tr (frM49.o (by decide)), rsM49⟩
            · refine lv_iload_n hx hb d_Mo_raise_110 rfl (lv_at hl 1 rfl) ?_
              refine mo_iret S hr hlocks hK hm d_Mo_raise_111 ?_
              rw [sPow_r (by rw [← q1]; omega) (by rw [← q1]; exact hza) (by rw [← q1, q1, hS, ← hbd0]; omega), hS]
              exact ⟨rfl, hF, hbd0, hC, h22b⟩
        · refine lv_aload_n hx hb d_Mo_raise_30 rfl (lv_at hl 1 rfl) ?_
          refine mo_get 3 S hK hm (by decide) k469 rfl rfl d_Mo_raise_31 ?_
          refine fm_iconst S d_Mo_raise_34 ?_
          refine mo_iald 2 S hK hm (by decide) (by simp only [moLen]; omega) d_Mo_raise_35 ?_
          refine fm_if_ne (tgt := 41) S (by omega) d_Mo_raise_36 (by decide) (fun c51 => ?_) (fun c51 => ?_)
          · have hza : a = 0 → 0 < x2 := fun e => by
              have h9 : nd (cN a) = 0 := by rw [e]; exact nz_0
              omega
            refine lv_aload_n hx hb d_Mo_raise_41 rfl (lv_at hl 1 rfl) ?_
            refine fm_iconst S d_Mo_raise_42 ?_
            refine fm_bipush S d_Mo_raise_43 (by decide) ?_
            refine mo_cvS (n := 2) (As := [.int (iN (0)), .int (iN (6))]) (rest := []) S hK hZo hZ hA hm (fun μ sz hM => t_Mo_copy l D cs Z hZo ad μ V M sz 0 6 (nd (cN a)) (cN a) (cX a) (sgn a) hM hra (by omega)) (gV k587 k589 ks28 k6 k590) (by decide) (by decide +kernel) rfl hl.1 rfl (Nat.le_of_ble_eq_true rfl) ⟨Nat.le_of_ble_eq_true rfl, Nat.le_of_ble_eq_true rfl⟩ d_Mo_raise_45 (fun M53 H locs q52 hm => ?_)
            obtain ⟨frM53, rgM53⟩ := q52
            refine lv_aload_n hx hb d_Mo_raise_48 rfl (lv_at hl 1 rfl) ?_
            refine fm_lconst1 S d_Mo_raise_49 ?_
            refine fm_iconst S d_Mo_raise_50 ?_
            refine fm_iconst S d_Mo_raise_51 ?_
            refine mo_cvS (n := 3) (As := [.long (jN (1)), .int (iN (0)), .int (iN (2))]) (rest := []) S hK hZo hZ hA hm (fun μ sz hM => t_Mo_whole l D cs Z hZo ad μ V M53 sz 1 0 2 hM (by omega) (by omega)) (gV k546 k548 ks19 k6 k549) (by decide) (by decide +kernel) rfl hl.1 rfl (Nat.le_of_ble_eq_true rfl) ⟨Nat.le_of_ble_eq_true rfl, Nat.le_of_ble_eq_true rfl⟩ d_Mo_raise_52 (fun M55 H locs q54 hm => ?_)
            obtain ⟨frM55, rgM55⟩ := q54
            refine fm_iconst S d_Mo_raise_55 ?_
            refine lv_istore_n (lv' := [(2, .int (iN (0))), (1, .int (iN (x2))), (0, .ref (ad 0))]) hx hb d_Mo_raise_56 rfl hl (by decide) rfl (fun ls hl => ?_)
            refine fm_iconst S d_Mo_raise_57 ?_
            refine lv_istore_n (lv' := [(3, .int (iN (0))), (2, .int (iN (0))), (1, .int (iN (x2))), (0, .ref (ad 0))]) hx hb d_Mo_raise_58 rfl hl (by decide) rfl (fun ls hl => ?_)
            have hC0 := one_rv rgM55
            have hQ0 : Rv M55 6 a := frM55.rv (by decide) hva rgM53
            have hF0 := (frM53.o (by decide)).tr (frM55.o (by decide))
            refine L_raise (Z := Z) S hK hZo hZ hA V M a x2 most hva (by omega) hpr (fun M56 k bad kk H locs ls hkk hbd0 hC h22b hF hl hm => ?_) (x2.natAbs + 1) M55 0 0 0 _ _ _ (by omega) (by omega) (rfl) (fun _ => hC0) (by rw [hC0.1, one_c.1, nd_1]; decide) (hQ0) (hF0) (lv_sub hl [0, 1, 3, 2] rfl) hm
            have hb01 := sPowN_1 most a kk
            rw [← hbd0] at hb01
            have hS : sPowN most a (pw b).natAbs = sPowN most a kk := by
              rw [← q1]
              rcases hkk.2 with e | e
              · rw [e]
              · exact sPowN_stop (by rw [← hbd0]; exact e) hkk.1
            refine lv_iload_n hx hb d_Mo_raise_102 rfl (lv_at hl 3 rfl) ?_
            refine fm_if_ge (tgt := 110) S (by omega) d_Mo_raise_103 (by decide) (fun c57 => ?_) (fun c57 => ?_)
            · refine lv_iload_n hx hb d_Mo_raise_110 rfl (lv_at hl 1 rfl) ?_
              refine mo_iret S hr hlocks hK hm d_Mo_raise_111 ?_
              rw [sPow_r (by rw [← q1]; omega) (by rw [← q1]; exact hza) (by rw [← q1, q1, hS, ← hbd0]; omega), hS]
              exact ⟨rfl, hF, hbd0, hC, h22b⟩
            · refine lv_iload_n hx hb d_Mo_raise_106 rfl (lv_at hl 1 rfl) ?_
              refine fm_if_eq (tgt := 112) S (by omega) d_Mo_raise_107 (by decide) (fun c58 => ?_) (fun c58 => ?_)
              · have hC1 := hC c58
                have hvC := sPowN_vB (a := a) hpr.2 kk
                have h31 := hvC.1
                refine lv_aload_n hx hb d_Mo_raise_112 rfl (lv_at hl 2 rfl) ?_
                refine fm_iconst S d_Mo_raise_113 ?_
                refine fm_iconst S d_Mo_raise_114 ?_
                refine mo_cvS (n := 2) (As := [.int (iN (2)), .int (iN (1))]) (rest := []) S hK hZo hZ hA hm (fun μ sz hM => t_Mo_copy l D cs Z hZo ad μ V M56 sz 2 1 (nd (cN (sPowN most a kk).2)) (cN (sPowN most a kk).2) (cX (sPowN most a kk).2) (sgn (sPowN most a kk).2) hM hC1 (by omega)) (gV k587 k589 ks28 k6 k590) (by decide) (by decide +kernel) rfl hl.1 rfl (Nat.le_of_ble_eq_true rfl) ⟨Nat.le_of_ble_eq_true rfl, Nat.le_of_ble_eq_true rfl⟩ d_Mo_raise_115 (fun M60 H locs q59 hm => ?_)
                obtain ⟨frM60, rgM60⟩ := q59
                refine lv_aload_n hx hb d_Mo_raise_118 rfl (lv_at hl 2 rfl) ?_
                refine fm_lconst1 S d_Mo_raise_119 ?_
                refine fm_iconst S d_Mo_raise_120 ?_
                refine fm_iconst S d_Mo_raise_121 ?_
                refine mo_cvS (n := 3) (As := [.long (jN (1)), .int (iN (0)), .int (iN (0))]) (rest := []) S hK hZo hZ hA hm (fun μ sz hM => t_Mo_whole l D cs Z hZo ad μ V M60 sz 1 0 0 hM (by omega) (by omega)) (gV k546 k548 ks19 k6 k549) (by decide) (by decide +kernel) rfl hl.1 rfl (Nat.le_of_ble_eq_true rfl) ⟨Nat.le_of_ble_eq_true rfl, Nat.le_of_ble_eq_true rfl⟩ d_Mo_raise_122 (fun M62 H locs q61 hm => ?_)
                obtain ⟨frM62, rgM62⟩ := q61
                have hA2 := one_rv rgM62
                have hB2 : Rv M62 1 (sPowN most a kk).2 := frM62.rv (by decide) hvC rgM60
                refine lv_aload_n hx hb d_Mo_raise_125 rfl (lv_at hl 2 rfl) ?_
                refine mo_ciS (n := 0) (As := []) (rest := []) S hK hZo hZ hA hm (fun μ sz hM => t_Mo_divide l D cs Z hZo ad μ V M62 sz most (nd (cN one300)) (cN one300) (nd (cN (sPowN most a kk).2)) (cN (sPowN most a kk).2) (cX one300) (sgn one300) (cX (sPowN most a kk).2) (sgn (sPowN most a kk).2) hM hA2 hB2 (div_bd one_vB hvC) ndc_nz (by rw [(frM62.2.2 2 (by decide)).1, (frM60.2.2 2 (by decide)).1]; exact h22b) (sg_bd _ _) hpr) (gV k607 k609 ks33 k6 k610) (by decide) (by decide +kernel) rfl hl.1 rfl (Nat.le_of_ble_eq_true rfl) ⟨Nat.le_of_ble_eq_true rfl, Nat.le_of_ble_eq_true rfl⟩ d_Mo_raise_126 (fun x65 M64 H locs q63 hm => ?_)
                have frM64 := q63.1
                have rsM64 := div_res hpr.2 one_vB hvC q63.2
                refine mo_iret S hr hlocks hK hm d_Mo_raise_129 ?_
                rw [sPow_d (fun e => by have := hza e; omega) (by rw [← q1]; omega) (by rw [hS, ← hbd0]; exact c58), hS]
                exact ⟨rfl, ((hF.tr (frM60.o (by decide))).tr (frM62.o (by decide))).tr (frM64.o (by decide)), rsM64⟩
              · refine lv_iload_n hx hb d_Mo_raise_110 rfl (lv_at hl 1 rfl) ?_
                refine mo_iret S hr hlocks hK hm d_Mo_raise_111 ?_
                rw [sPow_r (by rw [← q1]; omega) (by rw [← q1]; exact hza) (by rw [← q1, q1, hS, ← hbd0]; omega), hS]
                exact ⟨rfl, hF, hbd0, hC, h22b⟩
          · refine fm_iconst S d_Mo_raise_39 ?_
            refine mo_iret S hr hlocks hK hm d_Mo_raise_40 ?_
            rw [sPow_2 (by rw [← q1]; omega) (ndc_0 (by omega))]
            exact ⟨rfl, FrO.rf, res_r (by decide) h22⟩
      · refine fm_iconst S d_Mo_raise_24 ?_
        refine mo_iret S hr hlocks hK hm d_Mo_raise_25 ?_
        rw [sPow_1 (by rw [← q1]; first | exact Or.inl (by omega) | exact Or.inr ⟨by omega, ndc_0 (by omega)⟩)]
        exact ⟨rfl, FrO.rf, res_r (by decide) h22⟩
