theorem pw_cls {b : Int} (hb : dB b) (h0 : b ≠ 0) (ht : tp b ≤ 1) (hx : 0 ≤ tp b + 1 - (nd (cN b) : Int)) : pw b = sgn b * ((uW b 0 % 10 ^ 18 : Nat) : Int) ∧ uW b 0 % 10 ^ 18 < 100 := by
  have e : tp b = (nd (cN b) : Int) + cX b - 1 := by unfold tp; rw [if_neg h0]
  have hcx : 0 ≤ cX b := by omega
  have hle : (nd (cN b) : Int) + cX b ≤ 2 := by omega
  have h1 := (pw_dig hcx hle).2
  have h2 : uW b 0 = cN b * 10 ^ (cX b).toNat := by
    have ec : cX b = (tz b.natAbs : Int) - 300 := by unfold cX; rw [if_neg h0]
    unfold uW uU
    rw [show (300 - (0 : Int)).toNat = 300 by decide]
    have es : b.natAbs = cN b * 10 ^ tz b.natAbs := by unfold cN; exact (st_back (fun z => h0 (Int.natAbs_eq_zero.mp z))).symm
    rw [show tz b.natAbs = (cX b).toNat + 300 by omega, Nat.pow_add, ← Nat.mul_assoc] at es
    rw [es, Nat.mul_div_cancel _ (p10N 300)]
  have h3 : (10 : Nat) ^ 18 = 1000000000000000000 := by decide
  rw [h2, Nat.mod_eq_of_lt (by omega)]
  refine ⟨?_, h1⟩
  unfold pw
  rw [if_neg h0, if_neg (by omega)]
theorem one_dB : dB one300 := ⟨by rw [one_c.1, nd_1]; decide, Or.inr (by unfold tp; rw [if_neg one_nz, one_c.1, one_c.2.1, nd_1]; decide)⟩
theorem pwN_step {P : Nat} {a : Int} (hP : 1 ≤ P ∧ P ≤ 31) (n : Nat) : opW (sPowN P a n).1 0 (sMul P (sPowN P a n).2 a) = sPowN P a (n + 1) := by
  unfold opW
  by_cases h : (sPowN P a n).1 = 0
  · rw [if_neg (by omega), if_neg (by omega), sPowN_s h]
  · rw [if_pos h, sPowN_stop h (Nat.le_succ n)]
    have := (sPowN_nd (a := a) hP n).2.2.2 h
    rw [← this]
theorem pw_neg {P : Nat} {a b : Int} (hP : 1 ≤ P ∧ P ≤ 31) (h2 : a ≠ 0) (h3 : pw b < 0) : opW 0 (sPowN P a (pw b).natAbs).1 (sDiv P one300 (sPowN P a (pw b).natAbs).2) = sPow P a b := by
  unfold opW
  by_cases h : (sPowN P a (pw b).natAbs).1 = 0
  · rw [if_neg (by omega), if_neg (by omega), sPow_d h2 h3 h]
  · rw [if_neg (by omega), if_pos h, sPow_r (by omega) (fun e => absurd e h2) (Or.inr h)]
    have := (sPowN_nd (a := a) hP (pw b).natAbs).2.2.2 h
    rw [← this]

set_option maxHeartbeats 4000000 in
set_option maxRecDepth 100000 in
/-- powerOf(b) -/
theorem t_Ca_powerOf (l : Launch) (D : va_G) (cs : Nat → ClassId) (Z : (Nat → Prop) → State → Heap → Prop) (hZo : fm_Zok Z) (tT : Nat) (hZc : ∀ A U H, Z A U H → Zc tT A U H) (μ : fm_Mu) (sz : Nat) (h : Nat) (a : Nat) (co : Int) (v : Int) (F : Int → Int) (hd : dF F v) (hv : dB v) (c_h : μ h = some (oE 2 [.int (iN (co)), .int (iN ((sgn v))), .int (iN ((tp v))), .int (iN ((nd (cN v) : Int))), .ref a])) (c_a : μ a = some (lE cs 4 F)) : Met l y_Ca_powerOf (Cond.code y_Ca_powerOf c_Ca_powerOf 1 (some .int) :: wA) ({ frames := 3, cells := 0, slots := 0, locals := 66 }) (fm_Pc D clsA (tysA cs) Z μ sz [.ref h]) (fm_Qi D clsA (tysA cs) μ sz (fun z μ' => z = pw v ∧ μ' = μ)) 0 0 (fm_A μ sz) := by
  refine cl_of (by decide +kernel) (Nat.le_of_ble_eq_true rfl) (fun p e s m below meth c S hr hlocks hnm hsz hw hK hZ hA ls hl => ?_)
  subst hsz
  replace S : CallFix p m c c_Ca_powerOf 1 s _ wA "ArithmeticForms$Calculator" := S
  obtain ⟨hx, hb, hml, hown, hts⟩ := id S
  have hzc := hZc _ _ _ hZ
  have hO0 : fm_O μ μ [] := fm_O.rf
  have hl : lv_has ls 1 [(0, .ref h)] := hl
  have htv := hv.t
  have hsv := sgn_in v
  have hnd := hv.1
  refine lv_aload_n hx hb d_Ca_powerOf_0 rfl (lv_at hl 0 rfl) ?_
  refine fm_get S hK hw c_h i_De rfl 1 (by decide) (hts _ k36) (fun _ h => h) rfl d_Ca_powerOf_1 ?_
  refine fm_if_ne (tgt := 9) S (by omega) d_Ca_powerOf_4 (by decide) (fun c1 => ?_) (fun c1 => ?_)
  · refine lv_aload_n hx hb d_Ca_powerOf_9 rfl (lv_at hl 0 rfl) ?_
    refine fm_get S hK hw c_h i_De rfl 2 (by decide) (hts _ k40) (fun _ h => h) rfl d_Ca_powerOf_10 ?_
    refine fm_iconst S d_Ca_powerOf_13 ?_
    refine fm_icmp_gt (tgt := 24) S (by omega) (by omega) d_Ca_powerOf_14 (by decide) (fun c2 => ?_) (fun c2 => ?_)
    · refine fm_bipush S d_Ca_powerOf_24 (by decide) ?_
      refine fm_iret S hr hlocks hK hw d_Ca_powerOf_26 ?_
      refine ⟨?_, rfl⟩
      have hv0 : v ≠ 0 := fun z => (show ¬ sgn v = 0 by assumption) (by rw [z, sgn_0])
      have et : tp v = (nd (cN v) : Int) + cX v - 1 := by unfold tp; rw [if_neg hv0]
      unfold pw
      rw [if_neg hv0, if_pos (by omega)]
    · refine lv_aload_n hx hb d_Ca_powerOf_17 rfl (lv_at hl 0 rfl) ?_
      refine fm_callSi (va_runV (As := []) (rest := []) S (t_De_exponent l D cs Z hZo tT hZc μ _ h a co (sgn v) (tp v) (nd (cN v) : Int) F (by omega) c_h c_a) (cwV 0 hts (gV k176 k177 k178 k2 k179) rfl rfl rfl (by decide +kernel) (by decide)) (fm_preV hZo hK hw hZ hA c_h rfl _) rfl rfl hl.1 rfl (lv_room (Nat.le_of_ble_eq_true rfl)) d_Ca_powerOf_18 ⟨Nat.le_of_ble_eq_true rfl, Nat.le_of_ble_eq_true rfl⟩) (fun x4 q3 => ?_)
      have hv0 : v ≠ 0 := fun z => (show ¬ sgn v = 0 by assumption) (by rw [z, sgn_0])
      have hct0 : ¬ (nd (cN v) : Int) = 0 := fun z => hv0 (ndc_0 (by omega))
      rw [if_neg hct0] at q3
      refine fm_if_ge (tgt := 27) S (by omega) d_Ca_powerOf_21 (by decide) (fun c5 => ?_) (fun c5 => ?_)
      · refine lv_aload_n hx hb d_Ca_powerOf_27 rfl (lv_at hl 0 rfl) ?_
        refine fm_get S hK hw c_h i_De rfl 1 (by decide) (hts _ k36) (fun _ h => h) rfl d_Ca_powerOf_28 ?_
        refine lv_aload_n hx hb d_Ca_powerOf_31 rfl (lv_at hl 0 rfl) ?_
        refine fm_iconst S d_Ca_powerOf_32 ?_
        refine fm_calll (va_runV (As := [.int (iN (0))]) (rest := [.int (iN ((sgn v)))]) S (t_De_lowestWhole l D cs Z hZo tT hZc μ _ h a co v F 0 hd hv (by omega) c_h c_a) (cwV 1 hts (gV k180 k181 k182 k2 k183) rfl rfl rfl (by decide +kernel) (by decide)) (fm_preV hZo hK hw hZ hA c_h rfl _) rfl rfl hl.1 rfl (lv_room (Nat.le_of_ble_eq_true rfl)) d_Ca_powerOf_33 ⟨Nat.le_of_ble_eq_true rfl, Nat.le_of_ble_eq_true rfl⟩) hw hA (fun x7 μ8 H locs q6 hw => ?_)
        obtain ⟨q6, hmu⟩ := q6
        rw [hmu] at hw
        clear hmu
        obtain ⟨hp1, hp2⟩ := pw_cls hv hv0 (by omega) (by omega)
        refine fm_l2i S d_Ca_powerOf_36 ?_
        refine fm_imul S d_Ca_powerOf_37 ?_
        refine fm_iret S hr hlocks hK hw d_Ca_powerOf_38 ?_
        refine ⟨?_, rfl⟩
        rw [hp1, q6]
      · refine fm_bipush S d_Ca_powerOf_24 (by decide) ?_
        refine fm_iret S hr hlocks hK hw d_Ca_powerOf_26 ?_
        refine ⟨?_, rfl⟩
        have hv0 : v ≠ 0 := fun z => (show ¬ sgn v = 0 by assumption) (by rw [z, sgn_0])
        have et : tp v = (nd (cN v) : Int) + cX v - 1 := by unfold tp; rw [if_neg hv0]
        unfold pw
        rw [if_neg hv0, if_pos (by omega)]
  · refine fm_iconst S d_Ca_powerOf_7 ?_
    refine fm_iret S hr hlocks hK hw d_Ca_powerOf_8 ?_
    refine ⟨?_, rfl⟩
    have hv0 : v = 0 := Classical.byContradiction fun z => by rcases sgn_nz z with z1 | z1 <;> omega
    unfold pw
    rw [if_pos hv0]

set_option maxHeartbeats 4000000 in
set_option maxRecDepth 100000 in
/-- K_po -/
theorem K_po {p : Program} {l : Launch} {e : Env} {s : State} {m : MethodId} {args : Array Value} {below : List Frame} {meth : Method} {c : Code} {Q : State → Prop} {D : va_G} {cs : Nat → ClassId} {Z : (Nat → Prop) → State → Heap → Prop} {A : Nat → Prop}  (S : CallFix p m c c_Ca_power 6 s args wA "ArithmeticForms$Calculator") (hK : va_K D clsA (tysA cs) s) (hZo : fm_Zok Z) (tT : Nat) (hZc : ∀ A U H, Z A U H → Zc tT A U H) (hZ : Z A s s.heap) (hA : ∀ q, s.heap.size ≤ q → A q) (μ0 : fm_Mu) (k w lf on P : Nat) (h a ga la lo : Nat) (va vb : Int) (FA FO X : Int → Int) (hda : dF FA va) (hva : dB va) (hdo : dF FO one300) (hP : 1 ≤ P ∧ P ≤ 31) (hn1 : ga ≠ h) (hn2 : la ≠ a) (hn3 : on ≠ h) (hn4 : lo ≠ a) (kk92 : ∀ (μ1 : fm_Mu) (i : Int) (n : Nat) (F1 : Int → Int) (G1 : Int → Int) (H : Heap) (locs : List Loc) (ls : Array Slot), (n = (pw vb).natAbs) → (dF F1 (sPowN P va n).2) → (dB (sPowN P va n).2) → (μ1 k = some (oE 1 [.int (iN ((P : Int))), .ref w, .ref lf, .ref on])) → (μ1 w = some (lE cs 30 G1)) → (μ1 lf = some (lE cs 5 X)) → (μ1 h = some (oE 2 [.int (iN ((sPowN P va n).1)), .int (iN ((sgn (sPowN P va n).2))), .int (iN ((tp (sPowN P va n).2))), .int (iN ((nd (cN (sPowN P va n).2) : Int))), .ref a])) → (μ1 a = some (lE cs 4 F1)) → (μ1 ga = some (oE 2 [.int (iN (0)), .int (iN ((sgn va))), .int (iN ((tp va))), .int (iN ((nd (cN va) : Int))), .ref la])) → (μ1 la = some (lE cs 4 FA)) → (μ1 on = some (oE 2 [.int (iN (0)), .int (iN ((sgn one300))), .int (iN ((tp one300))), .int (iN ((nd (cN one300) : Int))), .ref lo])) → (μ1 lo = some (lE cs 4 FO)) → fm_O μ0 μ1 [h, a, w, lf] → lv_has ls 6 [(5, .int (iN (i))), (4, .int (iN ((pw vb)))), (0, .ref k), (1, .ref h), (2, .ref ga)] → fm_W D clsA A s.heap μ1 H locs → W p l e ({ frames := 5, cells := 0, slots := 0, locals := 123 }) s m args below meth c H locs 0 0 Q (F0 m 92 ls [])) : ∀ (fu : Nat) (μ1 : fm_Mu) (i : Int) (n : Nat) (F1 : Int → Int) (G1 : Int → Int) (H : Heap) (locs : List Loc) (ls : Array Slot), i < (fu : Int) → (i + n = ((pw vb).natAbs : Int) ∧ 0 ≤ i ∧ i ≤ 100) → (dF F1 (sPowN P va n).2) → (dB (sPowN P va n).2) → (μ1 k = some (oE 1 [.int (iN ((P : Int))), .ref w, .ref lf, .ref on])) → (μ1 w = some (lE cs 30 G1)) → (μ1 lf = some (lE cs 5 X)) → (μ1 h = some (oE 2 [.int (iN ((sPowN P va n).1)), .int (iN ((sgn (sPowN P va n).2))), .int (iN ((tp (sPowN P va n).2))), .int (iN ((nd (cN (sPowN P va n).2) : Int))), .ref a])) → (μ1 a = some (lE cs 4 F1)) → (μ1 ga = some (oE 2 [.int (iN (0)), .int (iN ((sgn va))), .int (iN ((tp va))), .int (iN ((nd (cN va) : Int))), .ref la])) → (μ1 la = some (lE cs 4 FA)) → (μ1 on = some (oE 2 [.int (iN (0)), .int (iN ((sgn one300))), .int (iN ((tp one300))), .int (iN ((nd (cN one300) : Int))), .ref lo])) → (μ1 lo = some (lE cs 4 FO)) → fm_O μ0 μ1 [h, a, w, lf] → lv_has ls 6 [(5, .int (iN (i))), (4, .int (iN ((pw vb)))), (0, .ref k), (1, .ref h), (2, .ref ga)] → fm_W D clsA A s.heap μ1 H locs → W p l e ({ frames := 5, cells := 0, slots := 0, locals := 123 }) s m args below meth c H locs 0 0 Q (F0 m 74 ls []) := by
  obtain ⟨hx, hb, hml, hown, hts⟩ := id S
  have hzc := hZc _ _ _ hZ
  intro fu
  induction fu with
  | zero =>
    intro μ1 i n F1 G1 H locs ls hn hi hd1 hv1 c_k c_w c_lf c_h c_a c_ga c_la c_on c_lo hO0 hl hw
    exfalso; omega
  | succ fu ih =>
    intro μ1 i n F1 G1 H locs ls hn hi hd1 hv1 c_k c_w c_lf c_h c_a c_ga c_la c_on c_lo hO0 hl hw
    have hc2 := sPowN_1 P va n
    refine lv_iload hx hb d_Ca_power_74 (lv_at hl 0 rfl) ?_
    refine fm_if_le (tgt := 92) S (by omega) d_Ca_power_76 (by decide) (fun c1 => ?_) (fun c1 => ?_)
    · exact kk92 μ1 i n F1 G1 _ _ _ (by omega) (hd1) (hv1) c_k c_w c_lf c_h c_a c_ga c_la c_on c_lo hO0 (lv_sub hl [0, 1, 2, 3, 4] rfl) hw
    · refine lv_aload_n hx hb d_Ca_power_79 rfl (lv_at hl 2 rfl) ?_
      refine lv_aload_n hx hb d_Ca_power_80 rfl (lv_at hl 3 rfl) ?_
      refine lv_aload_n hx hb d_Ca_power_81 rfl (lv_at hl 3 rfl) ?_
      refine lv_aload_n hx hb d_Ca_power_82 rfl (lv_at hl 4 rfl) ?_
      refine fm_callv (va_runV (As := [.ref h, .ref h, .ref ga]) (rest := []) S (t_Ca_multiply l D cs Z hZo tT hZc μ1 _ k w lf on P G1 h a ((sPowN P va n).1) (sgn (sPowN P va n).2) (tp (sPowN P va n).2) (nd (cN (sPowN P va n).2) : Int) F1 h a ((sPowN P va n).1) ((sPowN P va n).2) F1 ga la 0 va FA  (by omega) (by omega) hd1 hv1 hda hva hP  c_k c_w c_h c_a c_h c_a c_ga c_la) (cwV 3 hts (gV k202 k203 k204 k3 k205) rfl rfl rfl (by decide +kernel) (by decide)) (fm_preV hZo hK hw hZ hA c_k rfl _) rfl rfl hl.1 rfl (lv_room (Nat.le_of_ble_eq_true rfl)) d_Ca_power_83 ⟨Nat.le_of_ble_eq_true rfl, Nat.le_of_ble_eq_true rfl⟩) hw hA (fun μ3 H locs q2 hw => ?_)
      obtain ⟨⟨F4, hq, hq2, hdF4, hvF4⟩, ⟨G5, hq3⟩, hO⟩ := q2
      have k_k : μ3 k = some (oE 1 [.int (iN ((P : Int))), .ref w, .ref lf, .ref on]) := hO.at (nmc (fm_kn c_k c_h rfl) (nmc (fm_kn c_k c_a rfl) (nmc (fm_kn c_k c_w rfl) nm0))) c_k
      have k_lf : μ3 lf = some (lE cs 5 X) := hO.at (nmc (fm_kn c_lf c_h rfl) (nmc (fm_kn c_lf c_a rfl) (nmc (fm_kn c_lf c_w rfl) nm0))) c_lf
      have k_ga : μ3 ga = some (oE 2 [.int (iN (0)), .int (iN ((sgn va))), .int (iN ((tp va))), .int (iN ((nd (cN va) : Int))), .ref la]) := hO.at (nmc hn1 (nmc (fm_kn c_ga c_a rfl) (nmc (fm_kn c_ga c_w rfl) nm0))) c_ga
      have k_la : μ3 la = some (lE cs 4 FA) := hO.at (nmc (fm_kn c_la c_h rfl) (nmc hn2 (nmc (fm_kn c_la c_w rfl) nm0))) c_la
      have k_on : μ3 on = some (oE 2 [.int (iN (0)), .int (iN ((sgn one300))), .int (iN ((tp one300))), .int (iN ((nd (cN one300) : Int))), .ref lo]) := hO.at (nmc hn3 (nmc (fm_kn c_on c_a rfl) (nmc (fm_kn c_on c_w rfl) nm0))) c_on
      have k_lo : μ3 lo = some (lE cs 4 FO) := hO.at (nmc (fm_kn c_lo c_h rfl) (nmc hn4 (nmc (fm_kn c_lo c_w rfl) nm0))) c_lo
      have k_h : μ3 h = some (oE 2 [.int (iN ((opW ((sPowN P va n).1) 0 (sMul P ((sPowN P va n).2) va)).1)), .int (iN ((sgn (opW ((sPowN P va n).1) 0 (sMul P ((sPowN P va n).2) va)).2))), .int (iN ((tp (opW ((sPowN P va n).1) 0 (sMul P ((sPowN P va n).2) va)).2))), .int (iN ((nd (cN (opW ((sPowN P va n).1) 0 (sMul P ((sPowN P va n).2) va)).2) : Int))), .ref a]) := hq
      have k_a : μ3 a = some (lE cs 4 F4) := hq2
      have k_w : μ3 w = some (lE cs 30 G5) := hq3
      have hO0 := hO0.tr1 hO (by simp)
      clear c_k c_w c_lf c_h c_a c_ga c_la c_on c_lo
      have c_k := k_k; clear k_k
      have c_lf := k_lf; clear k_lf
      have c_ga := k_ga; clear k_ga
      have c_la := k_la; clear k_la
      have c_on := k_on; clear k_on
      have c_lo := k_lo; clear k_lo
      have c_h := k_h; clear k_h
      have c_a := k_a; clear k_a
      have c_w := k_w; clear k_w
      clear hq hq2 hq3 hO
      rw [pwN_step hP] at c_h hdF4 hvF4
      refine lv_iinc (v := iN ((i + (-1)))) (lv' := [(5, .int (iN ((i + (-1))))), (4, .int (iN ((pw vb)))), (0, .ref k), (1, .ref h), (2, .ref ga)]) hx hb d_Ca_power_86 hl (k := 0) rfl (iN_add _ _) (by decide) rfl (fun ls hl => ?_)
      refine lv_goto (tgt := 74) hx hb d_Ca_power_89 (by decide) ?_
      exact ih μ3 (i + -1) (n + 1) F4 G5 _ _ _ (by omega) (by omega) (hdF4) (hvF4) c_k c_w c_lf c_h c_a c_ga c_la c_on c_lo hO0 (lv_sub hl [0, 1, 2, 3, 4] rfl) hw

set_option maxHeartbeats 4000000 in
set_option maxRecDepth 100000 in
/-- power(into, a, b) -/
theorem t_Ca_power (l : Launch) (D : va_G) (cs : Nat → ClassId) (Z : (Nat → Prop) → State → Heap → Prop) (hZo : fm_Zok Z) (tT : Nat) (hZc : ∀ A U H, Z A U H → Zc tT A U H) (μ : fm_Mu) (sz : Nat) (k : Nat) (w : Nat) (lf : Nat) (on : Nat) (P : Nat) (G : Int → Int) (X : Int → Int) (h : Nat) (a : Nat) (co : Int) (sg : Int) (tq : Int) (ct : Int) (F : Int → Int) (ga : Nat) (la : Nat) (ca : Int) (va : Int) (FA : Int → Int) (gb : Nat) (lb : Nat) (cb : Int) (vb : Int) (FB : Int → Int) (lo : Nat) (FO : Int → Int) (hca : inI ca) (hcb : inI cb) (hda : dF FA va) (hva : dB va) (hdb : dF FB vb) (hvb : dB vb) (hP : 1 ≤ P ∧ P ≤ 31) (hdo : dF FO one300) (hn1 : ga ≠ h) (hn2 : la ≠ a) (hn3 : on ≠ h) (hn4 : lo ≠ a) (c_k : μ k = some (oE 1 [.int (iN ((P : Int))), .ref w, .ref lf, .ref on])) (c_w : μ w = some (lE cs 30 G)) (c_h : μ h = some (oE 2 [.int (iN (co)), .int (iN (sg)), .int (iN (tq)), .int (iN (ct)), .ref a])) (c_a : μ a = some (lE cs 4 F)) (c_ga : μ ga = some (oE 2 [.int (iN (ca)), .int (iN ((sgn va))), .int (iN ((tp va))), .int (iN ((nd (cN va) : Int))), .ref la])) (c_la : μ la = some (lE cs 4 FA)) (c_gb : μ gb = some (oE 2 [.int (iN (cb)), .int (iN ((sgn vb))), .int (iN ((tp vb))), .int (iN ((nd (cN vb) : Int))), .ref lb])) (c_lb : μ lb = some (lE cs 4 FB)) (c_lf : μ lf = some (lE cs 5 X)) (c_on : μ on = some (oE 2 [.int (iN (0)), .int (iN ((sgn one300))), .int (iN ((tp one300))), .int (iN ((nd (cN one300) : Int))), .ref lo])) (c_lo : μ lo = some (lE cs 4 FO)) : Met l y_Ca_power (Cond.code y_Ca_power c_Ca_power 6 none :: wA) ({ frames := 5, cells := 0, slots := 0, locals := 123 }) (fm_Pc D clsA (tysA cs) Z μ sz [.ref k, .ref h, .ref ga, .ref gb]) (fm_Qv D clsA (tysA cs) μ sz (fun μ' => Dc cs μ' h a (opW ca cb (sPow P va vb)).1 (opW ca cb (sPow P va vb)).2 ∧ (∃ G' : Int → Int, μ' w = some (lE cs 30 G')) ∧ (∃ X' : Int → Int, μ' lf = some (lE cs 5 X')) ∧ fm_O μ μ' [h, a, w, lf])) 0 0 (fm_A μ sz) := by
  refine cl_of (by decide +kernel) (Nat.le_of_ble_eq_true rfl) (fun p e s m below meth c S hr hlocks hnm hsz hw hK hZ hA ls hl => ?_)
  subst hsz
  replace S : CallFix p m c c_Ca_power 6 s _ wA "ArithmeticForms$Calculator" := S
  obtain ⟨hx, hb, hml, hown, hts⟩ := id S
  have hzc := hZc _ _ _ hZ
  have hO0 : fm_O μ μ [h, a, w, lf] := fm_O.rf
  have hl : lv_has ls 6 [(0, .ref k), (1, .ref h), (2, .ref ga), (3, .ref gb)] := hl
  refine lv_aload_n hx hb d_Ca_power_0 rfl (lv_at hl 1 rfl) ?_
  refine lv_aload_n hx hb d_Ca_power_1 rfl (lv_at hl 2 rfl) ?_
  refine lv_aload_n hx hb d_Ca_power_2 rfl (lv_at hl 3 rfl) ?_
  refine fm_calli (va_runS (As := [.ref h, .ref ga, .ref gb]) (rest := []) S (t_Ca_passOn l D cs Z hZo tT hZc μ _ h a co sg tq ct F ga la ca va FA gb lb cb vb FB (by omega) (by omega) c_h c_a c_ga c_la c_gb c_lb) (va_cwS 3 hts (gS k166 k167 k3 k168) rfl rfl rfl (by decide +kernel) (by decide)) (fm_pre hZo hK hw hZ hA _) rfl rfl hl.1 rfl (lv_room (Nat.le_of_ble_eq_true rfl)) d_Ca_power_3 ⟨Nat.le_of_ble_eq_true rfl, Nat.le_of_ble_eq_true rfl⟩) hw hA (fun x2 μ3 H locs q1 hw => ?_)
  rcases q1 with ⟨hz, hc1, hc2, hmu⟩ | ⟨hz, hc1, hDc, hO⟩
  · subst hz
    rw [hmu] at hw
    clear hmu
    refine fm_if_eq (tgt := 10) S (by omega) d_Ca_power_6 (by decide) (fun c4 => ?_) (fun c4 => ?_)
    · subst hc1
      subst hc2
      have htva := hva.t
      have hsa := sgn_in va
      have hpi := pw_in (b := vb)
      refine lv_aload_n hx hb d_Ca_power_10 rfl (lv_at hl 3 rfl) ?_
      refine fm_calli (va_runS (As := [.ref gb]) (rest := []) S (t_Ca_powerOf l D cs Z hZo tT hZc μ _ gb lb 0 vb FB hdb hvb c_gb c_lb) (va_cwS 1 hts (gS k173 k174 k3 k175) rfl rfl rfl (by decide +kernel) (by decide)) (fm_pre hZo hK hw hZ hA _) rfl rfl hl.1 rfl (lv_room (Nat.le_of_ble_eq_true rfl)) d_Ca_power_11 ⟨Nat.le_of_ble_eq_true rfl, Nat.le_of_ble_eq_true rfl⟩) hw hA (fun x6 μ7 H locs q5 hw => ?_)
      obtain ⟨q5, hmu⟩ := q5
      rw [hmu] at hw
      clear hmu
      refine lv_istore (lv' := [(4, .int (iN (x6))), (0, .ref k), (1, .ref h), (2, .ref ga), (3, .ref gb)]) hx hb d_Ca_power_14 hl (by decide) rfl (fun ls hl => ?_)
      have hpq := q5
      subst hpq
      refine lv_iload hx hb d_Ca_power_16 (lv_at hl 0 rfl) ?_
      refine fm_bipush S d_Ca_power_18 (by decide) ?_
      refine fm_icmp_eq (tgt := 35) S (by omega) (by omega) d_Ca_power_20 (by decide) (fun c8 => ?_) (fun c8 => ?_)
      · refine lv_aload_n hx hb d_Ca_power_35 rfl (lv_at hl 2 rfl) ?_
        refine fm_iconst S d_Ca_power_36 ?_
        refine fm_callv (va_runV (As := [.int (iN (1))]) (rest := []) S (t_De_raise l D cs Z hZo tT hZc μ _ h a co sg tq ct F 1 c_h c_a) (cwV 1 hts (gV k169 k170 k171 k2 k172) rfl rfl rfl (by decide +kernel) (by decide)) (fm_preV hZo hK hw hZ hA c_h rfl _) rfl rfl hl.1 rfl (lv_room (Nat.le_of_ble_eq_true rfl)) d_Ca_power_37 ⟨Nat.le_of_ble_eq_true rfl, Nat.le_of_ble_eq_true rfl⟩) hw hA (fun μ10 H locs q9 hw => ?_)
        obtain ⟨F11, hq, hq2, eF11, hO⟩ := q9
        have k_k : μ10 k = some (oE 1 [.int (iN ((P : Int))), .ref w, .ref lf, .ref on]) := hO.at (nmc (fm_kn c_k c_h rfl) (nmc (fm_kn c_k c_a rfl) nm0)) c_k
        have k_w : μ10 w = some (lE cs 30 G) := hO.at (nmc (fm_kn c_w c_h rfl) (nmc (fm_kn c_w c_a rfl) nm0)) c_w
        have k_ga : μ10 ga = some (oE 2 [.int (iN (0)), .int (iN ((sgn va))), .int (iN ((tp va))), .int (iN ((nd (cN va) : Int))), .ref la]) := hO.at (nmc hn1 (nmc (fm_kn c_ga c_a rfl) nm0)) c_ga
        have k_la : μ10 la = some (lE cs 4 FA) := hO.at (nmc (fm_kn c_la c_h rfl) (nmc hn2 nm0)) c_la
        have k_lf : μ10 lf = some (lE cs 5 X) := hO.at (nmc (fm_kn c_lf c_h rfl) (nmc (fm_kn c_lf c_a rfl) nm0)) c_lf
        have k_on : μ10 on = some (oE 2 [.int (iN (0)), .int (iN ((sgn one300))), .int (iN ((tp one300))), .int (iN ((nd (cN one300) : Int))), .ref lo]) := hO.at (nmc hn3 (nmc (fm_kn c_on c_a rfl) nm0)) c_on
        have k_lo : μ10 lo = some (lE cs 4 FO) := hO.at (nmc (fm_kn c_lo c_h rfl) (nmc hn4 nm0)) c_lo
        have k_h : μ10 h = some (oE 2 [.int (iN (1)), .int (iN (0)), .int (iN (0)), .int (iN (0)), .ref a]) := hq
        have k_a : μ10 a = some (lE cs 4 F11) := hq2
        have hO0 := hO0.tr1 hO (by simp)
        clear c_k c_w c_h c_a c_ga c_la c_gb c_lb c_lf c_on c_lo
        have c_k := k_k; clear k_k
        have c_w := k_w; clear k_w
        have c_ga := k_ga; clear k_ga
        have c_la := k_la; clear k_la
        have c_lf := k_lf; clear k_lf
        have c_on := k_on; clear k_on
        have c_lo := k_lo; clear k_lo
        have c_h := k_h; clear k_h
        have c_a := k_a; clear k_a
        clear hq hq2 hO
        refine fm_vret S hr hlocks hK hw d_Ca_power_40 ?_
        have hza : sgn va = 0 → va = 0 := fun q => Classical.byContradiction fun z => by rcases sgn_nz z with z1 | z1 <;> omega
        rw [opW_0, sPow_1 (by first | exact Or.inl (by assumption) | exact Or.inl (by omega) | exact Or.inr ⟨by assumption, hza (by assumption)⟩)]
        exact ⟨⟨F11, by rw [sgn_0, tp_0, nz_0]; exact c_h, c_a, dF.z eF11, dB_0⟩, ⟨_, c_w⟩, ⟨_, c_lf⟩, hO0⟩
      · refine lv_iload hx hb d_Ca_power_23 (lv_at hl 0 rfl) ?_
        refine fm_if_ne (tgt := 41) S (by omega) d_Ca_power_25 (by decide) (fun c12 => ?_) (fun c12 => ?_)
        · refine lv_iload hx hb d_Ca_power_41 (lv_at hl 0 rfl) ?_
          refine fm_if_ge (tgt := 59) S (by omega) d_Ca_power_43 (by decide) (fun c13 => ?_) (fun c13 => ?_)
          · refine lv_aload_n hx hb d_Ca_power_59 rfl (lv_at hl 2 rfl) ?_
            refine lv_aload_n hx hb d_Ca_power_60 rfl (lv_at hl 1 rfl) ?_
            refine fm_get S hK hw c_k i_Ca rfl 3 (by decide) (hts _ k102) (fun _ h => h) rfl d_Ca_power_61 ?_
            refine fm_callv (va_runV (As := [.ref on]) (rest := []) S (t_De_copy l D cs Z hZo tT hZc μ _ h a co sg tq ct F on lo 0 (sgn one300) (tp one300) (nd (cN one300) : Int) FO (by omega) (by omega) c_h c_a c_on c_lo) (cwV 1 hts (gV k192 k193 k194 k2 k195) rfl rfl rfl (by decide +kernel) (by decide)) (fm_preV hZo hK hw hZ hA c_h rfl _) rfl rfl hl.1 rfl (lv_room (Nat.le_of_ble_eq_true rfl)) d_Ca_power_64 ⟨Nat.le_of_ble_eq_true rfl, Nat.le_of_ble_eq_true rfl⟩) hw hA (fun μ15 H locs q14 hw => ?_)
            obtain ⟨F16, hq, hq2, eF16, hO⟩ := q14
            have k_k : μ15 k = some (oE 1 [.int (iN ((P : Int))), .ref w, .ref lf, .ref on]) := hO.at (nmc (fm_kn c_k c_h rfl) (nmc (fm_kn c_k c_a rfl) nm0)) c_k
            have k_w : μ15 w = some (lE cs 30 G) := hO.at (nmc (fm_kn c_w c_h rfl) (nmc (fm_kn c_w c_a rfl) nm0)) c_w
            have k_ga : μ15 ga = some (oE 2 [.int (iN (0)), .int (iN ((sgn va))), .int (iN ((tp va))), .int (iN ((nd (cN va) : Int))), .ref la]) := hO.at (nmc hn1 (nmc (fm_kn c_ga c_a rfl) nm0)) c_ga
            have k_la : μ15 la = some (lE cs 4 FA) := hO.at (nmc (fm_kn c_la c_h rfl) (nmc hn2 nm0)) c_la
            have k_lf : μ15 lf = some (lE cs 5 X) := hO.at (nmc (fm_kn c_lf c_h rfl) (nmc (fm_kn c_lf c_a rfl) nm0)) c_lf
            have k_on : μ15 on = some (oE 2 [.int (iN (0)), .int (iN ((sgn one300))), .int (iN ((tp one300))), .int (iN ((nd (cN one300) : Int))), .ref lo]) := hO.at (nmc hn3 (nmc (fm_kn c_on c_a rfl) nm0)) c_on
            have k_lo : μ15 lo = some (lE cs 4 FO) := hO.at (nmc (fm_kn c_lo c_h rfl) (nmc hn4 nm0)) c_lo
            have k_h : μ15 h = some (oE 2 [.int (iN (0)), .int (iN ((sgn one300))), .int (iN ((tp one300))), .int (iN ((nd (cN one300) : Int))), .ref a]) := hq
            have k_a : μ15 a = some (lE cs 4 F16) := hq2
            have hO0 := hO0.tr1 hO (by simp)
            clear c_k c_w c_h c_a c_ga c_la c_gb c_lb c_lf c_on c_lo
            have c_k := k_k; clear k_k
            have c_w := k_w; clear k_w
            have c_ga := k_ga; clear k_ga
            have c_la := k_la; clear k_la
            have c_lf := k_lf; clear k_lf
            have c_on := k_on; clear k_on
            have c_lo := k_lo; clear k_lo
            have c_h := k_h; clear k_h
            have c_a := k_a; clear k_a
            clear hq hq2 hO
            refine lv_iload hx hb d_Ca_power_67 (lv_at hl 0 rfl) ?_
            refine fm_callSi (va_runS (As := [.int (iN ((pw vb)))]) (rest := []) S (t_Ma_abs2 l D cs Z hZo tT hZc μ15 _ (pw vb) (by omega)) (va_cwS 1 hts (gS k199 k200 k4 k201) rfl rfl rfl (by decide +kernel) (by decide)) (fm_pre hZo hK hw hZ hA _) rfl rfl hl.1 rfl (lv_room (Nat.le_of_ble_eq_true rfl)) d_Ca_power_69 ⟨Nat.le_of_ble_eq_true rfl, Nat.le_of_ble_eq_true rfl⟩) (fun x18 q17 => ?_)
            refine lv_istore (lv' := [(5, .int (iN (x18))), (4, .int (iN ((pw vb)))), (0, .ref k), (1, .ref h), (2, .ref ga), (3, .ref gb)]) hx hb d_Ca_power_72 hl (by decide) rfl (fun ls hl => ?_)
            have hd9 : dF F16 (sPowN P va 0).2 := hdo.eq eF16
            refine K_po (Z := Z) S hK hZo tT hZc hZ hA μ k w lf on P h a ga la lo va vb FA FO X hda hva hdo hP hn1 hn2 hn3 hn4 (fun μ19 i n F1 G1 H locs ls hnn hd1 hv1 c_k c_w c_lf c_h c_a c_ga c_la c_on c_lo hO0 hl hw => ?_) (200) μ15 x18 0 F16 G _ _ _ (by omega) (by omega) (hd9) (one_dB) c_k c_w c_lf c_h c_a c_ga c_la c_on c_lo hO0 (lv_sub hl [0, 1, 2, 3, 4] rfl) hw
            subst hnn
            have hc2 := sPowN_1 P va (pw vb).natAbs
            refine lv_iload hx hb d_Ca_power_92 (lv_at hl 1 rfl) ?_
            refine fm_if_ge (tgt := 107) S (by omega) d_Ca_power_94 (by decide) (fun c20 => ?_) (fun c20 => ?_)
            · refine fm_vret S hr hlocks hK hw d_Ca_power_107 ?_
              have hza : va = 0 → 0 < pw vb := fun z => by
                have z2 : sgn va = 0 := by rw [z, sgn_0]
                omega
              rw [opW_0, sPow_r (by assumption) hza (Or.inl (by omega))]
              exact ⟨⟨F1, c_h, c_a, hd1, hv1⟩, ⟨_, c_w⟩, ⟨_, c_lf⟩, hO0⟩
            · refine lv_aload_n hx hb d_Ca_power_97 rfl (lv_at hl 2 rfl) ?_
              refine lv_aload_n hx hb d_Ca_power_98 rfl (lv_at hl 3 rfl) ?_
              refine lv_aload_n hx hb d_Ca_power_99 rfl (lv_at hl 2 rfl) ?_
              refine fm_get S hK hw c_k i_Ca rfl 3 (by decide) (hts _ k102) (fun _ h => h) rfl d_Ca_power_100 ?_
              refine lv_aload_n hx hb d_Ca_power_103 rfl (lv_at hl 3 rfl) ?_
              refine fm_callv (va_runV (As := [.ref h, .ref on, .ref h]) (rest := []) S (t_Ca_divide l D cs Z hZo tT hZc μ19 _ k w lf on P G1 X h a ((sPowN P va (pw vb).natAbs).1) (sgn (sPowN P va (pw vb).natAbs).2) (tp (sPowN P va (pw vb).natAbs).2) (nd (cN (sPowN P va (pw vb).natAbs).2) : Int) F1 on lo 0 one300 FO h a ((sPowN P va (pw vb).natAbs).1) ((sPowN P va (pw vb).natAbs).2) F1 (by omega) (by omega) hdo one_dB hd1 hv1 hP c_k c_w c_h c_a c_on c_lo c_h c_a c_lf) (cwV 3 hts (gV k226 k227 k228 k3 k229) rfl rfl rfl (by decide +kernel) (by decide)) (fm_preV hZo hK hw hZ hA c_k rfl _) rfl rfl hl.1 rfl (lv_room (Nat.le_of_ble_eq_true rfl)) d_Ca_power_104 ⟨Nat.le_of_ble_eq_true rfl, Nat.le_of_ble_eq_true rfl⟩) hw hA (fun μ22 H locs q21 hw => ?_)
              obtain ⟨⟨F23, hq, hq2, hdF23, hvF23⟩, ⟨G24, hq3⟩, ⟨X25, hq4⟩, hO⟩ := q21
              have k_k : μ22 k = some (oE 1 [.int (iN ((P : Int))), .ref w, .ref lf, .ref on]) := hO.at (nmc (fm_kn c_k c_h rfl) (nmc (fm_kn c_k c_a rfl) (nmc (fm_kn c_k c_w rfl) (nmc (fm_kn c_k c_lf rfl) nm0)))) c_k
              have k_ga : μ22 ga = some (oE 2 [.int (iN (0)), .int (iN ((sgn va))), .int (iN ((tp va))), .int (iN ((nd (cN va) : Int))), .ref la]) := hO.at (nmc hn1 (nmc (fm_kn c_ga c_a rfl) (nmc (fm_kn c_ga c_w rfl) (nmc (fm_kn c_ga c_lf rfl) nm0)))) c_ga
              have k_la : μ22 la = some (lE cs 4 FA) := hO.at (nmc (fm_kn c_la c_h rfl) (nmc hn2 (nmc (fm_kn c_la c_w rfl) (nmc (fm_kn c_la c_lf rfl) nm0)))) c_la
              have k_on : μ22 on = some (oE 2 [.int (iN (0)), .int (iN ((sgn one300))), .int (iN ((tp one300))), .int (iN ((nd (cN one300) : Int))), .ref lo]) := hO.at (nmc hn3 (nmc (fm_kn c_on c_a rfl) (nmc (fm_kn c_on c_w rfl) (nmc (fm_kn c_on c_lf rfl) nm0)))) c_on
              have k_lo : μ22 lo = some (lE cs 4 FO) := hO.at (nmc (fm_kn c_lo c_h rfl) (nmc hn4 (nmc (fm_kn c_lo c_w rfl) (nmc (fm_kn c_lo c_lf rfl) nm0)))) c_lo
              have k_h : μ22 h = some (oE 2 [.int (iN ((opW 0 ((sPowN P va (pw vb).natAbs).1) (sDiv P one300 ((sPowN P va (pw vb).natAbs).2))).1)), .int (iN ((sgn (opW 0 ((sPowN P va (pw vb).natAbs).1) (sDiv P one300 ((sPowN P va (pw vb).natAbs).2))).2))), .int (iN ((tp (opW 0 ((sPowN P va (pw vb).natAbs).1) (sDiv P one300 ((sPowN P va (pw vb).natAbs).2))).2))), .int (iN ((nd (cN (opW 0 ((sPowN P va (pw vb).natAbs).1) (sDiv P one300 ((sPowN P va (pw vb).natAbs).2))).2) : Int))), .ref a]) := hq
              have k_a : μ22 a = some (lE cs 4 F23) := hq2
              have k_w : μ22 w = some (lE cs 30 G24) := hq3
              have k_lf : μ22 lf = some (lE cs 5 X25) := hq4
              have hO0 := hO0.tr1 hO (by simp)
              clear c_k c_w c_lf c_h c_a c_ga c_la c_on c_lo
              have c_k := k_k; clear k_k
              have c_ga := k_ga; clear k_ga
              have c_la := k_la; clear k_la
              have c_on := k_on; clear k_on
              have c_lo := k_lo; clear k_lo
              have c_h := k_h; clear k_h
              have c_a := k_a; clear k_a
              have c_w := k_w; clear k_w
              have c_lf := k_lf; clear k_lf
              clear hq hq2 hq3 hq4 hO
              refine fm_vret S hr hlocks hK hw d_Ca_power_107 ?_
              have hza : va ≠ 0 := fun z => (show ¬ sgn va = 0 by first | assumption | omega) (by rw [z, sgn_0])
              rw [opW_0]
              rw [pw_neg hP hza (by omega)] at c_h hdF23 hvF23
              exact ⟨⟨F23, c_h, c_a, hdF23, hvF23⟩, ⟨_, c_w⟩, ⟨_, c_lf⟩, hO0⟩
          · refine lv_aload_n hx hb d_Ca_power_46 rfl (lv_at hl 3 rfl) ?_
            refine fm_get S hK hw c_ga i_De rfl 1 (by decide) (hts _ k36) (fun _ h => h) rfl d_Ca_power_47 ?_
            refine fm_if_ne (tgt := 59) S (by omega) d_Ca_power_50 (by decide) (fun c26 => ?_) (fun c26 => ?_)
            · refine lv_aload_n hx hb d_Ca_power_59 rfl (lv_at hl 2 rfl) ?_
              refine lv_aload_n hx hb d_Ca_power_60 rfl (lv_at hl 1 rfl) ?_
              refine fm_get S hK hw c_k i_Ca rfl 3 (by decide) (hts _ k102) (fun _ h => h) rfl d_Ca_power_61 ?_
              refine fm_callv (va_runV (As := [.ref on]) (rest := []) S (t_De_copy l D cs Z hZo tT hZc μ _ h a co sg tq ct F on lo 0 (sgn one300) (tp one300) (nd (cN one300) : Int) FO (by omega) (by omega) c_h c_a c_on c_lo) (cwV 1 hts (gV k192 k193 k194 k2 k195) rfl rfl rfl (by decide +kernel) (by decide)) (fm_preV hZo hK hw hZ hA c_h rfl _) rfl rfl hl.1 rfl (lv_room (Nat.le_of_ble_eq_true rfl)) d_Ca_power_64 ⟨Nat.le_of_ble_eq_true rfl, Nat.le_of_ble_eq_true rfl⟩) hw hA (fun μ28 H locs q27 hw => ?_)
              obtain ⟨F29, hq, hq2, eF29, hO⟩ := q27
              have k_k : μ28 k = some (oE 1 [.int (iN ((P : Int))), .ref w, .ref lf, .ref on]) := hO.at (nmc (fm_kn c_k c_h rfl) (nmc (fm_kn c_k c_a rfl) nm0)) c_k
              have k_w : μ28 w = some (lE cs 30 G) := hO.at (nmc (fm_kn c_w c_h rfl) (nmc (fm_kn c_w c_a rfl) nm0)) c_w
              have k_ga : μ28 ga = some (oE 2 [.int (iN (0)), .int (iN ((sgn va))), .int (iN ((tp va))), .int (iN ((nd (cN va) : Int))), .ref la]) := hO.at (nmc hn1 (nmc (fm_kn c_ga c_a rfl) nm0)) c_ga
              have k_la : μ28 la = some (lE cs 4 FA) := hO.at (nmc (fm_kn c_la c_h rfl) (nmc hn2 nm0)) c_la
              have k_lf : μ28 lf = some (lE cs 5 X) := hO.at (nmc (fm_kn c_lf c_h rfl) (nmc (fm_kn c_lf c_a rfl) nm0)) c_lf
              have k_on : μ28 on = some (oE 2 [.int (iN (0)), .int (iN ((sgn one300))), .int (iN ((tp one300))), .int (iN ((nd (cN one300) : Int))), .ref lo]) := hO.at (nmc hn3 (nmc (fm_kn c_on c_a rfl) nm0)) c_on
              have k_lo : μ28 lo = some (lE cs 4 FO) := hO.at (nmc (fm_kn c_lo c_h rfl) (nmc hn4 nm0)) c_lo
              have k_h : μ28 h = some (oE 2 [.int (iN (0)), .int (iN ((sgn one300))), .int (iN ((tp one300))), .int (iN ((nd (cN one300) : Int))), .ref a]) := hq
              have k_a : μ28 a = some (lE cs 4 F29) := hq2
              have hO0 := hO0.tr1 hO (by simp)
              clear c_k c_w c_h c_a c_ga c_la c_gb c_lb c_lf c_on c_lo
              have c_k := k_k; clear k_k
              have c_w := k_w; clear k_w
              have c_ga := k_ga; clear k_ga
              have c_la := k_la; clear k_la
              have c_lf := k_lf; clear k_lf
              have c_on := k_on; clear k_on
              have c_lo := k_lo; clear k_lo
              have c_h := k_h; clear k_h
              have c_a := k_a; clear k_a
              clear hq hq2 hO
              refine lv_iload hx hb d_Ca_power_67 (lv_at hl 0 rfl) ?_
              refine fm_callSi (va_runS (As := [.int (iN ((pw vb)))]) (rest := []) S (t_Ma_abs2 l D cs Z hZo tT hZc μ28 _ (pw vb) (by omega)) (va_cwS 1 hts (gS k199 k200 k4 k201) rfl rfl rfl (by decide +kernel) (by decide)) (fm_pre hZo hK hw hZ hA _) rfl rfl hl.1 rfl (lv_room (Nat.le_of_ble_eq_true rfl)) d_Ca_power_69 ⟨Nat.le_of_ble_eq_true rfl, Nat.le_of_ble_eq_true rfl⟩) (fun x31 q30 => ?_)
              refine lv_istore (lv' := [(5, .int (iN (x31))), (4, .int (iN ((pw vb)))), (0, .ref k), (1, .ref h), (2, .ref ga), (3, .ref gb)]) hx hb d_Ca_power_72 hl (by decide) rfl (fun ls hl => ?_)
              have hd9 : dF F29 (sPowN P va 0).2 := hdo.eq eF29
              refine K_po (Z := Z) S hK hZo tT hZc hZ hA μ k w lf on P h a ga la lo va vb FA FO X hda hva hdo hP hn1 hn2 hn3 hn4 (fun μ32 i n F1 G1 H locs ls hnn hd1 hv1 c_k c_w c_lf c_h c_a c_ga c_la c_on c_lo hO0 hl hw => ?_) (200) μ28 x31 0 F29 G _ _ _ (by omega) (by omega) (hd9) (one_dB) c_k c_w c_lf c_h c_a c_ga c_la c_on c_lo hO0 (lv_sub hl [0, 1, 2, 3, 4] rfl) hw
              subst hnn
              have hc2 := sPowN_1 P va (pw vb).natAbs
              refine lv_iload hx hb d_Ca_power_92 (lv_at hl 1 rfl) ?_
              refine fm_if_ge (tgt := 107) S (by omega) d_Ca_power_94 (by decide) (fun c33 => ?_) (fun c33 => ?_)
              · refine fm_vret S hr hlocks hK hw d_Ca_power_107 ?_
                have hza : va = 0 → 0 < pw vb := fun z => by
                  have z2 : sgn va = 0 := by rw [z, sgn_0]
                  omega
                rw [opW_0, sPow_r (by assumption) hza (Or.inl (by omega))]
                exact ⟨⟨F1, c_h, c_a, hd1, hv1⟩, ⟨_, c_w⟩, ⟨_, c_lf⟩, hO0⟩
              · refine lv_aload_n hx hb d_Ca_power_97 rfl (lv_at hl 2 rfl) ?_
                refine lv_aload_n hx hb d_Ca_power_98 rfl (lv_at hl 3 rfl) ?_
                refine lv_aload_n hx hb d_Ca_power_99 rfl (lv_at hl 2 rfl) ?_
                refine fm_get S hK hw c_k i_Ca rfl 3 (by decide) (hts _ k102) (fun _ h => h) rfl d_Ca_power_100 ?_
                refine lv_aload_n hx hb d_Ca_power_103 rfl (lv_at hl 3 rfl) ?_
                refine fm_callv (va_runV (As := [.ref h, .ref on, .ref h]) (rest := []) S (t_Ca_divide l D cs Z hZo tT hZc μ32 _ k w lf on P G1 X h a ((sPowN P va (pw vb).natAbs).1) (sgn (sPowN P va (pw vb).natAbs).2) (tp (sPowN P va (pw vb).natAbs).2) (nd (cN (sPowN P va (pw vb).natAbs).2) : Int) F1 on lo 0 one300 FO h a ((sPowN P va (pw vb).natAbs).1) ((sPowN P va (pw vb).natAbs).2) F1 (by omega) (by omega) hdo one_dB hd1 hv1 hP c_k c_w c_h c_a c_on c_lo c_h c_a c_lf) (cwV 3 hts (gV k226 k227 k228 k3 k229) rfl rfl rfl (by decide +kernel) (by decide)) (fm_preV hZo hK hw hZ hA c_k rfl _) rfl rfl hl.1 rfl (lv_room (Nat.le_of_ble_eq_true rfl)) d_Ca_power_104 ⟨Nat.le_of_ble_eq_true rfl, Nat.le_of_ble_eq_true rfl⟩) hw hA (fun μ35 H locs q34 hw => ?_)
                obtain ⟨⟨F36, hq, hq2, hdF36, hvF36⟩, ⟨G37, hq3⟩, ⟨X38, hq4⟩, hO⟩ := q34
                have k_k : μ35 k = some (oE 1 [.int (iN ((P : Int))), .ref w, .ref lf, .ref on]) := hO.at (nmc (fm_kn c_k c_h rfl) (nmc (fm_kn c_k c_a rfl) (nmc (fm_kn c_k c_w rfl) (nmc (fm_kn c_k c_lf rfl) nm0)))) c_k
                have k_ga : μ35 ga = some (oE 2 [.int (iN (0)), .int (iN ((sgn va))), .int (iN ((tp va))), .int (iN ((nd (cN va) : Int))), .ref la]) := hO.at (nmc hn1 (nmc (fm_kn c_ga c_a rfl) (nmc (fm_kn c_ga c_w rfl) (nmc (fm_kn c_ga c_lf rfl) nm0)))) c_ga
                have k_la : μ35 la = some (lE cs 4 FA) := hO.at (nmc (fm_kn c_la c_h rfl) (nmc hn2 (nmc (fm_kn c_la c_w rfl) (nmc (fm_kn c_la c_lf rfl) nm0)))) c_la
                have k_on : μ35 on = some (oE 2 [.int (iN (0)), .int (iN ((sgn one300))), .int (iN ((tp one300))), .int (iN ((nd (cN one300) : Int))), .ref lo]) := hO.at (nmc hn3 (nmc (fm_kn c_on c_a rfl) (nmc (fm_kn c_on c_w rfl) (nmc (fm_kn c_on c_lf rfl) nm0)))) c_on
                have k_lo : μ35 lo = some (lE cs 4 FO) := hO.at (nmc (fm_kn c_lo c_h rfl) (nmc hn4 (nmc (fm_kn c_lo c_w rfl) (nmc (fm_kn c_lo c_lf rfl) nm0)))) c_lo
                have k_h : μ35 h = some (oE 2 [.int (iN ((opW 0 ((sPowN P va (pw vb).natAbs).1) (sDiv P one300 ((sPowN P va (pw vb).natAbs).2))).1)), .int (iN ((sgn (opW 0 ((sPowN P va (pw vb).natAbs).1) (sDiv P one300 ((sPowN P va (pw vb).natAbs).2))).2))), .int (iN ((tp (opW 0 ((sPowN P va (pw vb).natAbs).1) (sDiv P one300 ((sPowN P va (pw vb).natAbs).2))).2))), .int (iN ((nd (cN (opW 0 ((sPowN P va (pw vb).natAbs).1) (sDiv P one300 ((sPowN P va (pw vb).natAbs).2))).2) : Int))), .ref a]) := hq
                have k_a : μ35 a = some (lE cs 4 F36) := hq2
                have k_w : μ35 w = some (lE cs 30 G37) := hq3
                have k_lf : μ35 lf = some (lE cs 5 X38) := hq4
                have hO0 := hO0.tr1 hO (by simp)
                clear c_k c_w c_lf c_h c_a c_ga c_la c_on c_lo
                have c_k := k_k; clear k_k
                have c_ga := k_ga; clear k_ga
                have c_la := k_la; clear k_la
                have c_on := k_on; clear k_on
                have c_lo := k_lo; clear k_lo
                have c_h := k_h; clear k_h
                have c_a := k_a; clear k_a
                have c_w := k_w; clear k_w
                have c_lf := k_lf; clear k_lf
                clear hq hq2 hq3 hq4 hO
                refine fm_vret S hr hlocks hK hw d_Ca_power_107 ?_
                have hza : va ≠ 0 := fun z => (show ¬ sgn va = 0 by first | assumption | omega) (by rw [z, sgn_0])
                rw [opW_0]
                rw [pw_neg hP hza (by omega)] at c_h hdF36 hvF36
                exact ⟨⟨F36, c_h, c_a, hdF36, hvF36⟩, ⟨_, c_w⟩, ⟨_, c_lf⟩, hO0⟩
            · refine lv_aload_n hx hb d_Ca_power_53 rfl (lv_at hl 2 rfl) ?_
              refine fm_iconst S d_Ca_power_54 ?_
              refine fm_callv (va_runV (As := [.int (iN (2))]) (rest := []) S (t_De_raise l D cs Z hZo tT hZc μ _ h a co sg tq ct F 2 c_h c_a) (cwV 1 hts (gV k169 k170 k171 k2 k172) rfl rfl rfl (by decide +kernel) (by decide)) (fm_preV hZo hK hw hZ hA c_h rfl _) rfl rfl hl.1 rfl (lv_room (Nat.le_of_ble_eq_true rfl)) d_Ca_power_55 ⟨Nat.le_of_ble_eq_true rfl, Nat.le_of_ble_eq_true rfl⟩) hw hA (fun μ40 H locs q39 hw => ?_)
              obtain ⟨F41, hq, hq2, eF41, hO⟩ := q39
              have k_k : μ40 k = some (oE 1 [.int (iN ((P : Int))), .ref w, .ref lf, .ref on]) := hO.at (nmc (fm_kn c_k c_h rfl) (nmc (fm_kn c_k c_a rfl) nm0)) c_k
              have k_w : μ40 w = some (lE cs 30 G) := hO.at (nmc (fm_kn c_w c_h rfl) (nmc (fm_kn c_w c_a rfl) nm0)) c_w
              have k_ga : μ40 ga = some (oE 2 [.int (iN (0)), .int (iN ((sgn va))), .int (iN ((tp va))), .int (iN ((nd (cN va) : Int))), .ref la]) := hO.at (nmc hn1 (nmc (fm_kn c_ga c_a rfl) nm0)) c_ga
              have k_la : μ40 la = some (lE cs 4 FA) := hO.at (nmc (fm_kn c_la c_h rfl) (nmc hn2 nm0)) c_la
              have k_lf : μ40 lf = some (lE cs 5 X) := hO.at (nmc (fm_kn c_lf c_h rfl) (nmc (fm_kn c_lf c_a rfl) nm0)) c_lf
              have k_on : μ40 on = some (oE 2 [.int (iN (0)), .int (iN ((sgn one300))), .int (iN ((tp one300))), .int (iN ((nd (cN one300) : Int))), .ref lo]) := hO.at (nmc hn3 (nmc (fm_kn c_on c_a rfl) nm0)) c_on
              have k_lo : μ40 lo = some (lE cs 4 FO) := hO.at (nmc (fm_kn c_lo c_h rfl) (nmc hn4 nm0)) c_lo
              have k_h : μ40 h = some (oE 2 [.int (iN (2)), .int (iN (0)), .int (iN (0)), .int (iN (0)), .ref a]) := hq
              have k_a : μ40 a = some (lE cs 4 F41) := hq2
              have hO0 := hO0.tr1 hO (by simp)
              clear c_k c_w c_h c_a c_ga c_la c_gb c_lb c_lf c_on c_lo
              have c_k := k_k; clear k_k
              have c_w := k_w; clear k_w
              have c_ga := k_ga; clear k_ga
              have c_la := k_la; clear k_la
              have c_lf := k_lf; clear k_lf
              have c_on := k_on; clear k_on
              have c_lo := k_lo; clear k_lo
              have c_h := k_h; clear k_h
              have c_a := k_a; clear k_a
              clear hq hq2 hO
              refine fm_vret S hr hlocks hK hw d_Ca_power_58 ?_
              have hza : sgn va = 0 → va = 0 := fun q => Classical.byContradiction fun z => by rcases sgn_nz z with z1 | z1 <;> omega
              rw [opW_0, sPow_2 (by omega) (hza (by assumption))]
              exact ⟨⟨F41, by rw [sgn_0, tp_0, nz_0]; exact c_h, c_a, dF.z eF41, dB_0⟩, ⟨_, c_w⟩, ⟨_, c_lf⟩, hO0⟩
        · refine lv_aload_n hx hb d_Ca_power_28 rfl (lv_at hl 3 rfl) ?_
          refine fm_get S hK hw c_ga i_De rfl 1 (by decide) (hts _ k36) (fun _ h => h) rfl d_Ca_power_29 ?_
          refine fm_if_ne (tgt := 41) S (by omega) d_Ca_power_32 (by decide) (fun c42 => ?_) (fun c42 => ?_)
          · refine lv_iload hx hb d_Ca_power_41 (lv_at hl 0 rfl) ?_
            refine fm_if_ge (tgt := 59) S (by omega) d_Ca_power_43 (by decide) (fun c43 => ?_) (fun c43 => ?_)
            · refine lv_aload_n hx hb d_Ca_power_59 rfl (lv_at hl 2 rfl) ?_
              refine lv_aload_n hx hb d_Ca_power_60 rfl (lv_at hl 1 rfl) ?_
              refine fm_get S hK hw c_k i_Ca rfl 3 (by decide) (hts _ k102) (fun _ h => h) rfl d_Ca_power_61 ?_
              refine fm_callv (va_runV (As := [.ref on]) (rest := []) S (t_De_copy l D cs Z hZo tT hZc μ _ h a co sg tq ct F on lo 0 (sgn one300) (tp one300) (nd (cN one300) : Int) FO (by omega) (by omega) c_h c_a c_on c_lo) (cwV 1 hts (gV k192 k193 k194 k2 k195) rfl rfl rfl (by decide +kernel) (by decide)) (fm_preV hZo hK hw hZ hA c_h rfl _) rfl rfl hl.1 rfl (lv_room (Nat.le_of_ble_eq_true rfl)) d_Ca_power_64 ⟨Nat.le_of_ble_eq_true rfl, Nat.le_of_ble_eq_true rfl⟩) hw hA (fun μ45 H locs q44 hw => ?_)
              obtain ⟨F46, hq, hq2, eF46, hO⟩ := q44
              have k_k : μ45 k = some (oE 1 [.int (iN ((P : Int))), .ref w, .ref lf, .ref on]) := hO.at (nmc (fm_kn c_k c_h rfl) (nmc (fm_kn c_k c_a rfl) nm0)) c_k
              have k_w : μ45 w = some (lE cs 30 G) := hO.at (nmc (fm_kn c_w c_h rfl) (nmc (fm_kn c_w c_a rfl) nm0)) c_w
              have k_ga : μ45 ga = some (oE 2 [.int (iN (0)), .int (iN ((sgn va))), .int (iN ((tp va))), .int (iN ((nd (cN va) : Int))), .ref la]) := hO.at (nmc hn1 (nmc (fm_kn c_ga c_a rfl) nm0)) c_ga
              have k_la : μ45 la = some (lE cs 4 FA) := hO.at (nmc (fm_kn c_la c_h rfl) (nmc hn2 nm0)) c_la
              have k_lf : μ45 lf = some (lE cs 5 X) := hO.at (nmc (fm_kn c_lf c_h rfl) (nmc (fm_kn c_lf c_a rfl) nm0)) c_lf
              have k_on : μ45 on = some (oE 2 [.int (iN (0)), .int (iN ((sgn one300))), .int (iN ((tp one300))), .int (iN ((nd (cN one300) : Int))), .ref lo]) := hO.at (nmc hn3 (nmc (fm_kn c_on c_a rfl) nm0)) c_on
              have k_lo : μ45 lo = some (lE cs 4 FO) := hO.at (nmc (fm_kn c_lo c_h rfl) (nmc hn4 nm0)) c_lo
              have k_h : μ45 h = some (oE 2 [.int (iN (0)), .int (iN ((sgn one300))), .int (iN ((tp one300))), .int (iN ((nd (cN one300) : Int))), .ref a]) := hq
              have k_a : μ45 a = some (lE cs 4 F46) := hq2
              have hO0 := hO0.tr1 hO (by simp)
              clear c_k c_w c_h c_a c_ga c_la c_gb c_lb c_lf c_on c_lo
              have c_k := k_k; clear k_k
              have c_w := k_w; clear k_w
              have c_ga := k_ga; clear k_ga
              have c_la := k_la; clear k_la
              have c_lf := k_lf; clear k_lf
              have c_on := k_on; clear k_on
              have c_lo := k_lo; clear k_lo
              have c_h := k_h; clear k_h
              have c_a := k_a; clear k_a
              clear hq hq2 hO
              refine lv_iload hx hb d_Ca_power_67 (lv_at hl 0 rfl) ?_
              refine fm_callSi (va_runS (As := [.int (iN ((pw vb)))]) (rest := []) S (t_Ma_abs2 l D cs Z hZo tT hZc μ45 _ (pw vb) (by omega)) (va_cwS 1 hts (gS k199 k200 k4 k201) rfl rfl rfl (by decide +kernel) (by decide)) (fm_pre hZo hK hw hZ hA _) rfl rfl hl.1 rfl (lv_room (Nat.le_of_ble_eq_true rfl)) d_Ca_power_69 ⟨Nat.le_of_ble_eq_true rfl, Nat.le_of_ble_eq_true rfl⟩) (fun x48 q47 => ?_)
              refine lv_istore (lv' := [(5, .int (iN (x48))), (4, .int (iN ((pw vb)))), (0, .ref k), (1, .ref h), (2, .ref ga), (3, .ref gb)]) hx hb d_Ca_power_72 hl (by decide) rfl (fun ls hl => ?_)
              have hd9 : dF F46 (sPowN P va 0).2 := hdo.eq eF46
              refine K_po (Z := Z) S hK hZo tT hZc hZ hA μ k w lf on P h a ga la lo va vb FA FO X hda hva hdo hP hn1 hn2 hn3 hn4 (fun μ49 i n F1 G1 H locs ls hnn hd1 hv1 c_k c_w c_lf c_h c_a c_ga c_la c_on c_lo hO0 hl hw => ?_) (200) μ45 x48 0 F46 G _ _ _ (by omega) (by omega) (hd9) (one_dB) c_k c_w c_lf c_h c_a c_ga c_la c_on c_lo hO0 (lv_sub hl [0, 1, 2, 3, 4] rfl) hw
              subst hnn
              have hc2 := sPowN_1 P va (pw vb).natAbs
              refine lv_iload hx hb d_Ca_power_92 (lv_at hl 1 rfl) ?_
              refine fm_if_ge (tgt := 107) S (by omega) d_Ca_power_94 (by decide) (fun c50 => ?_) (fun c50 => ?_)
              · refine fm_vret S hr hlocks hK hw d_Ca_power_107 ?_
                have hza : va = 0 → 0 < pw vb := fun z => by
                  have z2 : sgn va = 0 := by rw [z, sgn_0]
                  omega
                rw [opW_0, sPow_r (by assumption) hza (Or.inl (by omega))]
                exact ⟨⟨F1, c_h, c_a, hd1, hv1⟩, ⟨_, c_w⟩, ⟨_, c_lf⟩, hO0⟩
              · refine lv_aload_n hx hb d_Ca_power_97 rfl (lv_at hl 2 rfl) ?_
                refine lv_aload_n hx hb d_Ca_power_98 rfl (lv_at hl 3 rfl) ?_
                refine lv_aload_n hx hb d_Ca_power_99 rfl (lv_at hl 2 rfl) ?_
                refine fm_get S hK hw c_k i_Ca rfl 3 (by decide) (hts _ k102) (fun _ h => h) rfl d_Ca_power_100 ?_
                refine lv_aload_n hx hb d_Ca_power_103 rfl (lv_at hl 3 rfl) ?_
                refine fm_callv (va_runV (As := [.ref h, .ref on, .ref h]) (rest := []) S (t_Ca_divide l D cs Z hZo tT hZc μ49 _ k w lf on P G1 X h a ((sPowN P va (pw vb).natAbs).1) (sgn (sPowN P va (pw vb).natAbs).2) (tp (sPowN P va (pw vb).natAbs).2) (nd (cN (sPowN P va (pw vb).natAbs).2) : Int) F1 on lo 0 one300 FO h a ((sPowN P va (pw vb).natAbs).1) ((sPowN P va (pw vb).natAbs).2) F1 (by omega) (by omega) hdo one_dB hd1 hv1 hP c_k c_w c_h c_a c_on c_lo c_h c_a c_lf) (cwV 3 hts (gV k226 k227 k228 k3 k229) rfl rfl rfl (by decide +kernel) (by decide)) (fm_preV hZo hK hw hZ hA c_k rfl _) rfl rfl hl.1 rfl (lv_room (Nat.le_of_ble_eq_true rfl)) d_Ca_power_104 ⟨Nat.le_of_ble_eq_true rfl, Nat.le_of_ble_eq_true rfl⟩) hw hA (fun μ52 H locs q51 hw => ?_)
                obtain ⟨⟨F53, hq, hq2, hdF53, hvF53⟩, ⟨G54, hq3⟩, ⟨X55, hq4⟩, hO⟩ := q51
                have k_k : μ52 k = some (oE 1 [.int (iN ((P : Int))), .ref w, .ref lf, .ref on]) := hO.at (nmc (fm_kn c_k c_h rfl) (nmc (fm_kn c_k c_a rfl) (nmc (fm_kn c_k c_w rfl) (nmc (fm_kn c_k c_lf rfl) nm0)))) c_k
                have k_ga : μ52 ga = some (oE 2 [.int (iN (0)), .int (iN ((sgn va))), .int (iN ((tp va))), .int (iN ((nd (cN va) : Int))), .ref la]) := hO.at (nmc hn1 (nmc (fm_kn c_ga c_a rfl) (nmc (fm_kn c_ga c_w rfl) (nmc (fm_kn c_ga c_lf rfl) nm0)))) c_ga
                have k_la : μ52 la = some (lE cs 4 FA) := hO.at (nmc (fm_kn c_la c_h rfl) (nmc hn2 (nmc (fm_kn c_la c_w rfl) (nmc (fm_kn c_la c_lf rfl) nm0)))) c_la
                have k_on : μ52 on = some (oE 2 [.int (iN (0)), .int (iN ((sgn one300))), .int (iN ((tp one300))), .int (iN ((nd (cN one300) : Int))), .ref lo]) := hO.at (nmc hn3 (nmc (fm_kn c_on c_a rfl) (nmc (fm_kn c_on c_w rfl) (nmc (fm_kn c_on c_lf rfl) nm0)))) c_on
                have k_lo : μ52 lo = some (lE cs 4 FO) := hO.at (nmc (fm_kn c_lo c_h rfl) (nmc hn4 (nmc (fm_kn c_lo c_w rfl) (nmc (fm_kn c_lo c_lf rfl) nm0)))) c_lo
                have k_h : μ52 h = some (oE 2 [.int (iN ((opW 0 ((sPowN P va (pw vb).natAbs).1) (sDiv P one300 ((sPowN P va (pw vb).natAbs).2))).1)), .int (iN ((sgn (opW 0 ((sPowN P va (pw vb).natAbs).1) (sDiv P one300 ((sPowN P va (pw vb).natAbs).2))).2))), .int (iN ((tp (opW 0 ((sPowN P va (pw vb).natAbs).1) (sDiv P one300 ((sPowN P va (pw vb).natAbs).2))).2))), .int (iN ((nd (cN (opW 0 ((sPowN P va (pw vb).natAbs).1) (sDiv P one300 ((sPowN P va (pw vb).natAbs).2))).2) : Int))), .ref a]) := hq
                have k_a : μ52 a = some (lE cs 4 F53) := hq2
                have k_w : μ52 w = some (lE cs 30 G54) := hq3
                have k_lf : μ52 lf = some (lE cs 5 X55) := hq4
                have hO0 := hO0.tr1 hO (by simp)
                clear c_k c_w c_lf c_h c_a c_ga c_la c_on c_lo
                have c_k := k_k; clear k_k
                have c_ga := k_ga; clear k_ga
                have c_la := k_la; clear k_la
                have c_on := k_on; clear k_on
                have c_lo := k_lo; clear k_lo
                have c_h := k_h; clear k_h
                have c_a := k_a; clear k_a
                have c_w := k_w; clear k_w
                have c_lf := k_lf; clear k_lf
                clear hq hq2 hq3 hq4 hO
                refine fm_vret S hr hlocks hK hw d_Ca_power_107 ?_
                have hza : va ≠ 0 := fun z => (show ¬ sgn va = 0 by first | assumption | omega) (by rw [z, sgn_0])
                rw [opW_0]
                rw [pw_neg hP hza (by omega)] at c_h hdF53 hvF53
                exact ⟨⟨F53, c_h, c_a, hdF53, hvF53⟩, ⟨_, c_w⟩, ⟨_, c_lf⟩, hO0⟩
            · refine lv_aload_n hx hb d_Ca_power_46 rfl (lv_at hl 3 rfl) ?_
              refine fm_get S hK hw c_ga i_De rfl 1 (by decide) (hts _ k36) (fun _ h => h) rfl d_Ca_power_47 ?_
              refine fm_if_ne (tgt := 59) S (by omega) d_Ca_power_50 (by decide) (fun c56 => ?_) (fun c56 => ?_)
              · refine lv_aload_n hx hb d_Ca_power_59 rfl (lv_at hl 2 rfl) ?_
                refine lv_aload_n hx hb d_Ca_power_60 rfl (lv_at hl 1 rfl) ?_
                refine fm_get S hK hw c_k i_Ca rfl 3 (by decide) (hts _ k102) (fun _ h => h) rfl d_Ca_power_61 ?_
                refine fm_callv (va_runV (As := [.ref on]) (rest := []) S (t_De_copy l D cs Z hZo tT hZc μ _ h a co sg tq ct F on lo 0 (sgn one300) (tp one300) (nd (cN one300) : Int) FO (by omega) (by omega) c_h c_a c_on c_lo) (cwV 1 hts (gV k192 k193 k194 k2 k195) rfl rfl rfl (by decide +kernel) (by decide)) (fm_preV hZo hK hw hZ hA c_h rfl _) rfl rfl hl.1 rfl (lv_room (Nat.le_of_ble_eq_true rfl)) d_Ca_power_64 ⟨Nat.le_of_ble_eq_true rfl, Nat.le_of_ble_eq_true rfl⟩) hw hA (fun μ58 H locs q57 hw => ?_)
                obtain ⟨F59, hq, hq2, eF59, hO⟩ := q57
                have k_k : μ58 k = some (oE 1 [.int (iN ((P : Int))), .ref w, .ref lf, .ref on]) := hO.at (nmc (fm_kn c_k c_h rfl) (nmc (fm_kn c_k c_a rfl) nm0)) c_k
                have k_w : μ58 w = some (lE cs 30 G) := hO.at (nmc (fm_kn c_w c_h rfl) (nmc (fm_kn c_w c_a rfl) nm0)) c_w
                have k_ga : μ58 ga = some (oE 2 [.int (iN (0)), .int (iN ((sgn va))), .int (iN ((tp va))), .int (iN ((nd (cN va) : Int))), .ref la]) := hO.at (nmc hn1 (nmc (fm_kn c_ga c_a rfl) nm0)) c_ga
                have k_la : μ58 la = some (lE cs 4 FA) := hO.at (nmc (fm_kn c_la c_h rfl) (nmc hn2 nm0)) c_la
                have k_lf : μ58 lf = some (lE cs 5 X) := hO.at (nmc (fm_kn c_lf c_h rfl) (nmc (fm_kn c_lf c_a rfl) nm0)) c_lf
                have k_on : μ58 on = some (oE 2 [.int (iN (0)), .int (iN ((sgn one300))), .int (iN ((tp one300))), .int (iN ((nd (cN one300) : Int))), .ref lo]) := hO.at (nmc hn3 (nmc (fm_kn c_on c_a rfl) nm0)) c_on
                have k_lo : μ58 lo = some (lE cs 4 FO) := hO.at (nmc (fm_kn c_lo c_h rfl) (nmc hn4 nm0)) c_lo
                have k_h : μ58 h = some (oE 2 [.int (iN (0)), .int (iN ((sgn one300))), .int (iN ((tp one300))), .int (iN ((nd (cN one300) : Int))), .ref a]) := hq
                have k_a : μ58 a = some (lE cs 4 F59) := hq2
                have hO0 := hO0.tr1 hO (by simp)
                clear c_k c_w c_h c_a c_ga c_la c_gb c_lb c_lf c_on c_lo
                have c_k := k_k; clear k_k
                have c_w := k_w; clear k_w
                have c_ga := k_ga; clear k_ga
                have c_la := k_la; clear k_la
                have c_lf := k_lf; clear k_lf
                have c_on := k_on; clear k_on
                have c_lo := k_lo; clear k_lo
                have c_h := k_h; clear k_h
                have c_a := k_a; clear k_a
                clear hq hq2 hO
                refine lv_iload hx hb d_Ca_power_67 (lv_at hl 0 rfl) ?_
                refine fm_callSi (va_runS (As := [.int (iN ((pw vb)))]) (rest := []) S (t_Ma_abs2 l D cs Z hZo tT hZc μ58 _ (pw vb) (by omega)) (va_cwS 1 hts (gS k199 k200 k4 k201) rfl rfl rfl (by decide +kernel) (by decide)) (fm_pre hZo hK hw hZ hA _) rfl rfl hl.1 rfl (lv_room (Nat.le_of_ble_eq_true rfl)) d_Ca_power_69 ⟨Nat.le_of_ble_eq_true rfl, Nat.le_of_ble_eq_true rfl⟩) (fun x61 q60 => ?_)
                refine lv_istore (lv' := [(5, .int (iN (x61))), (4, .int (iN ((pw vb)))), (0, .ref k), (1, .ref h), (2, .ref ga), (3, .ref gb)]) hx hb d_Ca_power_72 hl (by decide) rfl (fun ls hl => ?_)
                have hd9 : dF F59 (sPowN P va 0).2 := hdo.eq eF59
                refine K_po (Z := Z) S hK hZo tT hZc hZ hA μ k w lf on P h a ga la lo va vb FA FO X hda hva hdo hP hn1 hn2 hn3 hn4 (fun μ62 i n F1 G1 H locs ls hnn hd1 hv1 c_k c_w c_lf c_h c_a c_ga c_la c_on c_lo hO0 hl hw => ?_) (200) μ58 x61 0 F59 G _ _ _ (by omega) (by omega) (hd9) (one_dB) c_k c_w c_lf c_h c_a c_ga c_la c_on c_lo hO0 (lv_sub hl [0, 1, 2, 3, 4] rfl) hw
                subst hnn
                have hc2 := sPowN_1 P va (pw vb).natAbs
                refine lv_iload hx hb d_Ca_power_92 (lv_at hl 1 rfl) ?_
                refine fm_if_ge (tgt := 107) S (by omega) d_Ca_power_94 (by decide) (fun c63 => ?_) (fun c63 => ?_)
                · refine fm_vret S hr hlocks hK hw d_Ca_power_107 ?_
                  have hza : va = 0 → 0 < pw vb := fun z => by
                    have z2 : sgn va = 0 := by rw [z, sgn_0]
                    omega
                  rw [opW_0, sPow_r (by assumption) hza (Or.inl (by omega))]
                  exact ⟨⟨F1, c_h, c_a, hd1, hv1⟩, ⟨_, c_w⟩, ⟨_, c_lf⟩, hO0⟩
                · refine lv_aload_n hx hb d_Ca_power_97 rfl (lv_at hl 2 rfl) ?_
                  refine lv_aload_n hx hb d_Ca_power_98 rfl (lv_at hl 3 rfl) ?_
                  refine lv_aload_n hx hb d_Ca_power_99 rfl (lv_at hl 2 rfl) ?_
                  refine fm_get S hK hw c_k i_Ca rfl 3 (by decide) (hts _ k102) (fun _ h => h) rfl d_Ca_power_100 ?_
                  refine lv_aload_n hx hb d_Ca_power_103 rfl (lv_at hl 3 rfl) ?_
                  refine fm_callv (va_runV (As := [.ref h, .ref on, .ref h]) (rest := []) S (t_Ca_divide l D cs Z hZo tT hZc μ62 _ k w lf on P G1 X h a ((sPowN P va (pw vb).natAbs).1) (sgn (sPowN P va (pw vb).natAbs).2) (tp (sPowN P va (pw vb).natAbs).2) (nd (cN (sPowN P va (pw vb).natAbs).2) : Int) F1 on lo 0 one300 FO h a ((sPowN P va (pw vb).natAbs).1) ((sPowN P va (pw vb).natAbs).2) F1 (by omega) (by omega) hdo one_dB hd1 hv1 hP c_k c_w c_h c_a c_on c_lo c_h c_a c_lf) (cwV 3 hts (gV k226 k227 k228 k3 k229) rfl rfl rfl (by decide +kernel) (by decide)) (fm_preV hZo hK hw hZ hA c_k rfl _) rfl rfl hl.1 rfl (lv_room (Nat.le_of_ble_eq_true rfl)) d_Ca_power_104 ⟨Nat.le_of_ble_eq_true rfl, Nat.le_of_ble_eq_true rfl⟩) hw hA (fun μ65 H locs q64 hw => ?_)
                  obtain ⟨⟨F66, hq, hq2, hdF66, hvF66⟩, ⟨G67, hq3⟩, ⟨X68, hq4⟩, hO⟩ := q64
                  have k_k : μ65 k = some (oE 1 [.int (iN ((P : Int))), .ref w, .ref lf, .ref on]) := hO.at (nmc (fm_kn c_k c_h rfl) (nmc (fm_kn c_k c_a rfl) (nmc (fm_kn c_k c_w rfl) (nmc (fm_kn c_k c_lf rfl) nm0)))) c_k
                  have k_ga : μ65 ga = some (oE 2 [.int (iN (0)), .int (iN ((sgn va))), .int (iN ((tp va))), .int (iN ((nd (cN va) : Int))), .ref la]) := hO.at (nmc hn1 (nmc (fm_kn c_ga c_a rfl) (nmc (fm_kn c_ga c_w rfl) (nmc (fm_kn c_ga c_lf rfl) nm0)))) c_ga
                  have k_la : μ65 la = some (lE cs 4 FA) := hO.at (nmc (fm_kn c_la c_h rfl) (nmc hn2 (nmc (fm_kn c_la c_w rfl) (nmc (fm_kn c_la c_lf rfl) nm0)))) c_la
                  have k_on : μ65 on = some (oE 2 [.int (iN (0)), .int (iN ((sgn one300))), .int (iN ((tp one300))), .int (iN ((nd (cN one300) : Int))), .ref lo]) := hO.at (nmc hn3 (nmc (fm_kn c_on c_a rfl) (nmc (fm_kn c_on c_w rfl) (nmc (fm_kn c_on c_lf rfl) nm0)))) c_on
                  have k_lo : μ65 lo = some (lE cs 4 FO) := hO.at (nmc (fm_kn c_lo c_h rfl) (nmc hn4 (nmc (fm_kn c_lo c_w rfl) (nmc (fm_kn c_lo c_lf rfl) nm0)))) c_lo
                  have k_h : μ65 h = some (oE 2 [.int (iN ((opW 0 ((sPowN P va (pw vb).natAbs).1) (sDiv P one300 ((sPowN P va (pw vb).natAbs).2))).1)), .int (iN ((sgn (opW 0 ((sPowN P va (pw vb).natAbs).1) (sDiv P one300 ((sPowN P va (pw vb).natAbs).2))).2))), .int (iN ((tp (opW 0 ((sPowN P va (pw vb).natAbs).1) (sDiv P one300 ((sPowN P va (pw vb).natAbs).2))).2))), .int (iN ((nd (cN (opW 0 ((sPowN P va (pw vb).natAbs).1) (sDiv P one300 ((sPowN P va (pw vb).natAbs).2))).2) : Int))), .ref a]) := hq
                  have k_a : μ65 a = some (lE cs 4 F66) := hq2
                  have k_w : μ65 w = some (lE cs 30 G67) := hq3
                  have k_lf : μ65 lf = some (lE cs 5 X68) := hq4
                  have hO0 := hO0.tr1 hO (by simp)
                  clear c_k c_w c_lf c_h c_a c_ga c_la c_on c_lo
                  have c_k := k_k; clear k_k
                  have c_ga := k_ga; clear k_ga
                  have c_la := k_la; clear k_la
                  have c_on := k_on; clear k_on
                  have c_lo := k_lo; clear k_lo
                  have c_h := k_h; clear k_h
                  have c_a := k_a; clear k_a
                  have c_w := k_w; clear k_w
                  have c_lf := k_lf; clear k_lf
                  clear hq hq2 hq3 hq4 hO
                  refine fm_vret S hr hlocks hK hw d_Ca_power_107 ?_
                  have hza : va ≠ 0 := fun z => (show ¬ sgn va = 0 by first | assumption | omega) (by rw [z, sgn_0])
                  rw [opW_0]
                  rw [pw_neg hP hza (by omega)] at c_h hdF66 hvF66
                  exact ⟨⟨F66, c_h, c_a, hdF66, hvF66⟩, ⟨_, c_w⟩, ⟨_, c_lf⟩, hO0⟩
              · refine lv_aload_n hx hb d_Ca_power_53 rfl (lv_at hl 2 rfl) ?_
                refine fm_iconst S d_Ca_power_54 ?_
                refine fm_callv (va_runV (As := [.int (iN (2))]) (rest := []) S (t_De_raise l D cs Z hZo tT hZc μ _ h a co sg tq ct F 2 c_h c_a) (cwV 1 hts (gV k169 k170 k171 k2 k172) rfl rfl rfl (by decide +kernel) (by decide)) (fm_preV hZo hK hw hZ hA c_h rfl _) rfl rfl hl.1 rfl (lv_room (Nat.le_of_ble_eq_true rfl)) d_Ca_power_55 ⟨Nat.le_of_ble_eq_true rfl, Nat.le_of_ble_eq_true rfl⟩) hw hA (fun μ70 H locs q69 hw => ?_)
                obtain ⟨F71, hq, hq2, eF71, hO⟩ := q69
                have k_k : μ70 k = some (oE 1 [.int (iN ((P : Int))), .ref w, .ref lf, .ref on]) := hO.at (nmc (fm_kn c_k c_h rfl) (nmc (fm_kn c_k c_a rfl) nm0)) c_k
                have k_w : μ70 w = some (lE cs 30 G) := hO.at (nmc (fm_kn c_w c_h rfl) (nmc (fm_kn c_w c_a rfl) nm0)) c_w
                have k_ga : μ70 ga = some (oE 2 [.int (iN (0)), .int (iN ((sgn va))), .int (iN ((tp va))), .int (iN ((nd (cN va) : Int))), .ref la]) := hO.at (nmc hn1 (nmc (fm_kn c_ga c_a rfl) nm0)) c_ga
                have k_la : μ70 la = some (lE cs 4 FA) := hO.at (nmc (fm_kn c_la c_h rfl) (nmc hn2 nm0)) c_la
                have k_lf : μ70 lf = some (lE cs 5 X) := hO.at (nmc (fm_kn c_lf c_h rfl) (nmc (fm_kn c_lf c_a rfl) nm0)) c_lf
                have k_on : μ70 on = some (oE 2 [.int (iN (0)), .int (iN ((sgn one300))), .int (iN ((tp one300))), .int (iN ((nd (cN one300) : Int))), .ref lo]) := hO.at (nmc hn3 (nmc (fm_kn c_on c_a rfl) nm0)) c_on
                have k_lo : μ70 lo = some (lE cs 4 FO) := hO.at (nmc (fm_kn c_lo c_h rfl) (nmc hn4 nm0)) c_lo
                have k_h : μ70 h = some (oE 2 [.int (iN (2)), .int (iN (0)), .int (iN (0)), .int (iN (0)), .ref a]) := hq
                have k_a : μ70 a = some (lE cs 4 F71) := hq2
                have hO0 := hO0.tr1 hO (by simp)
                clear c_k c_w c_h c_a c_ga c_la c_gb c_lb c_lf c_on c_lo
                have c_k := k_k; clear k_k
                have c_w := k_w; clear k_w
                have c_ga := k_ga; clear k_ga
                have c_la := k_la; clear k_la
                have c_lf := k_lf; clear k_lf
                have c_on := k_on; clear k_on
                have c_lo := k_lo; clear k_lo
                have c_h := k_h; clear k_h
                have c_a := k_a; clear k_a
                clear hq hq2 hO
                refine fm_vret S hr hlocks hK hw d_Ca_power_58 ?_
                have hza : sgn va = 0 → va = 0 := fun q => Classical.byContradiction fun z => by rcases sgn_nz z with z1 | z1 <;> omega
                rw [opW_0, sPow_2 (by omega) (hza (by assumption))]
                exact ⟨⟨F71, by rw [sgn_0, tp_0, nz_0]; exact c_h, c_a, dF.z eF71, dB_0⟩, ⟨_, c_w⟩, ⟨_, c_lf⟩, hO0⟩
          · refine lv_aload_n hx hb d_Ca_power_35 rfl (lv_at hl 2 rfl) ?_
            refine fm_iconst S d_Ca_power_36 ?_
            refine fm_callv (va_runV (As := [.int (iN (1))]) (rest := []) S (t_De_raise l D cs Z hZo tT hZc μ _ h a co sg tq ct F 1 c_h c_a) (cwV 1 hts (gV k169 k170 k171 k2 k172) rfl rfl rfl (by decide +kernel) (by decide)) (fm_preV hZo hK hw hZ hA c_h rfl _) rfl rfl hl.1 rfl (lv_room (Nat.le_of_ble_eq_true rfl)) d_Ca_power_37 ⟨Nat.le_of_ble_eq_true rfl, Nat.le_of_ble_eq_true rfl⟩) hw hA (fun μ73 H locs q72 hw => ?_)
            obtain ⟨F74, hq, hq2, eF74, hO⟩ := q72
            have k_k : μ73 k = some (oE 1 [.int (iN ((P : Int))), .ref w, .ref lf, .ref on]) := hO.at (nmc (fm_kn c_k c_h rfl) (nmc (fm_kn c_k c_a rfl) nm0)) c_k
            have k_w : μ73 w = some (lE cs 30 G) := hO.at (nmc (fm_kn c_w c_h rfl) (nmc (fm_kn c_w c_a rfl) nm0)) c_w
            have k_ga : μ73 ga = some (oE 2 [.int (iN (0)), .int (iN ((sgn va))), .int (iN ((tp va))), .int (iN ((nd (cN va) : Int))), .ref la]) := hO.at (nmc hn1 (nmc (fm_kn c_ga c_a rfl) nm0)) c_ga
            have k_la : μ73 la = some (lE cs 4 FA) := hO.at (nmc (fm_kn c_la c_h rfl) (nmc hn2 nm0)) c_la
            have k_lf : μ73 lf = some (lE cs 5 X) := hO.at (nmc (fm_kn c_lf c_h rfl) (nmc (fm_kn c_lf c_a rfl) nm0)) c_lf
            have k_on : μ73 on = some (oE 2 [.int (iN (0)), .int (iN ((sgn one300))), .int (iN ((tp one300))), .int (iN ((nd (cN one300) : Int))), .ref lo]) := hO.at (nmc hn3 (nmc (fm_kn c_on c_a rfl) nm0)) c_on
            have k_lo : μ73 lo = some (lE cs 4 FO) := hO.at (nmc (fm_kn c_lo c_h rfl) (nmc hn4 nm0)) c_lo
            have k_h : μ73 h = some (oE 2 [.int (iN (1)), .int (iN (0)), .int (iN (0)), .int (iN (0)), .ref a]) := hq
            have k_a : μ73 a = some (lE cs 4 F74) := hq2
            have hO0 := hO0.tr1 hO (by simp)
            clear c_k c_w c_h c_a c_ga c_la c_gb c_lb c_lf c_on c_lo
            have c_k := k_k; clear k_k
            have c_w := k_w; clear k_w
            have c_ga := k_ga; clear k_ga
            have c_la := k_la; clear k_la
            have c_lf := k_lf; clear k_lf
            have c_on := k_on; clear k_on
            have c_lo := k_lo; clear k_lo
            have c_h := k_h; clear k_h
            have c_a := k_a; clear k_a
            clear hq hq2 hO
            refine fm_vret S hr hlocks hK hw d_Ca_power_40 ?_
            have hza : sgn va = 0 → va = 0 := fun q => Classical.byContradiction fun z => by rcases sgn_nz z with z1 | z1 <;> omega
            rw [opW_0, sPow_1 (by first | exact Or.inl (by assumption) | exact Or.inl (by omega) | exact Or.inr ⟨by assumption, hza (by assumption)⟩)]
            exact ⟨⟨F74, by rw [sgn_0, tp_0, nz_0]; exact c_h, c_a, dF.z eF74, dB_0⟩, ⟨_, c_w⟩, ⟨_, c_lf⟩, hO0⟩
    · exact absurd c4 (by decide)
  · subst hz
    have k_k : μ3 k = some (oE 1 [.int (iN ((P : Int))), .ref w, .ref lf, .ref on]) := hO.at (nmc (fm_kn c_k c_h rfl) (nmc (fm_kn c_k c_a rfl) nm0)) c_k
    have k_w : μ3 w = some (lE cs 30 G) := hO.at (nmc (fm_kn c_w c_h rfl) (nmc (fm_kn c_w c_a rfl) nm0)) c_w
    have k_ga : μ3 ga = some (oE 2 [.int (iN (ca)), .int (iN ((sgn va))), .int (iN ((tp va))), .int (iN ((nd (cN va) : Int))), .ref la]) := hO.at (nmc hn1 (nmc (fm_kn c_ga c_a rfl) nm0)) c_ga
    have k_la : μ3 la = some (lE cs 4 FA) := hO.at (nmc (fm_kn c_la c_h rfl) (nmc hn2 nm0)) c_la
    have k_lf : μ3 lf = some (lE cs 5 X) := hO.at (nmc (fm_kn c_lf c_h rfl) (nmc (fm_kn c_lf c_a rfl) nm0)) c_lf
    have k_on : μ3 on = some (oE 2 [.int (iN (0)), .int (iN ((sgn one300))), .int (iN ((tp one300))), .int (iN ((nd (cN one300) : Int))), .ref lo]) := hO.at (nmc hn3 (nmc (fm_kn c_on c_a rfl) nm0)) c_on
    have k_lo : μ3 lo = some (lE cs 4 FO) := hO.at (nmc (fm_kn c_lo c_h rfl) (nmc hn4 nm0)) c_lo
    have hO0 := hO0.tr1 hO (by simp)
    clear c_k c_w c_h c_a c_ga c_la c_gb c_lb c_lf c_on c_lo
    have c_k := k_k; clear k_k
    have c_w := k_w; clear k_w
    have c_ga := k_ga; clear k_ga
    have c_la := k_la; clear k_la
    have c_lf := k_lf; clear k_lf
    have c_on := k_on; clear k_on
    have c_lo := k_lo; clear k_lo
    refine fm_if_eq (tgt := 10) S (by omega) d_Ca_power_6 (by decide) (fun c75 => ?_) (fun c75 => ?_)
    · exact absurd c75 (by decide)
    · refine fm_vret S hr hlocks hK hw d_Ca_power_9 ?_
      rw [opW_r hc1]
      exact ⟨hDc, ⟨_, c_w⟩, ⟨_, c_lf⟩, hO0⟩
