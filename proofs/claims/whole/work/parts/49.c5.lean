theorem ex_iff {v s : Int} (hv : dB v) (hs : 0 ≤ s ∧ s ≤ 18) : ((nd (cN v) : Int) ≤ if (nd (cN v) : Int) = 0 then 0 else tp v + 1 + s) ↔ uR v s = 0 := by
  by_cases h0 : v = 0
  · subst h0; rw [uR_0, nz_0]; simp
  · have hn : ¬ (nd (cN v) : Int) = 0 := fun e => h0 (nd_v0.mp e)
    rw [if_neg hn]
    have h1 := cX_dvd (v := v) (low := -s) h0 (by omega)
    unfold uR uU
    rw [show (300 - s).toNat = (-s + 300).toNat by omega, ← h1]
    unfold tp
    rw [if_neg h0]
    omega
theorem half_dig {v s : Int} (hv : dB v) (h0 : v ≠ 0) (hs : 0 ≤ s ∧ s ≤ 18) : dgN (mN v) (tp v + 1 + s) = ((v.natAbs / 10 ^ (299 - s).toNat % 10 : Nat) : Int) := by
  have ht := hv.t
  unfold dgN
  rw [abs_l hv]
  by_cases h1 : tp v + 1 + s < 0
  · rw [if_pos (Or.inl h1), Nat.div_eq_of_lt]
    · rfl
    · calc mN v * 10 ^ (tp v + 269).toNat < 10 ^ 32 * 10 ^ (tp v + 269).toNat := Nat.mul_lt_mul_of_pos_right (mN_lt hv) (p10N _)
        _ = 10 ^ (32 + (tp v + 269).toNat) := by rw [Nat.pow_add]
        _ ≤ _ := Nat.pow_le_pow_right (by decide) (by omega)
  · by_cases h2 : 32 ≤ tp v + 1 + s
    · rw [if_pos (Or.inr h2), show (tp v + 269).toNat = ((tp v + 269).toNat - (299 - s).toNat - 1) + 1 + (299 - s).toNat by omega, Nat.pow_add, ← Nat.mul_assoc, Nat.mul_div_cancel _ (p10N _), Nat.pow_succ, ← Nat.mul_assoc, Nat.mul_mod_left]
      rfl
    · rw [if_neg (by omega), show (299 - s).toNat = (31 - (tp v + 1 + s).toNat) + (tp v + 269).toNat by omega, Nat.pow_add, Nat.mul_div_mul_right _ _ (p10N _)]
theorem rest_iff {v s : Int} (h0 : v ≠ 0) (hs : 0 ≤ s ∧ s ≤ 18) : tp v + 1 + s + 1 < (nd (cN v) : Int) ↔ v.natAbs % 10 ^ (299 - s).toNat ≠ 0 := by
  have h1 := cX_dvd (v := v) (low := -s - 1) h0 (by omega)
  rw [show (299 - s).toNat = (-s - 1 + 300).toNat by omega, Ne, ← h1]
  unfold tp
  rw [if_neg h0]
  omega
theorem half_cmp {v s z : Int} {t : Int} (hv : dB v) (h0 : v ≠ 0) (hs : 0 ≤ s ∧ s ≤ 18) (ht : t = dgN (mN v) (tp v + 1 + s)) (hz : (t ≠ 5 ∧ (z < 0 ↔ t < 5) ∧ (z = 0 ↔ t = 5)) ∨ (t = 5 ∧ z = if tp v + 1 + s + 1 < (nd (cN v) : Int) then 1 else 0)) : (0 < z ↔ uU s < 2 * uR v s) ∧ (z = 0 ↔ 2 * uR v s = uU s) := by
  rw [half_dig hv h0 hs] at ht
  obtain ⟨q1, q2, q3⟩ := half_v (v := v) (s := s) hs rfl rfl
  have hr := rest_iff h0 hs
  rw [q2, q3]
  rcases hz with ⟨a, b, c⟩ | ⟨a, b⟩
  · refine ⟨⟨fun h => Or.inl (by omega), fun h => ?_⟩, ⟨fun h => ?_, fun h => ?_⟩⟩
    · rcases h with h | h <;> omega
    · omega
    · omega
  · by_cases h3 : tp v + 1 + s + 1 < (nd (cN v) : Int)
    · rw [if_pos h3] at b
      have h4 := hr.mp h3
      refine ⟨⟨fun h => Or.inr ⟨by omega, h4⟩, fun h => by omega⟩, ⟨fun h => by omega, fun h => absurd h.2 h4⟩⟩
    · rw [if_neg h3] at b
      have h4 : v.natAbs % 10 ^ (299 - s).toNat = 0 := Classical.byContradiction fun h => h3 (hr.mpr h)
      refine ⟨⟨fun h => by omega, fun h => ?_⟩, ⟨fun h => ⟨by omega, h4⟩, fun h => by omega⟩⟩
      rcases h with h | h
      · omega
      · exact absurd h4 h.2
theorem odd_dig {v s : Int} (hv : dB v) (hs : 0 ≤ s ∧ s ≤ 18) : dgN (mN v) (tp v + 1 + s - 1) % 2 = ((uW v s % 2 : Nat) : Int) := by
  have h := uW_l hv hs
  rcases Int.le_total (tp v + 1 + s) 0 with h1 | h1
  · rw [h.2 h1]
    unfold dgN
    rw [if_pos (by omega)]
    rfl
  · by_cases h2 : tp v + 1 + s = 0
    · rw [h.2 (by omega)]
      unfold dgN
      rw [if_pos (by omega)]
      rfl
    · have h3 := low_step (mN v) (tp v + 1 + s - 1).toNat
      rw [show (tp v + 1 + s - 1).toNat + 1 = (tp v + 1 + s).toNat by omega, ← h.1 h1, show (((tp v + 1 + s - 1).toNat : Nat) : Int) = tp v + 1 + s - 1 by omega] at h3
      omega
theorem fits_iff {v s d : Int} {up : Int} (hv : dB v) (hs : 0 ≤ s ∧ s ≤ 18) (hd : 1 ≤ d ∧ d ≤ 18) (hu : up = 0 ∨ up = 1) : (((if (nd (cN v) : Int) = 0 then 0 else tp v + 1 + s) ≤ d) ∧ ((uW v s % 10 ^ 18 : Nat) : Int) + up < 10 ^ d.toNat) ↔ uW v s + up.toNat < 10 ^ d.toNat := by
  have h := uW_l hv hs
  have hp := p10c d.toNat
  by_cases h0 : v = 0
  · subst h0
    rw [nz_0]
    have : uW 0 s = 0 := by unfold uW; simp
    rw [this]
    simp
    omega
  · have hn : ¬ (nd (cN v) : Int) = 0 := fun e => h0 (nd_v0.mp e)
    rw [if_neg hn]
    by_cases h1 : tp v + 1 + s ≤ d
    · have hlt : uW v s < 10 ^ d.toNat := by
        rcases Int.le_total (tp v + 1 + s) 0 with h2 | h2
        · rw [h.2 h2]; exact p10N _
        · rw [h.1 h2, Nat.div_lt_iff_lt_mul (p10N 32), Nat.mul_comm]
          calc 10 ^ (tp v + 1 + s).toNat * mN v < 10 ^ (tp v + 1 + s).toNat * 10 ^ 32 := Nat.mul_lt_mul_of_pos_left (mN_lt hv) (p10N _)
            _ ≤ _ := Nat.mul_le_mul_right _ (Nat.pow_le_pow_right (by decide) (by omega))
      rw [Nat.mod_eq_of_lt (Nat.lt_of_lt_of_le hlt (Nat.pow_le_pow_right (by decide) (by omega)))]
      omega
    · have hge : 10 ^ d.toNat ≤ uW v s := by
        rw [h.1 (by omega), Nat.le_div_iff_mul_le (p10N 32)]
        calc 10 ^ d.toNat * 10 ^ 32 = 10 ^ 31 * 10 ^ (d.toNat + 1) := by rw [← Nat.pow_add, ← Nat.pow_add]; congr 1; omega
          _ ≤ _ := Nat.mul_le_mul (mN_ge hv h0) (Nat.pow_le_pow_right (by decide) (by omega))
      omega

set_option maxHeartbeats 4000000 in
set_option maxRecDepth 100000 in
/-- isExact(d) -/
theorem t_Re_isExact (l : Launch) (D : va_G) (cs : Nat → ClassId) (Z : (Nat → Prop) → State → Heap → Prop) (hZo : fm_Zok Z) (tT : Nat) (hZc : ∀ A U H, Z A U H → Zc tT A U H) (μ : fm_Mu) (sz : Nat) (r : Nat) (sc : Int) (di : Int) (ro : Int) (he : Int) (re : Int) (fa : Int) (h : Nat) (a : Nat) (co : Int) (v : Int) (F : Int → Int) (hd : dF F v) (hv : dB v) (hsc : 0 ≤ sc ∧ sc ≤ 18) (c_r : μ r = some (oE 3 [.int (iN (sc)), .int (iN (di)), .int (iN (ro)), .long (jN (he)), .long (jN (re)), .int (iN (fa))])) (c_h : μ h = some (oE 2 [.int (iN (co)), .int (iN ((sgn v))), .int (iN ((tp v))), .int (iN ((nd (cN v) : Int))), .ref a])) (c_a : μ a = some (lE cs 4 F)) : Met l y_Re_isExact (Cond.code y_Re_isExact c_Re_isExact 2 (some .boolean) :: wA) ({ frames := 1, cells := 0, slots := 0, locals := 21 }) (fm_Pc D clsA (tysA cs) Z μ sz [.ref r, .ref h]) (fm_Si (fun z => z = if uR v sc = 0 then 1 else 0)) 0 0 (fun _ => False) := by
  refine cl_of (by decide +kernel) (Nat.le_of_ble_eq_true rfl) (fun p e s m below meth c S hr hlocks hnm hsz hw hK hZ hA ls hl => ?_)
  subst hsz
  replace S : CallFix p m c c_Re_isExact 2 s _ wA "ArithmeticForms$Receiver" := S
  obtain ⟨hx, hb, hml, hown, hts⟩ := id S
  have hzc := hZc _ _ _ hZ
  have hl : lv_has ls 2 [(0, .ref r), (1, .ref h)] := hl
  have htp := hv.t
  have hct := hv.1
  have hn0 := nd_v0 (v := v)
  refine lv_aload_n hx hb d_Re_isExact_0 rfl (lv_at hl 1 rfl) ?_
  refine fm_get S hK hw c_h i_De rfl 3 (by decide) (hts _ k42) (fun _ h => h) rfl d_Re_isExact_1 ?_
  refine lv_aload_n hx hb d_Re_isExact_4 rfl (lv_at hl 1 rfl) ?_
  refine lv_aload_n hx hb d_Re_isExact_5 rfl (lv_at hl 0 rfl) ?_
  refine fm_get S hK hw c_r i_Re rfl 0 (by decide) (hts _ k280) (fun _ h => h) rfl d_Re_isExact_6 ?_
  refine fm_callSi (va_runV (As := [.int (iN (sc))]) (rest := [.int (iN ((nd (cN v) : Int)))]) S (t_De_wholeDigits l D cs Z hZo tT hZc μ _ h a co (sgn v) (tp v) (nd (cN v) : Int) F sc (by omega) c_h c_a) (cwV 1 hts (gV k320 k185 k186 k2 k187) rfl rfl rfl (by decide +kernel) (by decide)) (fm_preV hZo hK hw hZ hA c_h rfl _) rfl rfl hl.1 rfl (lv_room (Nat.le_of_ble_eq_true rfl)) d_Re_isExact_9 ⟨Nat.le_of_ble_eq_true rfl, Nat.le_of_ble_eq_true rfl⟩) (fun x2 q1 => ?_)
  have hb12 : -200 ≤ x2 ∧ x2 ≤ 200 := by rw [q1]; split <;> omega
  refine fm_icmp_gt (tgt := 19) S (by omega) (by omega) d_Re_isExact_12 (by decide) (fun c3 => ?_) (fun c3 => ?_)
  · refine fm_iconst S d_Re_isExact_19 ?_
    refine fm_zretS S hr hlocks (by omega) d_Re_isExact_20 ?_
    rw [if_neg]
    rw [← ex_iff hv hsc, ← q1]; omega
  · refine fm_iconst S d_Re_isExact_15 ?_
    refine lv_goto (tgt := 20) hx hb d_Re_isExact_16 (by decide) ?_
    refine fm_zretS S hr hlocks (by omega) d_Re_isExact_20 ?_
    rw [if_pos]
    rw [← ex_iff hv hsc, ← q1]; omega

set_option maxHeartbeats 4000000 in
set_option maxRecDepth 100000 in
/-- refuses(d) -/
theorem t_Re_refuses (l : Launch) (D : va_G) (cs : Nat → ClassId) (Z : (Nat → Prop) → State → Heap → Prop) (hZo : fm_Zok Z) (tT : Nat) (hZc : ∀ A U H, Z A U H → Zc tT A U H) (μ : fm_Mu) (sz : Nat) (r : Nat) (sc : Int) (di : Int) (ro : Int) (he : Int) (re : Int) (fa : Int) (h : Nat) (a : Nat) (co : Int) (v : Int) (F : Int → Int) (hd : dF F v) (hv : dB v) (hsc : 0 ≤ sc ∧ sc ≤ 18) (hro : 0 ≤ ro ∧ ro ≤ 7) (c_r : μ r = some (oE 3 [.int (iN (sc)), .int (iN (di)), .int (iN (ro)), .long (jN (he)), .long (jN (re)), .int (iN (fa))])) (c_h : μ h = some (oE 2 [.int (iN (co)), .int (iN ((sgn v))), .int (iN ((tp v))), .int (iN ((nd (cN v) : Int))), .ref a])) (c_a : μ a = some (lE cs 4 F)) : Met l y_Re_refuses (Cond.code y_Re_refuses c_Re_refuses 2 (some .boolean) :: wA) ({ frames := 2, cells := 0, slots := 0, locals := 42 }) (fm_Pc D clsA (tysA cs) Z μ sz [.ref r, .ref h]) (fm_Si (fun z => z = if ro = 7 ∧ uR v sc ≠ 0 then 1 else 0)) 0 0 (fun _ => False) := by
  refine cl_of (by decide +kernel) (Nat.le_of_ble_eq_true rfl) (fun p e s m below meth c S hr hlocks hnm hsz hw hK hZ hA ls hl => ?_)
  subst hsz
  replace S : CallFix p m c c_Re_refuses 2 s _ wA "ArithmeticForms$Receiver" := S
  obtain ⟨hx, hb, hml, hown, hts⟩ := id S
  have hzc := hZc _ _ _ hZ
  have hl : lv_has ls 2 [(0, .ref r), (1, .ref h)] := hl
  have htp := hv.t
  have hct := hv.1
  have hn0 := nd_v0 (v := v)
  refine lv_aload_n hx hb d_Re_refuses_0 rfl (lv_at hl 0 rfl) ?_
  refine fm_get S hK hw c_r i_Re rfl 2 (by decide) (hts _ k283) (fun _ h => h) rfl d_Re_refuses_1 ?_
  refine fm_bipush S d_Re_refuses_4 (by decide) ?_
  refine fm_icmp_ne (tgt := 21) S (by omega) (by omega) d_Re_refuses_6 (by decide) (fun c1 => ?_) (fun c1 => ?_)
  · refine fm_iconst S d_Re_refuses_21 ?_
    refine fm_zretS S hr hlocks (by omega) d_Re_refuses_22 ?_
    rw [if_neg]
    intro hh
    omega
  · refine lv_aload_n hx hb d_Re_refuses_9 rfl (lv_at hl 0 rfl) ?_
    refine lv_aload_n hx hb d_Re_refuses_10 rfl (lv_at hl 1 rfl) ?_
    refine fm_callSi (va_runV (As := [.ref h]) (rest := []) S (t_Re_isExact l D cs Z hZo tT hZc μ _ r sc di ro he re fa h a co v F hd hv (by omega) c_r c_h c_a) (cwV 1 hts (gV k316 k318 ks13 k10 k319) rfl rfl rfl (by decide +kernel) (by decide)) (fm_preV hZo hK hw hZ hA c_r rfl _) rfl rfl hl.1 rfl (lv_room (Nat.le_of_ble_eq_true rfl)) d_Re_refuses_11 ⟨Nat.le_of_ble_eq_true rfl, Nat.le_of_ble_eq_true rfl⟩) (fun x3 q2 => ?_)
    have hx01 : x3 = 0 ∨ x3 = 1 := by rw [q2]; split <;> simp
    refine fm_if_ne (tgt := 21) S (by omega) d_Re_refuses_14 (by decide) (fun c4 => ?_) (fun c4 => ?_)
    · refine fm_iconst S d_Re_refuses_21 ?_
      refine fm_zretS S hr hlocks (by omega) d_Re_refuses_22 ?_
      rw [if_neg]
      intro hh
      rw [if_neg hh.2] at q2
      omega
    · refine fm_iconst S d_Re_refuses_17 ?_
      refine lv_goto (tgt := 22) hx hb d_Re_refuses_18 (by decide) ?_
      refine fm_zretS S hr hlocks (by omega) d_Re_refuses_22 ?_
      rw [if_pos]
      refine ⟨by omega, fun e => ?_⟩
      rw [if_pos e] at q2
      omega

set_option maxHeartbeats 4000000 in
set_option maxRecDepth 100000 in
/-- compareToHalf(d) -/
theorem t_Re_compareToHalf (l : Launch) (D : va_G) (cs : Nat → ClassId) (Z : (Nat → Prop) → State → Heap → Prop) (hZo : fm_Zok Z) (tT : Nat) (hZc : ∀ A U H, Z A U H → Zc tT A U H) (μ : fm_Mu) (sz : Nat) (r : Nat) (sc : Int) (di : Int) (ro : Int) (he : Int) (re : Int) (fa : Int) (h : Nat) (a : Nat) (co : Int) (v : Int) (F : Int → Int) (hd : dF F v) (hv : dB v) (hsc : 0 ≤ sc ∧ sc ≤ 18) (hv0 : v ≠ 0) (c_r : μ r = some (oE 3 [.int (iN (sc)), .int (iN (di)), .int (iN (ro)), .long (jN (he)), .long (jN (re)), .int (iN (fa))])) (c_h : μ h = some (oE 2 [.int (iN (co)), .int (iN ((sgn v))), .int (iN ((tp v))), .int (iN ((nd (cN v) : Int))), .ref a])) (c_a : μ a = some (lE cs 4 F)) : Met l y_Re_compareToHalf (Cond.code y_Re_compareToHalf c_Re_compareToHalf 4 (some .int) :: wA) ({ frames := 2, cells := 0, slots := 0, locals := 41 }) (fm_Pc D clsA (tysA cs) Z μ sz [.ref r, .ref h]) (fm_Si (fun z => (0 < z ↔ uU sc < 2 * uR v sc) ∧ (z = 0 ↔ 2 * uR v sc = uU sc) ∧ inI z)) 0 0 (fun _ => False) := by
  refine cl_of (by decide +kernel) (Nat.le_of_ble_eq_true rfl) (fun p e s m below meth c S hr hlocks hnm hsz hw hK hZ hA ls hl => ?_)
  subst hsz
  replace S : CallFix p m c c_Re_compareToHalf 4 s _ wA "ArithmeticForms$Receiver" := S
  obtain ⟨hx, hb, hml, hown, hts⟩ := id S
  have hzc := hZc _ _ _ hZ
  have hl : lv_has ls 4 [(0, .ref r), (1, .ref h)] := hl
  have htp := hv.t
  have hct := hv.1
  have hn0 := nd_v0 (v := v)
  have hnz : ¬ (nd (cN v) : Int) = 0 := fun e => hv0 (hn0.mp e)
  refine lv_aload_n hx hb d_Re_compareToHalf_0 rfl (lv_at hl 1 rfl) ?_
  refine lv_aload_n hx hb d_Re_compareToHalf_1 rfl (lv_at hl 0 rfl) ?_
  refine fm_get S hK hw c_r i_Re rfl 0 (by decide) (hts _ k280) (fun _ h => h) rfl d_Re_compareToHalf_2 ?_
  refine fm_callSi (va_runV (As := [.int (iN (sc))]) (rest := []) S (t_De_wholeDigits l D cs Z hZo tT hZc μ _ h a co (sgn v) (tp v) (nd (cN v) : Int) F sc (by omega) c_h c_a) (cwV 1 hts (gV k320 k185 k186 k2 k187) rfl rfl rfl (by decide +kernel) (by decide)) (fm_preV hZo hK hw hZ hA c_h rfl _) rfl rfl hl.1 rfl (lv_room (Nat.le_of_ble_eq_true rfl)) d_Re_compareToHalf_5 ⟨Nat.le_of_ble_eq_true rfl, Nat.le_of_ble_eq_true rfl⟩) (fun x2 q1 => ?_)
  rw [if_neg hnz] at q1
  have hb8 : -200 ≤ x2 ∧ x2 ≤ 200 := by omega
  refine lv_istore_n (lv' := [(2, .int (iN (x2))), (0, .ref r), (1, .ref h)]) hx hb d_Re_compareToHalf_8 rfl hl (by decide) rfl (fun ls hl => ?_)
  refine lv_aload_n hx hb d_Re_compareToHalf_9 rfl (lv_at hl 2 rfl) ?_
  refine lv_iload_n hx hb d_Re_compareToHalf_10 rfl (lv_at hl 0 rfl) ?_
  refine fm_callSi (va_runV (As := [.int (iN (x2))]) (rest := []) S (t_De_digit l D cs Z hZo tT hZc μ _ h a co (sgn v) (tp v) (nd (cN v) : Int) F (mN v) x2 hd.1 hd.2 (by omega) c_h c_a) (cwV 1 hts (gV k338 k189 k190 k2 k191) rfl rfl rfl (by decide +kernel) (by decide)) (fm_preV hZo hK hw hZ hA c_h rfl _) rfl rfl hl.1 rfl (lv_room (Nat.le_of_ble_eq_true rfl)) d_Re_compareToHalf_11 ⟨Nat.le_of_ble_eq_true rfl, Nat.le_of_ble_eq_true rfl⟩) (fun x4 q3 => ?_)
  have ht9 := dgN_in (mN v) x2
  have htt := q3
  rw [q1] at htt
  refine lv_istore_n (lv' := [(3, .int (iN (x4))), (2, .int (iN (x2))), (0, .ref r), (1, .ref h)]) hx hb d_Re_compareToHalf_14 rfl hl (by decide) rfl (fun ls hl => ?_)
  refine lv_iload_n hx hb d_Re_compareToHalf_15 rfl (lv_at hl 0 rfl) ?_
  refine fm_iconst S d_Re_compareToHalf_16 ?_
  refine fm_icmp_eq (tgt := 26) S (by omega) (by omega) d_Re_compareToHalf_17 (by decide) (fun c5 => ?_) (fun c5 => ?_)
  · refine lv_aload_n hx hb d_Re_compareToHalf_26 rfl (lv_at hl 3 rfl) ?_
    refine fm_get S hK hw c_h i_De rfl 3 (by decide) (hts _ k42) (fun _ h => h) rfl d_Re_compareToHalf_27 ?_
    refine lv_iload_n hx hb d_Re_compareToHalf_30 rfl (lv_at hl 1 rfl) ?_
    refine fm_iconst S d_Re_compareToHalf_31 ?_
    refine fm_iadd S d_Re_compareToHalf_32 ?_
    refine fm_icmp_le (tgt := 40) S (by omega) (by omega) d_Re_compareToHalf_33 (by decide) (fun c6 => ?_) (fun c6 => ?_)
    · refine fm_iconst S d_Re_compareToHalf_40 ?_
      refine fm_iretS S hr hlocks d_Re_compareToHalf_41 ?_
      have hh := half_cmp (z := 0) hv hv0 hsc htt (Or.inr ⟨by omega, by rw [if_neg (by omega)]⟩)
      exact ⟨hh.1, hh.2, by decide⟩
    · refine fm_iconst S d_Re_compareToHalf_36 ?_
      refine lv_goto (tgt := 41) hx hb d_Re_compareToHalf_37 (by decide) ?_
      refine fm_iretS S hr hlocks d_Re_compareToHalf_41 ?_
      have hh := half_cmp (z := 1) hv hv0 hsc htt (Or.inr ⟨by omega, by rw [if_pos (by omega)]⟩)
      exact ⟨hh.1, hh.2, by decide⟩
  · refine lv_iload_n hx hb d_Re_compareToHalf_20 rfl (lv_at hl 0 rfl) ?_
    refine fm_iconst S d_Re_compareToHalf_21 ?_
    refine fm_callSi (va_runS (As := [.int (iN (x4)), .int (iN (5))]) (rest := []) S (t_In_compare l D cs Z hZo tT hZc μ _ x4 5 (by omega) (by omega)) (va_cwS 2 hts (gS k339 k260 k8 k261) rfl rfl rfl (by decide +kernel) (by decide)) (fm_pre hZo hK hw hZ hA _) rfl rfl hl.1 rfl (lv_room (Nat.le_of_ble_eq_true rfl)) d_Re_compareToHalf_22 ⟨Nat.le_of_ble_eq_true rfl, Nat.le_of_ble_eq_true rfl⟩) (fun x8 q7 => ?_)
    refine fm_iretS S hr hlocks d_Re_compareToHalf_25 ?_
    have hh := half_cmp (z := x8) hv hv0 hsc htt (Or.inl ⟨by omega, q7.1, q7.2.1⟩)
    exact ⟨hh.1, hh.2, q7.2.2⟩

set_option maxHeartbeats 4000000 in
set_option maxRecDepth 100000 in
/-- endsOdd(d) -/
theorem t_Re_endsOdd (l : Launch) (D : va_G) (cs : Nat → ClassId) (Z : (Nat → Prop) → State → Heap → Prop) (hZo : fm_Zok Z) (tT : Nat) (hZc : ∀ A U H, Z A U H → Zc tT A U H) (μ : fm_Mu) (sz : Nat) (r : Nat) (sc : Int) (di : Int) (ro : Int) (he : Int) (re : Int) (fa : Int) (h : Nat) (a : Nat) (co : Int) (v : Int) (F : Int → Int) (hd : dF F v) (hv : dB v) (hsc : 0 ≤ sc ∧ sc ≤ 18) (hv0 : v ≠ 0) (c_r : μ r = some (oE 3 [.int (iN (sc)), .int (iN (di)), .int (iN (ro)), .long (jN (he)), .long (jN (re)), .int (iN (fa))])) (c_h : μ h = some (oE 2 [.int (iN (co)), .int (iN ((sgn v))), .int (iN ((tp v))), .int (iN ((nd (cN v) : Int))), .ref a])) (c_a : μ a = some (lE cs 4 F)) : Met l y_Re_endsOdd (Cond.code y_Re_endsOdd c_Re_endsOdd 2 (some .boolean) :: wA) ({ frames := 2, cells := 0, slots := 0, locals := 41 }) (fm_Pc D clsA (tysA cs) Z μ sz [.ref r, .ref h]) (fm_Si (fun z => z = if uW v sc % 2 = 1 then 1 else 0)) 0 0 (fun _ => False) := by
  refine cl_of (by decide +kernel) (Nat.le_of_ble_eq_true rfl) (fun p e s m below meth c S hr hlocks hnm hsz hw hK hZ hA ls hl => ?_)
  subst hsz
  replace S : CallFix p m c c_Re_endsOdd 2 s _ wA "ArithmeticForms$Receiver" := S
  obtain ⟨hx, hb, hml, hown, hts⟩ := id S
  have hzc := hZc _ _ _ hZ
  have hl : lv_has ls 2 [(0, .ref r), (1, .ref h)] := hl
  have htp := hv.t
  have hct := hv.1
  have hn0 := nd_v0 (v := v)
  have hnz : ¬ (nd (cN v) : Int) = 0 := fun e => hv0 (hn0.mp e)
  refine lv_aload_n hx hb d_Re_endsOdd_0 rfl (lv_at hl 1 rfl) ?_
  refine lv_aload_n hx hb d_Re_endsOdd_1 rfl (lv_at hl 1 rfl) ?_
  refine lv_aload_n hx hb d_Re_endsOdd_2 rfl (lv_at hl 0 rfl) ?_
  refine fm_get S hK hw c_r i_Re rfl 0 (by decide) (hts _ k280) (fun _ h => h) rfl d_Re_endsOdd_3 ?_
  refine fm_callSi (va_runV (As := [.int (iN (sc))]) (rest := [.ref h]) S (t_De_wholeDigits l D cs Z hZo tT hZc μ _ h a co (sgn v) (tp v) (nd (cN v) : Int) F sc (by omega) c_h c_a) (cwV 1 hts (gV k320 k185 k186 k2 k187) rfl rfl rfl (by decide +kernel) (by decide)) (fm_preV hZo hK hw hZ hA c_h rfl _) rfl rfl hl.1 rfl (lv_room (Nat.le_of_ble_eq_true rfl)) d_Re_endsOdd_6 ⟨Nat.le_of_ble_eq_true rfl, Nat.le_of_ble_eq_true rfl⟩) (fun x2 q1 => ?_)
  rw [if_neg hnz] at q1
  have hb8 : -200 ≤ x2 ∧ x2 ≤ 200 := by omega
  refine fm_iconst S d_Re_endsOdd_9 ?_
  refine fm_isub S d_Re_endsOdd_10 ?_
  refine fm_callSi (va_runV (As := [.int (iN ((x2 - 1)))]) (rest := []) S (t_De_digit l D cs Z hZo tT hZc μ _ h a co (sgn v) (tp v) (nd (cN v) : Int) F (mN v) (x2 - 1) hd.1 hd.2 (by omega) c_h c_a) (cwV 1 hts (gV k338 k189 k190 k2 k191) rfl rfl rfl (by decide +kernel) (by decide)) (fm_preV hZo hK hw hZ hA c_h rfl _) rfl rfl hl.1 rfl (lv_room (Nat.le_of_ble_eq_true rfl)) d_Re_endsOdd_11 ⟨Nat.le_of_ble_eq_true rfl, Nat.le_of_ble_eq_true rfl⟩) (fun x4 q3 => ?_)
  have ht9 := dgN_in (mN v) (x2 - 1)
  have hod := odd_dig hv hsc
  rw [← q1, ← q3] at hod
  refine fm_iconst S d_Re_endsOdd_14 ?_
  refine fm_iremN S (by omega) d_Re_endsOdd_15 ?_
  refine fm_if_eq (tgt := 23) S (by omega) d_Re_endsOdd_16 (by decide) (fun c5 => ?_) (fun c5 => ?_)
  · refine fm_iconst S d_Re_endsOdd_23 ?_
    refine fm_zretS S hr hlocks (by omega) d_Re_endsOdd_24 ?_
    rw [if_neg (by omega)]
  · refine fm_iconst S d_Re_endsOdd_19 ?_
    refine lv_goto (tgt := 24) hx hb d_Re_endsOdd_20 (by decide) ?_
    refine fm_zretS S hr hlocks (by omega) d_Re_endsOdd_24 ?_
    rw [if_pos (by omega)]

set_option maxHeartbeats 4000000 in
set_option maxRecDepth 100000 in
/-- goesUp(d) -/
theorem t_Re_goesUp (l : Launch) (D : va_G) (cs : Nat → ClassId) (Z : (Nat → Prop) → State → Heap → Prop) (hZo : fm_Zok Z) (tT : Nat) (hZc : ∀ A U H, Z A U H → Zc tT A U H) (μ : fm_Mu) (sz : Nat) (r : Nat) (sc : Int) (di : Int) (ro : Int) (he : Int) (re : Int) (fa : Int) (h : Nat) (a : Nat) (co : Int) (v : Int) (F : Int → Int) (hd : dF F v) (hv : dB v) (hsc : 0 ≤ sc ∧ sc ≤ 18) (hro : 0 ≤ ro ∧ ro ≤ 7) (c_r : μ r = some (oE 3 [.int (iN (sc)), .int (iN (di)), .int (iN (ro)), .long (jN (he)), .long (jN (re)), .int (iN (fa))])) (c_h : μ h = some (oE 2 [.int (iN (co)), .int (iN ((sgn v))), .int (iN ((tp v))), .int (iN ((nd (cN v) : Int))), .ref a])) (c_a : μ a = some (lE cs 4 F)) : Met l y_Re_goesUp (Cond.code y_Re_goesUp c_Re_goesUp 2 (some .boolean) :: wA) ({ frames := 3, cells := 0, slots := 0, locals := 64 }) (fm_Pc D clsA (tysA cs) Z μ sz [.ref r, .ref h]) (fm_Si (fun z => z = rUp ro v sc)) 0 0 (fun _ => False) := by
  refine cl_of (by decide +kernel) (Nat.le_of_ble_eq_true rfl) (fun p e s m below meth c S hr hlocks hnm hsz hw hK hZ hA ls hl => ?_)
  subst hsz
  replace S : CallFix p m c c_Re_goesUp 2 s _ wA "ArithmeticForms$Receiver" := S
  obtain ⟨hx, hb, hml, hown, hts⟩ := id S
  have hzc := hZc _ _ _ hZ
  have hl : lv_has ls 2 [(0, .ref r), (1, .ref h)] := hl
  have htp := hv.t
  have hct := hv.1
  have hn0 := nd_v0 (v := v)
  refine lv_aload_n hx hb d_Re_goesUp_0 rfl (lv_at hl 0 rfl) ?_
  refine lv_aload_n hx hb d_Re_goesUp_1 rfl (lv_at hl 1 rfl) ?_
  refine fm_callSi (va_runV (As := [.ref h]) (rest := []) S (t_Re_isExact l D cs Z hZo tT hZc μ _ r sc di ro he re fa h a co v F hd hv (by omega) c_r c_h c_a) (cwV 1 hts (gV k316 k318 ks13 k10 k319) rfl rfl rfl (by decide +kernel) (by decide)) (fm_preV hZo hK hw hZ hA c_r rfl _) rfl rfl hl.1 rfl (lv_room (Nat.le_of_ble_eq_true rfl)) d_Re_goesUp_2 ⟨Nat.le_of_ble_eq_true rfl, Nat.le_of_ble_eq_true rfl⟩) (fun x2 q1 => ?_)
  have hx01 : x2 = 0 ∨ x2 = 1 := by rw [q1]; split <;> simp
  refine fm_if_eq (tgt := 10) S (by omega) d_Re_goesUp_5 (by decide) (fun c3 => ?_) (fun c3 => ?_)
  · have hu0 : ¬ uR v sc = 0 := fun q => by rw [if_pos q] at q1; omega
    have hv0 : v ≠ 0 := fun q => hu0 (by rw [q]; exact uR_0)
    have hsn := sgn_in v
    refine lv_aload_n hx hb d_Re_goesUp_10 rfl (lv_at hl 0 rfl) ?_
    refine fm_get S hK hw c_r i_Re rfl 2 (by decide) (hts _ k283) (fun _ h => h) rfl d_Re_goesUp_11 ?_
    rcases (show ro = 1 ∨ ro = 2 ∨ ro = 3 ∨ ro = 4 ∨ ro = 5 ∨ ro = 6 ∨ (ro < 1 ∨ 6 < ro) by omega) with c4 | c4 | c4 | c4 | c4 | c4 | c4
    · refine lv_tableIn (tgt := 52) hx hb d_Re_goesUp_14 (by rw [iN_toInt (by omega)]; omega) (by rw [iN_toInt (by omega)]; omega) (by rw [iN_toInt (by omega), c4]; rfl) (by decide) ?_
      refine fm_iconst S d_Re_goesUp_52 ?_
      refine fm_zretS S hr hlocks (by omega) d_Re_goesUp_53 ?_
      unfold rUp
      rw [if_neg hu0]
      rw [if_pos (by omega)]
    · refine lv_tableIn (tgt := 54) hx hb d_Re_goesUp_14 (by rw [iN_toInt (by omega)]; omega) (by rw [iN_toInt (by omega)]; omega) (by rw [iN_toInt (by omega), c4]; rfl) (by decide) ?_
      refine lv_aload_n hx hb d_Re_goesUp_54 rfl (lv_at hl 0 rfl) ?_
      refine lv_aload_n hx hb d_Re_goesUp_55 rfl (lv_at hl 1 rfl) ?_
      refine fm_callSi (va_runV (As := [.ref h]) (rest := []) S (t_Re_compareToHalf l D cs Z hZo tT hZc μ _ r sc di ro he re fa h a co v F hd hv (by omega) (hv0) c_r c_h c_a) (cwV 1 hts (gV k334 k336 ks15 k10 k337) rfl rfl rfl (by decide +kernel) (by decide)) (fm_preV hZo hK hw hZ hA c_r rfl _) rfl rfl hl.1 rfl (lv_room (Nat.le_of_ble_eq_true rfl)) d_Re_goesUp_56 ⟨Nat.le_of_ble_eq_true rfl, Nat.le_of_ble_eq_true rfl⟩) (fun x6 q5 => ?_)
      obtain ⟨gax6, gbx6, gcx6⟩ := q5
      refine fm_if_lt (tgt := 66) S (by omega) d_Re_goesUp_59 (by decide) (fun c7 => ?_) (fun c7 => ?_)
      · refine fm_iconst S d_Re_goesUp_66 ?_
        refine fm_zretS S hr hlocks (by omega) d_Re_goesUp_67 ?_
        unfold rUp
        rw [if_neg hu0]
        rw [if_neg (show ¬ ro = 1 by omega)]
        rw [if_pos (by omega)]
        rw [if_neg (by omega)]
      · refine fm_iconst S d_Re_goesUp_62 ?_
        refine lv_goto (tgt := 67) hx hb d_Re_goesUp_63 (by decide) ?_
        refine fm_zretS S hr hlocks (by omega) d_Re_goesUp_67 ?_
        unfold rUp
        rw [if_neg hu0]
        rw [if_neg (show ¬ ro = 1 by omega)]
        rw [if_pos (by omega)]
        rw [if_pos (by omega)]
    · refine lv_tableIn (tgt := 68) hx hb d_Re_goesUp_14 (by rw [iN_toInt (by omega)]; omega) (by rw [iN_toInt (by omega)]; omega) (by rw [iN_toInt (by omega), c4]; rfl) (by decide) ?_
      refine lv_aload_n hx hb d_Re_goesUp_68 rfl (lv_at hl 0 rfl) ?_
      refine lv_aload_n hx hb d_Re_goesUp_69 rfl (lv_at hl 1 rfl) ?_
      refine fm_callSi (va_runV (As := [.ref h]) (rest := []) S (t_Re_compareToHalf l D cs Z hZo tT hZc μ _ r sc di ro he re fa h a co v F hd hv (by omega) (hv0) c_r c_h c_a) (cwV 1 hts (gV k334 k336 ks15 k10 k337) rfl rfl rfl (by decide +kernel) (by decide)) (fm_preV hZo hK hw hZ hA c_r rfl _) rfl rfl hl.1 rfl (lv_room (Nat.le_of_ble_eq_true rfl)) d_Re_goesUp_70 ⟨Nat.le_of_ble_eq_true rfl, Nat.le_of_ble_eq_true rfl⟩) (fun x9 q8 => ?_)
      obtain ⟨gax9, gbx9, gcx9⟩ := q8
      refine fm_if_gt (tgt := 92) S (by omega) d_Re_goesUp_73 (by decide) (fun c10 => ?_) (fun c10 => ?_)
      · refine fm_iconst S d_Re_goesUp_92 ?_
        refine lv_goto (tgt := 97) hx hb d_Re_goesUp_93 (by decide) ?_
        refine fm_zretS S hr hlocks (by omega) d_Re_goesUp_97 ?_
        unfold rUp
        rw [if_neg hu0]
        rw [if_neg (show ¬ ro = 1 by omega)]
        rw [if_neg (show ¬ ro = 2 by omega)]
        rw [if_pos (by omega), if_pos (Or.inl (by omega))]
      · refine lv_aload_n hx hb d_Re_goesUp_76 rfl (lv_at hl 0 rfl) ?_
        refine lv_aload_n hx hb d_Re_goesUp_77 rfl (lv_at hl 1 rfl) ?_
        refine fm_callSi (va_runV (As := [.ref h]) (rest := []) S (t_Re_compareToHalf l D cs Z hZo tT hZc μ _ r sc di ro he re fa h a co v F hd hv (by omega) (hv0) c_r c_h c_a) (cwV 1 hts (gV k334 k336 ks15 k10 k337) rfl rfl rfl (by decide +kernel) (by decide)) (fm_preV hZo hK hw hZ hA c_r rfl _) rfl rfl hl.1 rfl (lv_room (Nat.le_of_ble_eq_true rfl)) d_Re_goesUp_78 ⟨Nat.le_of_ble_eq_true rfl, Nat.le_of_ble_eq_true rfl⟩) (fun x12 q11 => ?_)
        obtain ⟨gax12, gbx12, gcx12⟩ := q11
        refine fm_if_ne (tgt := 96) S (by omega) d_Re_goesUp_81 (by decide) (fun c13 => ?_) (fun c13 => ?_)
        · refine fm_iconst S d_Re_goesUp_96 ?_
          refine fm_zretS S hr hlocks (by omega) d_Re_goesUp_97 ?_
          unfold rUp
          rw [if_neg hu0]
          rw [if_neg (show ¬ ro = 1 by omega)]
          rw [if_neg (show ¬ ro = 2 by omega)]
          rw [if_pos (by omega), if_neg (by omega)]
        · refine lv_aload_n hx hb d_Re_goesUp_84 rfl (lv_at hl 0 rfl) ?_
          refine lv_aload_n hx hb d_Re_goesUp_85 rfl (lv_at hl 1 rfl) ?_
          refine fm_callSi (va_runV (As := [.ref h]) (rest := []) S (t_Re_endsOdd l D cs Z hZo tT hZc μ _ r sc di ro he re fa h a co v F hd hv (by omega) (hv0) c_r c_h c_a) (cwV 1 hts (gV k340 k342 ks16 k10 k343) rfl rfl rfl (by decide +kernel) (by decide)) (fm_preV hZo hK hw hZ hA c_r rfl _) rfl rfl hl.1 rfl (lv_room (Nat.le_of_ble_eq_true rfl)) d_Re_goesUp_86 ⟨Nat.le_of_ble_eq_true rfl, Nat.le_of_ble_eq_true rfl⟩) (fun x15 q14 => ?_)
          have ho01 : x15 = 0 ∨ x15 = 1 := by rw [q14]; split <;> simp
          refine fm_if_eq (tgt := 96) S (by omega) d_Re_goesUp_89 (by decide) (fun c16 => ?_) (fun c16 => ?_)
          · refine fm_iconst S d_Re_goesUp_96 ?_
            refine fm_zretS S hr hlocks (by omega) d_Re_goesUp_97 ?_
            unfold rUp
            rw [if_neg hu0]
            rw [if_neg (show ¬ ro = 1 by omega)]
            rw [if_neg (show ¬ ro = 2 by omega)]
            rw [if_pos (by omega), if_neg]
            intro hh
            rcases hh with hh | hh
            · omega
            · rw [if_pos hh.2] at q14; omega
          · refine fm_iconst S d_Re_goesUp_92 ?_
            refine lv_goto (tgt := 97) hx hb d_Re_goesUp_93 (by decide) ?_
            refine fm_zretS S hr hlocks (by omega) d_Re_goesUp_97 ?_
            unfold rUp
            rw [if_neg hu0]
            rw [if_neg (show ¬ ro = 1 by omega)]
            rw [if_neg (show ¬ ro = 2 by omega)]
            rw [if_pos (by omega), if_pos]
            refine Or.inr ⟨by omega, ?_⟩
            exact Classical.byContradiction fun q => by rw [if_neg q] at q14; omega
    · refine lv_tableIn (tgt := 98) hx hb d_Re_goesUp_14 (by rw [iN_toInt (by omega)]; omega) (by rw [iN_toInt (by omega)]; omega) (by rw [iN_toInt (by omega), c4]; rfl) (by decide) ?_
      refine lv_aload_n hx hb d_Re_goesUp_98 rfl (lv_at hl 0 rfl) ?_
      refine lv_aload_n hx hb d_Re_goesUp_99 rfl (lv_at hl 1 rfl) ?_
      refine fm_callSi (va_runV (As := [.ref h]) (rest := []) S (t_Re_compareToHalf l D cs Z hZo tT hZc μ _ r sc di ro he re fa h a co v F hd hv (by omega) (hv0) c_r c_h c_a) (cwV 1 hts (gV k334 k336 ks15 k10 k337) rfl rfl rfl (by decide +kernel) (by decide)) (fm_preV hZo hK hw hZ hA c_r rfl _) rfl rfl hl.1 rfl (lv_room (Nat.le_of_ble_eq_true rfl)) d_Re_goesUp_100 ⟨Nat.le_of_ble_eq_true rfl, Nat.le_of_ble_eq_true rfl⟩) (fun x18 q17 => ?_)
      obtain ⟨gax18, gbx18, gcx18⟩ := q17
      refine fm_if_le (tgt := 110) S (by omega) d_Re_goesUp_103 (by decide) (fun c19 => ?_) (fun c19 => ?_)
      · refine fm_iconst S d_Re_goesUp_110 ?_
        refine fm_zretS S hr hlocks (by omega) d_Re_goesUp_111 ?_
        unfold rUp
        rw [if_neg hu0]
        rw [if_neg (show ¬ ro = 1 by omega)]
        rw [if_neg (show ¬ ro = 2 by omega)]
        rw [if_neg (show ¬ ro = 3 by omega)]
        rw [if_pos (by omega)]
        rw [if_neg (by omega)]
      · refine fm_iconst S d_Re_goesUp_106 ?_
        refine lv_goto (tgt := 111) hx hb d_Re_goesUp_107 (by decide) ?_
        refine fm_zretS S hr hlocks (by omega) d_Re_goesUp_111 ?_
        unfold rUp
        rw [if_neg hu0]
        rw [if_neg (show ¬ ro = 1 by omega)]
        rw [if_neg (show ¬ ro = 2 by omega)]
        rw [if_neg (show ¬ ro = 3 by omega)]
        rw [if_pos (by omega)]
        rw [if_pos (by omega)]
    · refine lv_tableIn (tgt := 112) hx hb d_Re_goesUp_14 (by rw [iN_toInt (by omega)]; omega) (by rw [iN_toInt (by omega)]; omega) (by rw [iN_toInt (by omega), c4]; rfl) (by decide) ?_
      refine lv_aload_n hx hb d_Re_goesUp_112 rfl (lv_at hl 1 rfl) ?_
      refine fm_get S hK hw c_h i_De rfl 1 (by decide) (hts _ k37) (fun _ h => h) rfl d_Re_goesUp_113 ?_
      refine fm_if_le (tgt := 123) S (by omega) d_Re_goesUp_116 (by decide) (fun c20 => ?_) (fun c20 => ?_)
      · refine fm_iconst S d_Re_goesUp_123 ?_
        refine fm_zretS S hr hlocks (by omega) d_Re_goesUp_124 ?_
        unfold rUp
        rw [if_neg hu0]
        rw [if_neg (show ¬ ro = 1 by omega)]
        rw [if_neg (show ¬ ro = 2 by omega)]
        rw [if_neg (show ¬ ro = 3 by omega)]
        rw [if_neg (show ¬ ro = 4 by omega)]
        rw [if_pos (by omega)]
        rw [if_neg (fun q => by have : sgn v = 1 := by { unfold sgn; rw [if_neg (by omega), if_pos q] }; omega)]
      · refine fm_iconst S d_Re_goesUp_119 ?_
        refine lv_goto (tgt := 124) hx hb d_Re_goesUp_120 (by decide) ?_
        refine fm_zretS S hr hlocks (by omega) d_Re_goesUp_124 ?_
        unfold rUp
        rw [if_neg hu0]
        rw [if_neg (show ¬ ro = 1 by omega)]
        rw [if_neg (show ¬ ro = 2 by omega)]
        rw [if_neg (show ¬ ro = 3 by omega)]
        rw [if_neg (show ¬ ro = 4 by omega)]
        rw [if_pos (by omega)]
        rw [if_pos (by unfold sgn at *; split at *; omega; split at *; omega; omega)]
    · refine lv_tableIn (tgt := 125) hx hb d_Re_goesUp_14 (by rw [iN_toInt (by omega)]; omega) (by rw [iN_toInt (by omega)]; omega) (by rw [iN_toInt (by omega), c4]; rfl) (by decide) ?_
      refine lv_aload_n hx hb d_Re_goesUp_125 rfl (lv_at hl 1 rfl) ?_
      refine fm_get S hK hw c_h i_De rfl 1 (by decide) (hts _ k37) (fun _ h => h) rfl d_Re_goesUp_126 ?_
      refine fm_if_ge (tgt := 136) S (by omega) d_Re_goesUp_129 (by decide) (fun c21 => ?_) (fun c21 => ?_)
      · refine fm_iconst S d_Re_goesUp_136 ?_
        refine fm_zretS S hr hlocks (by omega) d_Re_goesUp_137 ?_
        unfold rUp
        rw [if_neg hu0]
        rw [if_neg (show ¬ ro = 1 by omega)]
        rw [if_neg (show ¬ ro = 2 by omega)]
        rw [if_neg (show ¬ ro = 3 by omega)]
        rw [if_neg (show ¬ ro = 4 by omega)]
        rw [if_neg (show ¬ ro = 5 by omega)]
        rw [if_pos (by omega)]
        rw [if_neg (fun q => by have : sgn v = -1 := by { unfold sgn; rw [if_pos q] }; omega)]
      · refine fm_iconst S d_Re_goesUp_132 ?_
        refine lv_goto (tgt := 137) hx hb d_Re_goesUp_133 (by decide) ?_
        refine fm_zretS S hr hlocks (by omega) d_Re_goesUp_137 ?_
        unfold rUp
        rw [if_neg hu0]
        rw [if_neg (show ¬ ro = 1 by omega)]
        rw [if_neg (show ¬ ro = 2 by omega)]
        rw [if_neg (show ¬ ro = 3 by omega)]
        rw [if_neg (show ¬ ro = 4 by omega)]
        rw [if_neg (show ¬ ro = 5 by omega)]
        rw [if_pos (by omega)]
        rw [if_pos (Classical.byContradiction fun q => by have : 0 ≤ sgn v := by { unfold sgn; rw [if_neg q]; split <;> omega }; omega)]
    · refine lv_tableOut (tgt := 138) hx hb d_Re_goesUp_14 (by rw [iN_toInt (by omega)]; omega) (by decide) ?_
      refine fm_iconst S d_Re_goesUp_138 ?_
      refine fm_zretS S hr hlocks (by omega) d_Re_goesUp_139 ?_
      unfold rUp
      rw [if_neg hu0]
      rw [if_neg (show ¬ ro = 1 by omega)]
      rw [if_neg (show ¬ ro = 2 by omega)]
      rw [if_neg (show ¬ ro = 3 by omega)]
      rw [if_neg (show ¬ ro = 4 by omega)]
      rw [if_neg (show ¬ ro = 5 by omega)]
      rw [if_neg (show ¬ ro = 6 by omega)]
      
  · have hu0 : uR v sc = 0 := Classical.byContradiction fun q => by rw [if_neg q] at q1; omega
    refine fm_iconst S d_Re_goesUp_8 ?_
    refine fm_zretS S hr hlocks (by omega) d_Re_goesUp_9 ?_
    unfold rUp; rw [if_pos hu0]

set_option maxHeartbeats 4000000 in
set_option maxRecDepth 100000 in
/-- roundedSize(d) -/
theorem t_Re_roundedSize (l : Launch) (D : va_G) (cs : Nat → ClassId) (Z : (Nat → Prop) → State → Heap → Prop) (hZo : fm_Zok Z) (tT : Nat) (hZc : ∀ A U H, Z A U H → Zc tT A U H) (μ : fm_Mu) (sz : Nat) (r : Nat) (sc : Int) (di : Int) (ro : Int) (he : Int) (re : Int) (fa : Int) (h : Nat) (a : Nat) (co : Int) (v : Int) (F : Int → Int) (hd : dF F v) (hv : dB v) (hsc : 0 ≤ sc ∧ sc ≤ 18) (hro : 0 ≤ ro ∧ ro ≤ 7) (c_r : μ r = some (oE 3 [.int (iN (sc)), .int (iN (di)), .int (iN (ro)), .long (jN (he)), .long (jN (re)), .int (iN (fa))])) (c_h : μ h = some (oE 2 [.int (iN (co)), .int (iN ((sgn v))), .int (iN ((tp v))), .int (iN ((nd (cN v) : Int))), .ref a])) (c_a : μ a = some (lE cs 4 F)) : Met l y_Re_roundedSize (Cond.code y_Re_roundedSize c_Re_roundedSize 2 (some .long) :: wA) ({ frames := 4, cells := 0, slots := 0, locals := 85 }) (fm_Pc D clsA (tysA cs) Z μ sz [.ref r, .ref h]) (fm_Ql D clsA (tysA cs) μ sz (fun z μ' => z = ((uW v sc % 10 ^ 18 : Nat) : Int) + rUp ro v sc ∧ μ' = μ)) 0 0 (fm_A μ sz) := by
  refine cl_of (by decide +kernel) (Nat.le_of_ble_eq_true rfl) (fun p e s m below meth c S hr hlocks hnm hsz hw hK hZ hA ls hl => ?_)
  subst hsz
  replace S : CallFix p m c c_Re_roundedSize 2 s _ wA "ArithmeticForms$Receiver" := S
  obtain ⟨hx, hb, hml, hown, hts⟩ := id S
  have hzc := hZc _ _ _ hZ
  have hO0 : fm_O μ μ [] := fm_O.rf
  have hl : lv_has ls 2 [(0, .ref r), (1, .ref h)] := hl
  have htp := hv.t
  have hct := hv.1
  have hn0 := nd_v0 (v := v)
  refine lv_aload_n hx hb d_Re_roundedSize_0 rfl (lv_at hl 1 rfl) ?_
  refine lv_aload_n hx hb d_Re_roundedSize_1 rfl (lv_at hl 0 rfl) ?_
  refine fm_get S hK hw c_r i_Re rfl 0 (by decide) (hts _ k280) (fun _ h => h) rfl d_Re_roundedSize_2 ?_
  refine fm_calll (va_runV (As := [.int (iN (sc))]) (rest := []) S (t_De_lowestWhole l D cs Z hZo tT hZc μ _ h a co v F sc hd hv (by omega) c_h c_a) (cwV 1 hts (gV k329 k181 k182 k2 k183) rfl rfl rfl (by decide +kernel) (by decide)) (fm_preV hZo hK hw hZ hA c_h rfl _) rfl rfl hl.1 rfl (lv_room (Nat.le_of_ble_eq_true rfl)) d_Re_roundedSize_5 ⟨Nat.le_of_ble_eq_true rfl, Nat.le_of_ble_eq_true rfl⟩) hw hA (fun x2 μ3 H locs q1 hw => ?_)
  obtain ⟨q1, hmu⟩ := q1
  rw [hmu] at hw
  clear hmu
  refine lv_aload_n hx hb d_Re_roundedSize_8 rfl (lv_at hl 0 rfl) ?_
  refine lv_aload_n hx hb d_Re_roundedSize_9 rfl (lv_at hl 1 rfl) ?_
  refine fm_callSi (va_runV (As := [.ref h]) (rest := [.long (jN (x2))]) S (t_Re_goesUp l D cs Z hZo tT hZc μ _ r sc di ro he re fa h a co v F hd hv (by omega) (by omega) c_r c_h c_a) (cwV 1 hts (gV k330 k332 ks14 k10 k333) rfl rfl rfl (by decide +kernel) (by decide)) (fm_preV hZo hK hw hZ hA c_r rfl _) rfl rfl hl.1 rfl (lv_room (Nat.le_of_ble_eq_true rfl)) d_Re_roundedSize_10 ⟨Nat.le_of_ble_eq_true rfl, Nat.le_of_ble_eq_true rfl⟩) (fun x5 q4 => ?_)
  have hu01 := rUp_01 ro v sc
  refine mo_join (P := fun y => y = rUp ro v sc) (g := fun y => F0 m 21 ls ([.int (iN (y)), .long (jN (x2))])) (fun y hy => ?_) (fun key => ?_)
  · refine fm_i2l S (by omega) d_Re_roundedSize_21 ?_
    refine fm_ladd S d_Re_roundedSize_22 ?_
    refine fm_lret S hr hlocks hK hw d_Re_roundedSize_23 ?_
    exact ⟨by rw [q1, hy], rfl⟩
  · refine fm_if_eq (tgt := 20) S (by omega) d_Re_roundedSize_13 (by decide) (fun c6 => ?_) (fun c6 => ?_)
    · refine fm_iconst S d_Re_roundedSize_20 ?_
      exact key _ (by omega)
    · refine fm_iconst S d_Re_roundedSize_16 ?_
      refine lv_goto (tgt := 21) hx hb d_Re_roundedSize_17 (by decide) ?_
      exact key _ (by omega)

set_option maxHeartbeats 4000000 in
set_option maxRecDepth 100000 in
/-- fits(d) -/
theorem t_Re_fits (l : Launch) (D : va_G) (cs : Nat → ClassId) (Z : (Nat → Prop) → State → Heap → Prop) (hZo : fm_Zok Z) (tT : Nat) (hZc : ∀ A U H, Z A U H → Zc tT A U H) (μ : fm_Mu) (sz : Nat) (r : Nat) (sc : Int) (di : Int) (ro : Int) (he : Int) (re : Int) (fa : Int) (h : Nat) (a : Nat) (co : Int) (v : Int) (F : Int → Int) (hd : dF F v) (hv : dB v) (hsc : 0 ≤ sc ∧ sc ≤ 18) (hro : 0 ≤ ro ∧ ro ≤ 7) (hdi : 1 ≤ di ∧ di ≤ 18) (c_r : μ r = some (oE 3 [.int (iN (sc)), .int (iN (di)), .int (iN (ro)), .long (jN (he)), .long (jN (re)), .int (iN (fa))])) (c_h : μ h = some (oE 2 [.int (iN (co)), .int (iN ((sgn v))), .int (iN ((tp v))), .int (iN ((nd (cN v) : Int))), .ref a])) (c_a : μ a = some (lE cs 4 F)) : Met l y_Re_fits (Cond.code y_Re_fits c_Re_fits 2 (some .boolean) :: wA) ({ frames := 5, cells := 0, slots := 0, locals := 106 }) (fm_Pc D clsA (tysA cs) Z μ sz [.ref r, .ref h]) (fm_Qi D clsA (tysA cs) μ sz (fun z μ' => z = (if rW ro v sc < 10 ^ di.toNat then 1 else 0) ∧ μ' = μ)) 0 0 (fm_A μ sz) := by
  refine cl_of (by decide +kernel) (Nat.le_of_ble_eq_true rfl) (fun p e s m below meth c S hr hlocks hnm hsz hw hK hZ hA ls hl => ?_)
  subst hsz
  replace S : CallFix p m c c_Re_fits 2 s _ wA "ArithmeticForms$Receiver" := S
  obtain ⟨hx, hb, hml, hown, hts⟩ := id S
  have hzc := hZc _ _ _ hZ
  have hO0 : fm_O μ μ [] := fm_O.rf
  have hl : lv_has ls 2 [(0, .ref r), (1, .ref h)] := hl
  have htp := hv.t
  have hct := hv.1
  have hn0 := nd_v0 (v := v)
  have hu01 := rUp_01 ro v sc
  refine lv_aload_n hx hb d_Re_fits_0 rfl (lv_at hl 1 rfl) ?_
  refine lv_aload_n hx hb d_Re_fits_1 rfl (lv_at hl 0 rfl) ?_
  refine fm_get S hK hw c_r i_Re rfl 0 (by decide) (hts _ k280) (fun _ h => h) rfl d_Re_fits_2 ?_
  refine fm_callSi (va_runV (As := [.int (iN (sc))]) (rest := []) S (t_De_wholeDigits l D cs Z hZo tT hZc μ _ h a co (sgn v) (tp v) (nd (cN v) : Int) F sc (by omega) c_h c_a) (cwV 1 hts (gV k320 k185 k186 k2 k187) rfl rfl rfl (by decide +kernel) (by decide)) (fm_preV hZo hK hw hZ hA c_h rfl _) rfl rfl hl.1 rfl (lv_room (Nat.le_of_ble_eq_true rfl)) d_Re_fits_5 ⟨Nat.le_of_ble_eq_true rfl, Nat.le_of_ble_eq_true rfl⟩) (fun x2 q1 => ?_)
  have hb8 : -200 ≤ x2 ∧ x2 ≤ 200 := by rw [q1]; split <;> omega
  have hfi := fits_iff hv hsc hdi hu01
  rw [← q1] at hfi
  refine lv_aload_n hx hb d_Re_fits_8 rfl (lv_at hl 0 rfl) ?_
  refine fm_get S hK hw c_r i_Re rfl 1 (by decide) (hts _ k282) (fun _ h => h) rfl d_Re_fits_9 ?_
  refine fm_icmp_gt (tgt := 35) S (by omega) (by omega) d_Re_fits_12 (by decide) (fun c3 => ?_) (fun c3 => ?_)
  · refine fm_iconst S d_Re_fits_35 ?_
    refine fm_zret S hr hlocks hK hw (by omega) d_Re_fits_36 ?_
    refine ⟨?_, rfl⟩
    unfold rW
    rw [if_neg]
    intro hh
    have h2 := hfi.mpr hh
    omega
  · refine lv_aload_n hx hb d_Re_fits_15 rfl (lv_at hl 0 rfl) ?_
    refine lv_aload_n hx hb d_Re_fits_16 rfl (lv_at hl 1 rfl) ?_
    refine fm_calll (va_runV (As := [.ref h]) (rest := []) S (t_Re_roundedSize l D cs Z hZo tT hZc μ _ r sc di ro he re fa h a co v F hd hv (by omega) (by omega) c_r c_h c_a) (cwV 1 hts (gV k325 k326 k327 k10 k328) rfl rfl rfl (by decide +kernel) (by decide)) (fm_preV hZo hK hw hZ hA c_r rfl _) rfl rfl hl.1 rfl (lv_room (Nat.le_of_ble_eq_true rfl)) d_Re_fits_17 ⟨Nat.le_of_ble_eq_true rfl, Nat.le_of_ble_eq_true rfl⟩) hw hA (fun x5 μ6 H locs q4 hw => ?_)
    obtain ⟨q4, hmu⟩ := q4
    rw [hmu] at hw
    clear hmu
    have hb20 : 0 ≤ x5 ∧ x5 ≤ 1000000000000000000 := by rw [show (10 : Nat) ^ 18 = 1000000000000000000 by decide] at q4; omega
    rw [← q4] at hfi
    refine lv_aload_n hx hb d_Re_fits_20 rfl (lv_at hl 0 rfl) ?_
    refine fm_get S hK hw c_r i_Re rfl 1 (by decide) (hts _ k282) (fun _ h => h) rfl d_Re_fits_21 ?_
    refine fm_callSl (va_runSN (As := [.int (iN (di))]) (rest := [.long (jN (x5))]) S (t_AF_ten l D cs Z hZo tT hZc μ _ di (by omega)) ⟨cwNA 1 hts k85 rfl rfl hzc.2.2.1.2.2.2.2 k1 (by decide +kernel) (by decide), hts _ k84, trivial⟩ (fm_pre hZo hK hw hZ hA _) rfl rfl hl.1 rfl (lv_room (Nat.le_of_ble_eq_true rfl)) d_Re_fits_24 ⟨Nat.le_of_ble_eq_true rfl, Nat.le_of_ble_eq_true rfl⟩) (fun x8 q7 => ?_)
    have ht27 := tenV_in (k := di)
    have het := tenV_e (k := di) (by omega) (by omega)
    rw [← het, ← q7] at hfi
    refine fm_lcmp S (by omega) (by omega) d_Re_fits_27 ?_
    refine fm_if_ge (tgt := 35) S (fm_cmp_in _ _) d_Re_fits_28 (by decide) (fun c9 => ?_) (fun c9 => ?_)
    · rw [fm_cmp_ge] at c9
      refine fm_iconst S d_Re_fits_35 ?_
      refine fm_zret S hr hlocks hK hw (by omega) d_Re_fits_36 ?_
      refine ⟨?_, rfl⟩
      unfold rW
      rw [if_neg]
      intro hh
      have h2 := hfi.mpr hh
      omega
    · rw [fm_cmp_ge] at c9
      refine fm_iconst S d_Re_fits_31 ?_
      refine lv_goto (tgt := 36) hx hb d_Re_fits_32 (by decide) ?_
      refine fm_zret S hr hlocks hK hw (by omega) d_Re_fits_36 ?_
      refine ⟨?_, rfl⟩
      unfold rW
      rw [if_pos]
      exact hfi.mp (by omega)

set_option maxHeartbeats 4000000 in
set_option maxRecDepth 100000 in
/-- lowestDigits(n) -/
theorem t_Re_lowestDigits (l : Launch) (D : va_G) (cs : Nat → ClassId) (Z : (Nat → Prop) → State → Heap → Prop) (hZo : fm_Zok Z) (tT : Nat) (hZc : ∀ A U H, Z A U H → Zc tT A U H) (μ : fm_Mu) (sz : Nat) (r : Nat) (sc : Int) (di : Int) (ro : Int) (he : Int) (re : Int) (fa : Int) (n : Int) (hj : inJ n) (hdi : 1 ≤ di ∧ di ≤ 18) (c_r : μ r = some (oE 3 [.int (iN (sc)), .int (iN (di)), .int (iN (ro)), .long (jN (he)), .long (jN (re)), .int (iN (fa))])) : Met l y_Re_lowestDigits (Cond.code y_Re_lowestDigits c_Re_lowestDigits 3 (some .long) :: wA) ({ frames := 1, cells := 0, slots := 0, locals := 20 }) (fm_Pc D clsA (tysA cs) Z μ sz [.ref r, .long (jN (n))]) (fm_Sl (fun z => z = n.tmod (10 ^ di.toNat))) 0 0 (fun _ => False) := by
  refine cl_of (by decide +kernel) (Nat.le_of_ble_eq_true rfl) (fun p e s m below meth c S hr hlocks hnm hsz hw hK hZ hA ls hl => ?_)
  subst hsz
  replace S : CallFix p m c c_Re_lowestDigits 3 s _ wA "ArithmeticForms$Receiver" := S
  obtain ⟨hx, hb, hml, hown, hts⟩ := id S
  have hzc := hZc _ _ _ hZ
  have hl : lv_has ls 3 [(0, .ref r), (1, .long (jN (n)))] := hl
  refine lv_lload_n hx hb d_Re_lowestDigits_0 rfl (lv_at hl 1 rfl) ?_
  refine lv_aload_n hx hb d_Re_lowestDigits_1 rfl (lv_at hl 0 rfl) ?_
  refine fm_get S hK hw c_r i_Re rfl 1 (by decide) (hts _ k282) (fun _ h => h) rfl d_Re_lowestDigits_2 ?_
  refine fm_callSl (va_runSN (As := [.int (iN (di))]) (rest := [.long (jN (n))]) S (t_AF_ten l D cs Z hZo tT hZc μ _ di (by omega)) ⟨cwNA 1 hts k85 rfl rfl hzc.2.2.1.2.2.2.2 k1 (by decide +kernel) (by decide), hts _ k84, trivial⟩ (fm_pre hZo hK hw hZ hA _) rfl rfl hl.1 rfl (lv_room (Nat.le_of_ble_eq_true rfl)) d_Re_lowestDigits_5 ⟨Nat.le_of_ble_eq_true rfl, Nat.le_of_ble_eq_true rfl⟩) (fun x2 q1 => ?_)
  have ht27 := tenV_in (k := di)
  have het := tenV_e (k := di) (by omega) (by omega)
  refine fm_lrem S (by omega) d_Re_lowestDigits_8 ?_
  refine fm_lretS S hr hlocks d_Re_lowestDigits_9 ?_
  rw [q1, het]
