theorem jN_xor {x y : Int} (hx : inJ x) (hy : inJ y) (h0 : 0 ≤ y) : ∃ z : Int, inJ z ∧ jN x ^^^ jN y = jN z ∧ (0 ≤ z ↔ 0 ≤ x) := by
  refine ⟨(jN x ^^^ jN y).toInt, jN_in _, (jN_of _).symm, ?_⟩
  have e : (jN x ^^^ jN y).toInt = ((jN x).toBitVec ^^^ (jN y).toBitVec).toInt := rfl
  have m1 := BitVec.msb_eq_toInt (x := (jN x).toBitVec)
  have m2 := BitVec.msb_eq_toInt (x := (jN y).toBitVec)
  have m3 := BitVec.msb_eq_toInt (x := (jN x).toBitVec ^^^ (jN y).toBitVec)
  have f1 : (jN x).toBitVec.toInt = x := jN_toInt hx
  have f2 : (jN y).toBitVec.toInt = y := jN_toInt hy
  rw [BitVec.msb_xor, m1, m2, f1, f2] at m3
  rw [e]
  have hy2 : ¬ y < 0 := by omega
  simp only [hy2, decide_false, Bool.xor_false, decide_eq_decide] at m3
  omega
def tenV (k : Int) : Int := if k < 0 ∨ 19 ≤ k then 1 else 10 ^ k.toNat
theorem tenV_in {k : Int} : 1 ≤ tenV k ∧ tenV k ≤ 1000000000000000000 := by
  unfold tenV
  split
  · omega
  · have h1 : (10 : Int) ^ k.toNat ≤ 10 ^ 18 := by
      have := Nat.pow_le_pow_right (n := 10) (by decide) (show k.toNat ≤ 18 by omega)
      have h2 := p10c k.toNat
      have h3 := p10c 18
      omega
    have := p10 k.toNat
    have e : (10 : Int) ^ 18 = 1000000000000000000 := by decide
    omega
theorem tenV_e {k : Int} (h0 : 0 ≤ k) (h : k < 19) : tenV k = 10 ^ k.toNat := by unfold tenV; rw [if_neg (by omega)]

set_option maxHeartbeats 4000000 in
set_option maxRecDepth 100000 in
/-- ten(k) -/
theorem t_AF_ten (l : Launch) (D : va_G) (cs : Nat → ClassId) (Z : (Nat → Prop) → State → Heap → Prop) (hZo : fm_Zok Z) (tT : Nat) (hZc : ∀ A U H, Z A U H → Zc tT A U H) (μ : fm_Mu) (sz : Nat) (k : Int) (hik : inI k)  : Met l y_AF_ten (Cond.code y_AF_ten c_AF_ten 1 (some .long) :: wA) ({ frames := 0, cells := 0, slots := 0, locals := 0 }) (fm_Pc D clsA (tysA cs) Z μ sz [.int (iN (k))]) (fm_Sl (fun z => z = tenV k)) 0 0 (fun _ => False) := by
  refine cl_of (by decide +kernel) (Nat.le_of_ble_eq_true rfl) (fun p e s m below meth c S hr hlocks hnm hsz hw hK hZ hA ls hl => ?_)
  subst hsz
  replace S : CallFix p m c c_AF_ten 1 s _ wA "ArithmeticForms" := S
  obtain ⟨hx, hb, hml, hown, hts⟩ := id S
  have hzc := hZc _ _ _ hZ
  have hl : lv_has ls 1 [(0, .int (iN (k)))] := hl
  refine lv_iload_n hx hb d_AF_ten_0 rfl (lv_at hl 0 rfl) ?_
  refine fm_if_lt (tgt := 12) S (by omega) d_AF_ten_1 (by decide) (fun c1 => ?_) (fun c1 => ?_)
  · refine fm_lconst1 S d_AF_ten_12 ?_
    refine lv_goto (tgt := 21) hx hb d_AF_ten_13 (by decide) ?_
    refine fm_lretS S hr hlocks d_AF_ten_21 ?_
    unfold tenV; rw [if_pos (by omega)]
  · refine lv_iload_n hx hb d_AF_ten_4 rfl (lv_at hl 0 rfl) ?_
    refine cl_tens S hw hzc k86 d_AF_ten_5 ?_
    refine cl_tlen S hw hzc d_AF_ten_8 ?_
    refine fm_icmp_lt (tgt := 16) S (by omega) (by omega) d_AF_ten_9 (by decide) (fun c2 => ?_) (fun c2 => ?_)
    · refine cl_tens S hw hzc k86 d_AF_ten_16 ?_
      refine lv_iload_n hx hb d_AF_ten_19 rfl (lv_at hl 0 rfl) ?_
      refine cl_tl S hw hzc (by omega) d_AF_ten_20 ?_
      refine fm_lretS S hr hlocks d_AF_ten_21 ?_
      unfold tenV; rw [if_neg (by omega)]
    · refine fm_lconst1 S d_AF_ten_12 ?_
      refine lv_goto (tgt := 21) hx hb d_AF_ten_13 (by decide) ?_
      refine fm_lretS S hr hlocks d_AF_ten_21 ?_
      unfold tenV; rw [if_pos (by omega)]

set_option maxHeartbeats 4000000 in
set_option maxRecDepth 100000 in
/-- Ma_min -/
theorem t_Ma_min (l : Launch) (D : va_G) (cs : Nat → ClassId) (Z : (Nat → Prop) → State → Heap → Prop) (hZo : fm_Zok Z) (tT : Nat) (hZc : ∀ A U H, Z A U H → Zc tT A U H) (μ : fm_Mu) (sz : Nat) (a : Int) (b : Int) (hia : inI a) (hib : inI b)  : Met l y_Ma_min (Cond.code y_Ma_min c_Ma_min 2 (some .int) :: wA) ({ frames := 0, cells := 0, slots := 0, locals := 0 }) (fm_Pc D clsA (tysA cs) Z μ sz [.int (iN (a)), .int (iN (b))]) (fm_Si (fun z => z = min a b)) 0 0 (fun _ => False) := by
  refine cl_ofF (by decide +kernel) (Nat.le_of_ble_eq_true rfl) (fun p e s m below meth c S hr hlocks hnm hsz hw hK hZ hA ls hl => ?_)
  subst hsz
  replace S : CallFix p m c c_Ma_min 2 s _ wA "java/lang/Math" := S
  obtain ⟨hx, hb, hml, hown, hts⟩ := id S
  have hzc := hZc _ _ _ hZ
  have hl : lv_has ls 2 [(0, .int (iN (a))), (1, .int (iN (b)))] := hl
  refine lv_iload_n hx hb d_Ma_min_0 rfl (lv_at hl 0 rfl) ?_
  refine lv_iload_n hx hb d_Ma_min_1 rfl (lv_at hl 1 rfl) ?_
  refine fm_icmp_gt (tgt := 9) S (by omega) (by omega) d_Ma_min_2 (by decide) (fun c1 => ?_) (fun c1 => ?_)
  · refine lv_iload_n hx hb d_Ma_min_9 rfl (lv_at hl 1 rfl) ?_
    refine fm_iretS S hr hlocks d_Ma_min_10 ?_
    omega
  · refine lv_iload_n hx hb d_Ma_min_5 rfl (lv_at hl 0 rfl) ?_
    refine lv_goto (tgt := 10) hx hb d_Ma_min_6 (by decide) ?_
    refine fm_iretS S hr hlocks d_Ma_min_10 ?_
    omega

set_option maxHeartbeats 4000000 in
set_option maxRecDepth 100000 in
/-- Ma_max -/
theorem t_Ma_max (l : Launch) (D : va_G) (cs : Nat → ClassId) (Z : (Nat → Prop) → State → Heap → Prop) (hZo : fm_Zok Z) (tT : Nat) (hZc : ∀ A U H, Z A U H → Zc tT A U H) (μ : fm_Mu) (sz : Nat) (a : Int) (b : Int) (hia : inI a) (hib : inI b)  : Met l y_Ma_max (Cond.code y_Ma_max c_Ma_max 2 (some .int) :: wA) ({ frames := 0, cells := 0, slots := 0, locals := 0 }) (fm_Pc D clsA (tysA cs) Z μ sz [.int (iN (a)), .int (iN (b))]) (fm_Si (fun z => z = max a b)) 0 0 (fun _ => False) := by
  refine cl_ofF (by decide +kernel) (Nat.le_of_ble_eq_true rfl) (fun p e s m below meth c S hr hlocks hnm hsz hw hK hZ hA ls hl => ?_)
  subst hsz
  replace S : CallFix p m c c_Ma_max 2 s _ wA "java/lang/Math" := S
  obtain ⟨hx, hb, hml, hown, hts⟩ := id S
  have hzc := hZc _ _ _ hZ
  have hl : lv_has ls 2 [(0, .int (iN (a))), (1, .int (iN (b)))] := hl
  refine lv_iload_n hx hb d_Ma_max_0 rfl (lv_at hl 0 rfl) ?_
  refine lv_iload_n hx hb d_Ma_max_1 rfl (lv_at hl 1 rfl) ?_
  refine fm_icmp_lt (tgt := 9) S (by omega) (by omega) d_Ma_max_2 (by decide) (fun c1 => ?_) (fun c1 => ?_)
  · refine lv_iload_n hx hb d_Ma_max_9 rfl (lv_at hl 1 rfl) ?_
    refine fm_iretS S hr hlocks d_Ma_max_10 ?_
    omega
  · refine lv_iload_n hx hb d_Ma_max_5 rfl (lv_at hl 0 rfl) ?_
    refine lv_goto (tgt := 10) hx hb d_Ma_max_6 (by decide) ?_
    refine fm_iretS S hr hlocks d_Ma_max_10 ?_
    omega

set_option maxHeartbeats 4000000 in
set_option maxRecDepth 100000 in
/-- Ma_max2 -/
theorem t_Ma_max2 (l : Launch) (D : va_G) (cs : Nat → ClassId) (Z : (Nat → Prop) → State → Heap → Prop) (hZo : fm_Zok Z) (tT : Nat) (hZc : ∀ A U H, Z A U H → Zc tT A U H) (μ : fm_Mu) (sz : Nat) (a : Int) (b : Int) (hia : inJ a) (hib : inJ b)  : Met l y_Ma_max2 (Cond.code y_Ma_max2 c_Ma_max2 4 (some .long) :: wA) ({ frames := 0, cells := 0, slots := 0, locals := 0 }) (fm_Pc D clsA (tysA cs) Z μ sz [.long (jN (a)), .long (jN (b))]) (fm_Sl (fun z => z = max a b)) 0 0 (fun _ => False) := by
  refine cl_ofF (by decide +kernel) (Nat.le_of_ble_eq_true rfl) (fun p e s m below meth c S hr hlocks hnm hsz hw hK hZ hA ls hl => ?_)
  subst hsz
  replace S : CallFix p m c c_Ma_max2 4 s _ wA "java/lang/Math" := S
  obtain ⟨hx, hb, hml, hown, hts⟩ := id S
  have hzc := hZc _ _ _ hZ
  have hl : lv_has ls 4 [(0, .long (jN (a))), (2, .long (jN (b)))] := hl
  refine lv_lload_n hx hb d_Ma_max2_0 rfl (lv_at hl 0 rfl) ?_
  refine lv_lload_n hx hb d_Ma_max2_1 rfl (lv_at hl 1 rfl) ?_
  refine fm_lcmp S (by omega) (by omega) d_Ma_max2_2 ?_
  refine fm_if_lt (tgt := 10) S (fm_cmp_in _ _) d_Ma_max2_3 (by decide) (fun c1 => ?_) (fun c1 => ?_)
  · rw [fm_cmp_lt] at c1
    refine lv_lload_n hx hb d_Ma_max2_10 rfl (lv_at hl 1 rfl) ?_
    refine fm_lretS S hr hlocks d_Ma_max2_11 ?_
    omega
  · rw [fm_cmp_lt] at c1
    refine lv_lload_n hx hb d_Ma_max2_6 rfl (lv_at hl 0 rfl) ?_
    refine lv_goto (tgt := 11) hx hb d_Ma_max2_7 (by decide) ?_
    refine fm_lretS S hr hlocks d_Ma_max2_11 ?_
    omega

set_option maxHeartbeats 4000000 in
set_option maxRecDepth 100000 in
/-- Ma_abs2 -/
theorem t_Ma_abs2 (l : Launch) (D : va_G) (cs : Nat → ClassId) (Z : (Nat → Prop) → State → Heap → Prop) (hZo : fm_Zok Z) (tT : Nat) (hZc : ∀ A U H, Z A U H → Zc tT A U H) (μ : fm_Mu) (sz : Nat) (a : Int) (hia : inI a)  : Met l y_Ma_abs2 (Cond.code y_Ma_abs2 c_Ma_abs2 1 (some .int) :: wA) ({ frames := 0, cells := 0, slots := 0, locals := 0 }) (fm_Pc D clsA (tysA cs) Z μ sz [.int (iN (a))]) (fm_Si (fun z => z = (a.natAbs : Int))) 0 0 (fun _ => False) := by
  refine cl_ofF (by decide +kernel) (Nat.le_of_ble_eq_true rfl) (fun p e s m below meth c S hr hlocks hnm hsz hw hK hZ hA ls hl => ?_)
  subst hsz
  replace S : CallFix p m c c_Ma_abs2 1 s _ wA "java/lang/Math" := S
  obtain ⟨hx, hb, hml, hown, hts⟩ := id S
  have hzc := hZc _ _ _ hZ
  have hl : lv_has ls 1 [(0, .int (iN (a)))] := hl
  refine lv_iload_n hx hb d_Ma_abs2_0 rfl (lv_at hl 0 rfl) ?_
  refine fm_if_ge (tgt := 9) S (by omega) d_Ma_abs2_1 (by decide) (fun c1 => ?_) (fun c1 => ?_)
  · refine lv_iload_n hx hb d_Ma_abs2_9 rfl (lv_at hl 0 rfl) ?_
    refine fm_iretS S hr hlocks d_Ma_abs2_10 ?_
    omega
  · refine lv_iload_n hx hb d_Ma_abs2_4 rfl (lv_at hl 0 rfl) ?_
    refine fm_ineg S d_Ma_abs2_5 ?_
    refine lv_goto (tgt := 10) hx hb d_Ma_abs2_6 (by decide) ?_
    refine fm_iretS S hr hlocks d_Ma_abs2_10 ?_
    omega

set_option maxHeartbeats 4000000 in
set_option maxRecDepth 100000 in
/-- Ma_abs -/
theorem t_Ma_abs (l : Launch) (D : va_G) (cs : Nat → ClassId) (Z : (Nat → Prop) → State → Heap → Prop) (hZo : fm_Zok Z) (tT : Nat) (hZc : ∀ A U H, Z A U H → Zc tT A U H) (μ : fm_Mu) (sz : Nat) (a : Int) (hia : inJ a)  : Met l y_Ma_abs (Cond.code y_Ma_abs c_Ma_abs 2 (some .long) :: wA) ({ frames := 0, cells := 0, slots := 0, locals := 0 }) (fm_Pc D clsA (tysA cs) Z μ sz [.long (jN (a))]) (fm_Sl (fun z => z = (a.natAbs : Int))) 0 0 (fun _ => False) := by
  refine cl_ofF (by decide +kernel) (Nat.le_of_ble_eq_true rfl) (fun p e s m below meth c S hr hlocks hnm hsz hw hK hZ hA ls hl => ?_)
  subst hsz
  replace S : CallFix p m c c_Ma_abs 2 s _ wA "java/lang/Math" := S
  obtain ⟨hx, hb, hml, hown, hts⟩ := id S
  have hzc := hZc _ _ _ hZ
  have hl : lv_has ls 2 [(0, .long (jN (a)))] := hl
  refine lv_lload_n hx hb d_Ma_abs_0 rfl (lv_at hl 0 rfl) ?_
  refine fm_lconst0 S d_Ma_abs_1 ?_
  refine fm_lcmp S (by omega) (by omega) d_Ma_abs_2 ?_
  refine fm_if_ge (tgt := 11) S (fm_cmp_in _ _) d_Ma_abs_3 (by decide) (fun c1 => ?_) (fun c1 => ?_)
  · rw [fm_cmp_ge] at c1
    refine lv_lload_n hx hb d_Ma_abs_11 rfl (lv_at hl 0 rfl) ?_
    refine fm_lretS S hr hlocks d_Ma_abs_12 ?_
    omega
  · rw [fm_cmp_ge] at c1
    refine lv_lload_n hx hb d_Ma_abs_6 rfl (lv_at hl 0 rfl) ?_
    refine fm_lneg S d_Ma_abs_7 ?_
    refine lv_goto (tgt := 12) hx hb d_Ma_abs_8 (by decide) ?_
    refine fm_lretS S hr hlocks d_Ma_abs_12 ?_
    omega

set_option maxHeartbeats 4000000 in
set_option maxRecDepth 100000 in
/-- In_compare -/
theorem t_In_compare (l : Launch) (D : va_G) (cs : Nat → ClassId) (Z : (Nat → Prop) → State → Heap → Prop) (hZo : fm_Zok Z) (tT : Nat) (hZc : ∀ A U H, Z A U H → Zc tT A U H) (μ : fm_Mu) (sz : Nat) (a : Int) (b : Int) (hia : inI a) (hib : inI b)  : Met l y_In_compare (Cond.code y_In_compare c_In_compare 2 (some .int) :: wA) ({ frames := 0, cells := 0, slots := 0, locals := 0 }) (fm_Pc D clsA (tysA cs) Z μ sz [.int (iN (a)), .int (iN (b))]) (fm_Si (fun z => (z < 0 ↔ a < b) ∧ (z = 0 ↔ a = b) ∧ inI z)) 0 0 (fun _ => False) := by
  refine cl_ofF (by decide +kernel) (Nat.le_of_ble_eq_true rfl) (fun p e s m below meth c S hr hlocks hnm hsz hw hK hZ hA ls hl => ?_)
  subst hsz
  replace S : CallFix p m c c_In_compare 2 s _ wA "java/lang/Integer" := S
  obtain ⟨hx, hb, hml, hown, hts⟩ := id S
  have hzc := hZc _ _ _ hZ
  have hl : lv_has ls 2 [(0, .int (iN (a))), (1, .int (iN (b)))] := hl
  refine lv_iload_n hx hb d_In_compare_0 rfl (lv_at hl 0 rfl) ?_
  refine lv_iload_n hx hb d_In_compare_1 rfl (lv_at hl 1 rfl) ?_
  refine fm_icmp_ge (tgt := 9) S (by omega) (by omega) d_In_compare_2 (by decide) (fun c1 => ?_) (fun c1 => ?_)
  · refine lv_iload_n hx hb d_In_compare_9 rfl (lv_at hl 0 rfl) ?_
    refine lv_iload_n hx hb d_In_compare_10 rfl (lv_at hl 1 rfl) ?_
    refine fm_icmp_ne (tgt := 18) S (by omega) (by omega) d_In_compare_11 (by decide) (fun c2 => ?_) (fun c2 => ?_)
    · refine fm_iconst S d_In_compare_18 ?_
      refine fm_iretS S hr hlocks d_In_compare_19 ?_
      omega
    · refine fm_iconst S d_In_compare_14 ?_
      refine lv_goto (tgt := 19) hx hb d_In_compare_15 (by decide) ?_
      refine fm_iretS S hr hlocks d_In_compare_19 ?_
      omega
  · refine fm_iconst S d_In_compare_5 ?_
    refine lv_goto (tgt := 19) hx hb d_In_compare_6 (by decide) ?_
    refine fm_iretS S hr hlocks d_In_compare_19 ?_
    omega

set_option maxHeartbeats 4000000 in
set_option maxRecDepth 100000 in
/-- Lo_compare -/
theorem t_Lo_compare (l : Launch) (D : va_G) (cs : Nat → ClassId) (Z : (Nat → Prop) → State → Heap → Prop) (hZo : fm_Zok Z) (tT : Nat) (hZc : ∀ A U H, Z A U H → Zc tT A U H) (μ : fm_Mu) (sz : Nat) (a : Int) (b : Int) (hia : inJ a) (hib : inJ b)  : Met l y_Lo_compare (Cond.code y_Lo_compare c_Lo_compare 4 (some .int) :: wA) ({ frames := 0, cells := 0, slots := 0, locals := 0 }) (fm_Pc D clsA (tysA cs) Z μ sz [.long (jN (a)), .long (jN (b))]) (fm_Si (fun z => (z < 0 ↔ a < b) ∧ (z = 0 ↔ a = b) ∧ inI z)) 0 0 (fun _ => False) := by
  refine cl_ofF (by decide +kernel) (Nat.le_of_ble_eq_true rfl) (fun p e s m below meth c S hr hlocks hnm hsz hw hK hZ hA ls hl => ?_)
  subst hsz
  replace S : CallFix p m c c_Lo_compare 4 s _ wA "java/lang/Long" := S
  obtain ⟨hx, hb, hml, hown, hts⟩ := id S
  have hzc := hZc _ _ _ hZ
  have hl : lv_has ls 4 [(0, .long (jN (a))), (2, .long (jN (b)))] := hl
  refine lv_lload_n hx hb d_Lo_compare_0 rfl (lv_at hl 0 rfl) ?_
  refine lv_lload_n hx hb d_Lo_compare_1 rfl (lv_at hl 1 rfl) ?_
  refine fm_lcmp S (by omega) (by omega) d_Lo_compare_2 ?_
  refine fm_if_ge (tgt := 10) S (fm_cmp_in _ _) d_Lo_compare_3 (by decide) (fun c1 => ?_) (fun c1 => ?_)
  · rw [fm_cmp_ge] at c1
    refine lv_lload_n hx hb d_Lo_compare_10 rfl (lv_at hl 0 rfl) ?_
    refine lv_lload_n hx hb d_Lo_compare_11 rfl (lv_at hl 1 rfl) ?_
    refine fm_lcmp S (by omega) (by omega) d_Lo_compare_12 ?_
    refine fm_if_ne (tgt := 20) S (fm_cmp_in _ _) d_Lo_compare_13 (by decide) (fun c2 => ?_) (fun c2 => ?_)
    · rw [fm_cmp_eq] at c2
      refine fm_iconst S d_Lo_compare_20 ?_
      refine fm_iretS S hr hlocks d_Lo_compare_21 ?_
      omega
    · rw [fm_cmp_eq] at c2
      refine fm_iconst S d_Lo_compare_16 ?_
      refine lv_goto (tgt := 21) hx hb d_Lo_compare_17 (by decide) ?_
      refine fm_iretS S hr hlocks d_Lo_compare_21 ?_
      omega
  · rw [fm_cmp_ge] at c1
    refine fm_iconst S d_Lo_compare_6 ?_
    refine lv_goto (tgt := 21) hx hb d_Lo_compare_7 (by decide) ?_
    refine fm_iretS S hr hlocks d_Lo_compare_21 ?_
    omega
