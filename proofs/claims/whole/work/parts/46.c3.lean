theorem lw_step {N : Nat} {i st num x : Int} (hi : 0 ≤ st ∧ st ≤ i) (hn : num = ((N * 10 ^ i.toNat / 10 ^ 32 % 10 ^ (i - st).toNat : Nat) : Int)) (hx : x = dgN N i) : num * 10 + x = ((N * 10 ^ (i + 1).toNat / 10 ^ 32 % 10 ^ (i + 1 - st).toNat : Nat) : Int) := by
  have h1 := low_step N i.toNat
  have hd := dgN_in N i
  rw [show ((i.toNat : Nat) : Int) = i by omega] at h1
  rw [hn, hx, low_mod hd, show (i + 1).toNat = i.toNat + 1 by omega, show (i + 1 - st).toNat = (i - st).toNat + 1 by omega]
  rw [show N * 10 ^ (i.toNat + 1) / 10 ^ 32 = 10 * (N * 10 ^ i.toNat / 10 ^ 32) + (dgN N i).toNat by omega]
theorem lw_fin {v sc en st i num : Int} (hv : dB v) (hs : 0 ≤ sc ∧ sc ≤ 18) (he : en = if (nd (cN v) : Int) = 0 then 0 else tp v + 1 + sc) (hst : st = max 0 (en - 18)) (h1 : en ≤ i) (h2 : 0 ≤ st ∧ st ≤ i ∧ (i ≤ en ∨ i = st)) (hn : num = ((mN v * 10 ^ i.toNat / 10 ^ 32 % 10 ^ (i - st).toNat : Nat) : Int)) : num = ((uW v sc % 10 ^ 18 : Nat) : Int) := by
  have hu := uW_l hv hs
  have ht := hv.t
  by_cases h0 : v = 0
  · subst h0
    rw [hn, mN_0]
    unfold uW
    simp
  · have hc : ¬ ((nd (cN v) : Int) = 0) := by
      have := nd_pos (cN_nz h0)
      omega
    rw [if_neg hc] at he
    rcases Int.le_total en 0 with e0 | e0
    · rw [hn, hu.2 (by omega), show (i - st).toNat = 0 by omega]
      simp [Nat.mod_one]
    · have hi : i = en := by omega
      rw [hn, hu.1 (by omega), hi, ← he]
      congr 1
      by_cases e18 : en ≤ 18
      · have hst0 : st = 0 := by omega
        have hlt : mN v * 10 ^ en.toNat / 10 ^ 32 < 10 ^ en.toNat := by
          rw [Nat.div_lt_iff_lt_mul (p10N 32), Nat.mul_comm]
          exact Nat.mul_lt_mul_of_pos_left (mN_lt hv) (p10N _)
        rw [hst0, Int.sub_zero, Nat.mod_eq_of_lt hlt, Nat.mod_eq_of_lt (Nat.lt_of_lt_of_le hlt (Nat.pow_le_pow_right (by decide) (by omega)))]
      · rw [show (en - st).toNat = 18 by omega]
theorem lim_lex {F G : Int → Int} {i : Int} (hF : fOk F) (hG : fOk G) (hi : 0 ≤ i ∧ i < 4) (hq : ∀ q : Int, 0 ≤ q → q < i → F q = G q) (hne : F i ≠ G i) : F i < G i ↔ L4 F < L4 G := by
  have a0 := hF 0 (by decide) (by decide)
  have a1 := hF 1 (by decide) (by decide)
  have a2 := hF 2 (by decide) (by decide)
  have a3 := hF 3 (by decide) (by decide)
  have b0 := hG 0 (by decide) (by decide)
  have b1 := hG 1 (by decide) (by decide)
  have b2 := hG 2 (by decide) (by decide)
  have b3 := hG 3 (by decide) (by decide)
  unfold L4
  rcases (show i = 0 ∨ i = 1 ∨ i = 2 ∨ i = 3 by omega) with h | h | h | h <;> subst h
  · omega
  · have := hq 0 (by decide) (by decide); omega
  · have := hq 0 (by decide) (by decide); have := hq 1 (by decide) (by decide); omega
  · have := hq 0 (by decide) (by decide); have := hq 1 (by decide) (by decide); have := hq 2 (by decide) (by decide); omega
theorem lim_same {F G : Int → Int} (hq : ∀ q : Int, 0 ≤ q → q < 4 → F q = G q) : L4 F = L4 G := by
  unfold L4
  rw [hq 0 (by decide) (by decide), hq 1 (by decide) (by decide), hq 2 (by decide) (by decide), hq 3 (by decide) (by decide)]
theorem abs_top {v w : Int} (hv : dB v) (hw : dB w) (h0 : v ≠ 0) (h1 : w ≠ 0) (ht : tp v < tp w) : v.natAbs < w.natAbs := by
  have a := hv.t
  have b := hw.t
  rw [abs_l hv, abs_l hw]
  calc mN v * 10 ^ (tp v + 269).toNat < 10 ^ 32 * 10 ^ (tp v + 269).toNat := Nat.mul_lt_mul_of_pos_right (mN_lt hv) (p10N _)
    _ = 10 ^ 31 * 10 ^ ((tp v + 269).toNat + 1) := by rw [Nat.pow_succ 10 (tp v + 269).toNat, show (10 : Nat) ^ 32 = 10 ^ 31 * 10 by decide, Nat.mul_assoc, Nat.mul_comm 10]
    _ ≤ mN w * 10 ^ (tp w + 269).toNat := Nat.mul_le_mul (mN_ge hw h1) (Nat.pow_le_pow_right (by decide) (by omega))
theorem abs_same {v w : Int} (hv : dB v) (hw : dB w) (ht : tp v = tp w) : v.natAbs < w.natAbs ↔ mN v < mN w := by
  rw [abs_l hv, abs_l hw, ht]
  exact ⟨fun h => Nat.lt_of_mul_lt_mul_right h, fun h => Nat.mul_lt_mul_of_pos_right h (p10N _)⟩
theorem nd_v0 {v : Int} : (nd (cN v) : Int) = 0 ↔ v = 0 := ⟨fun h => ndc_0 (by omega), fun h => by rw [h, nz_0]; rfl⟩

set_option maxHeartbeats 4000000 in
set_option maxRecDepth 100000 in
/-- digit(i) -/
theorem t_De_digit (l : Launch) (D : va_G) (cs : Nat → ClassId) (Z : (Nat → Prop) → State → Heap → Prop) (hZo : fm_Zok Z) (tT : Nat) (hZc : ∀ A U H, Z A U H → Zc tT A U H) (μ : fm_Mu) (sz : Nat) (h : Nat) (a : Nat) (co : Int) (sg : Int) (tp : Int) (ct : Int) (F : Int → Int) (N : Nat) (i : Int) (hF : fOk F) (hN : L4 F = N) (hii : inI i) (c_h : μ h = some (oE 2 [.int (iN (co)), .int (iN (sg)), .int (iN (tp)), .int (iN (ct)), .ref a])) (c_a : μ a = some (lE cs 4 F)) : Met l y_De_digit (Cond.code y_De_digit c_De_digit 2 (some .int) :: wA) ({ frames := 1, cells := 0, slots := 0, locals := 20 }) (fm_Pc D clsA (tysA cs) Z μ sz [.ref h, .int (iN (i))]) (fm_Si (fun z => z = dgN N i)) 0 0 (fun _ => False) := by
  refine cl_of (by decide +kernel) (Nat.le_of_ble_eq_true rfl) (fun p e s m below meth c S hr hlocks hnm hsz hw hK hZ hA ls hl => ?_)
  subst hsz
  replace S : CallFix p m c c_De_digit 2 s _ wA "ArithmeticForms$Decimal" := S
  obtain ⟨hx, hb, hml, hown, hts⟩ := id S
  have hzc := hZc _ _ _ hZ
  have hl : lv_has ls 2 [(0, .ref h), (1, .int (iN (i)))] := hl
  refine lv_iload_n hx hb d_De_digit_0 rfl (lv_at hl 1 rfl) ?_
  refine fm_if_lt (tgt := 10) S (by omega) d_De_digit_1 (by decide) (fun c1 => ?_) (fun c1 => ?_)
  · refine fm_iconst S d_De_digit_10 ?_
    refine fm_iretS S hr hlocks d_De_digit_11 ?_
    unfold dgN; rw [if_pos (by omega)]
  · refine lv_iload_n hx hb d_De_digit_4 rfl (lv_at hl 1 rfl) ?_
    refine fm_bipush S d_De_digit_5 (by decide) ?_
    refine fm_icmp_lt (tgt := 12) S (by omega) (by omega) d_De_digit_7 (by decide) (fun c2 => ?_) (fun c2 => ?_)
    · refine lv_aload_n hx hb d_De_digit_12 rfl (lv_at hl 0 rfl) ?_
      refine fm_get S hK hw c_h i_De rfl 4 (by decide) (hts _ k44) (fun _ h => h) rfl d_De_digit_13 ?_
      refine lv_iload_n hx hb d_De_digit_16 rfl (lv_at hl 1 rfl) ?_
      refine fm_bipush S d_De_digit_17 (by decide) ?_
      refine fm_idivN S (by omega) d_De_digit_19 ?_
      refine cl_lald S hK hw c_a (by omega) d_De_digit_20 ?_
      refine fm_bipush S d_De_digit_21 (by decide) ?_
      refine lv_iload_n hx hb d_De_digit_23 rfl (lv_at hl 1 rfl) ?_
      refine fm_bipush S d_De_digit_24 (by decide) ?_
      refine fm_iremN S (by omega) d_De_digit_26 ?_
      refine fm_isub S d_De_digit_27 ?_
      refine fm_callSl (va_runSN (As := [.int (iN ((7 - (i % 8))))]) (rest := [.long (jN ((F (i / 8))))]) S (t_AF_ten l D cs Z hZo tT hZc μ _ (7 - (i % 8)) (by omega)) ⟨cwNA 1 hts k85 rfl rfl hzc.2.2.1.2.2.1 k1 (by decide +kernel) (by decide), hts _ k84, trivial⟩ (fm_pre hZo hK hw hZ hA _) rfl rfl hl.1 rfl (lv_room (Nat.le_of_ble_eq_true rfl)) d_De_digit_28 ⟨Nat.le_of_ble_eq_true rfl, Nat.le_of_ble_eq_true rfl⟩) (fun x4 q3 => ?_)
      have hf := hF (i / 8) (by omega) (by omega)
      have ht := tenV_in (k := 7 - i % 8)
      have hd1 := Int.ediv_nonneg hf.1 (show 0 ≤ x4 by omega)
      have hd2 := Int.ediv_le_self x4 hf.1
      refine fm_ldivN S (by omega) d_De_digit_31 ?_
      refine lv_ldc2 (v := jN 10) hx hb hown (hts _ k88) d_De_digit_32 ?_
      refine fm_lremN S (by omega) d_De_digit_35 ?_
      refine fm_l2i S d_De_digit_36 ?_
      refine fm_iretS S hr hlocks d_De_digit_37 ?_
      rw [q3, tenV_e (by omega) (by omega)]; exact lim_dig hF hN (by omega) (by omega)
    · refine fm_iconst S d_De_digit_10 ?_
      refine fm_iretS S hr hlocks d_De_digit_11 ?_
      unfold dgN; rw [if_pos (by omega)]

set_option maxHeartbeats 4000000 in
set_option maxRecDepth 100000 in
/-- L_lw -/
theorem L_lw {p : Program} {l : Launch} {e : Env} {s : State} {m : MethodId} {args : Array Value} {below : List Frame} {meth : Method} {c : Code} {Q : State → Prop} {D : va_G} {cs : Nat → ClassId} {Z : (Nat → Prop) → State → Heap → Prop} {A : Nat → Prop}  (S : CallFix p m c c_De_lowestWhole 6 s args wA "ArithmeticForms$Decimal") (hK : va_K D clsA (tysA cs) s) (hZo : fm_Zok Z) (tT : Nat) (hZc : ∀ A U H, Z A U H → Zc tT A U H) (hZ : Z A s s.heap) (hA : ∀ q, s.heap.size ≤ q → A q) (μ0 : fm_Mu) (h a : Nat) (co v : Int) (F : Int → Int) (sc en st : Int) (hd : dF F v) (hv : dB v) (hen : -200 ≤ en ∧ en ≤ 200 ∧ st ≤ 200) (kk44 : ∀ (μ1 : fm_Mu) (i : Int) (num : Int) (H : Heap) (locs : List Loc) (ls : Array Slot), (en ≤ i) → (0 ≤ st ∧ st ≤ i ∧ (i ≤ en ∨ i = st)) → (num = ((mN v * 10 ^ i.toNat / 10 ^ 32 % 10 ^ (i - st).toNat : Nat) : Int)) → (μ1 h = some (oE 2 [.int (iN (co)), .int (iN ((sgn v))), .int (iN ((tp v))), .int (iN ((nd (cN v) : Int))), .ref a])) → (μ1 a = some (lE cs 4 F)) → fm_O μ0 μ1 [] → lv_has ls 6 [(5, .int (iN (i))), (3, .long (jN (num))), (2, .int (iN (en))), (0, .ref h), (1, .int (iN (sc)))] → fm_W D clsA A s.heap μ1 H locs → W p l e ({ frames := 2, cells := 0, slots := 0, locals := 41 }) s m args below meth c H locs 0 0 Q (F0 m 44 ls [])) : ∀ (fu : Nat) (μ1 : fm_Mu) (i : Int) (num : Int) (H : Heap) (locs : List Loc) (ls : Array Slot), 500 - i < (fu : Int) → (0 ≤ st ∧ st ≤ i ∧ (i ≤ en ∨ i = st)) → (num = ((mN v * 10 ^ i.toNat / 10 ^ 32 % 10 ^ (i - st).toNat : Nat) : Int)) → (μ1 h = some (oE 2 [.int (iN (co)), .int (iN ((sgn v))), .int (iN ((tp v))), .int (iN ((nd (cN v) : Int))), .ref a])) → (μ1 a = some (lE cs 4 F)) → fm_O μ0 μ1 [] → lv_has ls 6 [(5, .int (iN (i))), (3, .long (jN (num))), (2, .int (iN (en))), (0, .ref h), (1, .int (iN (sc)))] → fm_W D clsA A s.heap μ1 H locs → W p l e ({ frames := 2, cells := 0, slots := 0, locals := 41 }) s m args below meth c H locs 0 0 Q (F0 m 18 ls []) := by
  obtain ⟨hx, hb, hml, hown, hts⟩ := id S
  have hzc := hZc _ _ _ hZ
  intro fu
  induction fu with
  | zero =>
    intro μ1 i num H locs ls hn hi hnum c_h c_a hO0 hl hw
    exfalso; omega
  | succ fu ih =>
    intro μ1 i num H locs ls hn hi hnum c_h c_a hO0 hl hw
    refine lv_iload hx hb d_De_lowestWhole_18 (lv_at hl 0 rfl) ?_
    refine lv_iload_n hx hb d_De_lowestWhole_20 rfl (lv_at hl 2 rfl) ?_
    refine fm_icmp_ge (tgt := 44) S (by omega) (by omega) d_De_lowestWhole_21 (by decide) (fun c1 => ?_) (fun c1 => ?_)
    · exact kk44 μ1 i num _ _ _ (by omega) (hi) (hnum) c_h c_a hO0 (lv_sub hl [0, 1, 2, 3, 4] rfl) hw
    · refine lv_lload_n hx hb d_De_lowestWhole_24 rfl (lv_at hl 1 rfl) ?_
      refine lv_ldc2 (v := jN 10) hx hb hown (hts _ k88) d_De_lowestWhole_25 ?_
      refine fm_lmul S d_De_lowestWhole_28 ?_
      refine lv_aload_n hx hb d_De_lowestWhole_29 rfl (lv_at hl 3 rfl) ?_
      refine lv_iload hx hb d_De_lowestWhole_30 (lv_at hl 0 rfl) ?_
      refine fm_callSi (va_runV (As := [.int (iN (i))]) (rest := [.long (jN ((num * 10)))]) S (t_De_digit l D cs Z hZo tT hZc μ1 _ h a co (sgn v) (tp v) (nd (cN v) : Int) F (mN v) i hd.1 hd.2 (by omega) c_h c_a) (cwV 1 hts (gV k188 k189 k190 k2 k191) rfl rfl rfl (by decide +kernel) (by decide)) (fm_preV hZo hK hw hZ hA c_h rfl _) rfl rfl hl.1 rfl (lv_room (Nat.le_of_ble_eq_true rfl)) d_De_lowestWhole_32 ⟨Nat.le_of_ble_eq_true rfl, Nat.le_of_ble_eq_true rfl⟩) (fun x3 q2 => ?_)
      have hdg := dgN_in (mN v) i
      refine fm_i2l S (by omega) d_De_lowestWhole_35 ?_
      refine fm_ladd S d_De_lowestWhole_36 ?_
      refine fm_topl (fun x4 hx4 => ?_)
      refine lv_lstore_n (lv' := [(3, .long (jN (x4))), (5, .int (iN (i))), (2, .int (iN (en))), (0, .ref h), (1, .int (iN (sc)))]) hx hb d_De_lowestWhole_37 rfl hl (by decide) rfl (fun ls hl => ?_)
      refine lv_iinc (v := iN ((i + 1))) (lv' := [(5, .int (iN ((i + 1)))), (3, .long (jN (x4))), (2, .int (iN (en))), (0, .ref h), (1, .int (iN (sc)))]) hx hb d_De_lowestWhole_38 hl (k := 1) rfl (iN_add _ _) (by decide) rfl (fun ls hl => ?_)
      refine lv_goto (tgt := 18) hx hb d_De_lowestWhole_41 (by decide) ?_
      exact ih μ1 (i + 1) x4 _ _ _ (by omega) (by omega) (by rw [hx4]; exact lw_step (by omega) hnum q2) c_h c_a hO0 (lv_sub hl [0, 1, 2, 3, 4] rfl) hw

set_option maxHeartbeats 4000000 in
set_option maxRecDepth 100000 in
/-- lowestWhole(sc) -/
theorem t_De_lowestWhole (l : Launch) (D : va_G) (cs : Nat → ClassId) (Z : (Nat → Prop) → State → Heap → Prop) (hZo : fm_Zok Z) (tT : Nat) (hZc : ∀ A U H, Z A U H → Zc tT A U H) (μ : fm_Mu) (sz : Nat) (h : Nat) (a : Nat) (co : Int) (v : Int) (F : Int → Int) (sc : Int) (hd : dF F v) (hv : dB v) (hsc : 0 ≤ sc ∧ sc ≤ 18) (c_h : μ h = some (oE 2 [.int (iN (co)), .int (iN ((sgn v))), .int (iN ((tp v))), .int (iN ((nd (cN v) : Int))), .ref a])) (c_a : μ a = some (lE cs 4 F)) : Met l y_De_lowestWhole (Cond.code y_De_lowestWhole c_De_lowestWhole 6 (some .long) :: wA) ({ frames := 2, cells := 0, slots := 0, locals := 41 }) (fm_Pc D clsA (tysA cs) Z μ sz [.ref h, .int (iN (sc))]) (fm_Ql D clsA (tysA cs) μ sz (fun z μ' => z = ((uW v sc % 10 ^ 18 : Nat) : Int) ∧ μ' = μ)) 0 0 (fm_A μ sz) := by
  refine cl_of (by decide +kernel) (Nat.le_of_ble_eq_true rfl) (fun p e s m below meth c S hr hlocks hnm hsz hw hK hZ hA ls hl => ?_)
  subst hsz
  replace S : CallFix p m c c_De_lowestWhole 6 s _ wA "ArithmeticForms$Decimal" := S
  obtain ⟨hx, hb, hml, hown, hts⟩ := id S
  have hzc := hZc _ _ _ hZ
  have hO0 : fm_O μ μ [] := fm_O.rf
  have hl : lv_has ls 6 [(0, .ref h), (1, .int (iN (sc)))] := hl
  refine lv_aload_n hx hb d_De_lowestWhole_0 rfl (lv_at hl 0 rfl) ?_
  refine lv_iload_n hx hb d_De_lowestWhole_1 rfl (lv_at hl 1 rfl) ?_
  refine fm_callSi (va_runV (As := [.int (iN (sc))]) (rest := []) S (t_De_wholeDigits l D cs Z hZo tT hZc μ _ h a co (sgn v) (tp v) (nd (cN v) : Int) F sc (by have := hv.1; omega) c_h c_a) (cwV 1 hts (gV k184 k185 k186 k2 k187) rfl rfl rfl (by decide +kernel) (by decide)) (fm_preV hZo hK hw hZ hA c_h rfl _) rfl rfl hl.1 rfl (lv_room (Nat.le_of_ble_eq_true rfl)) d_De_lowestWhole_2 ⟨Nat.le_of_ble_eq_true rfl, Nat.le_of_ble_eq_true rfl⟩) (fun x2 q1 => ?_)
  have htp := hv.t
  have hct := hv.1
  have hen : -200 ≤ x2 ∧ x2 ≤ 200 := by rw [q1]; split <;> omega
  refine lv_istore_n (lv' := [(2, .int (iN (x2))), (0, .ref h), (1, .int (iN (sc)))]) hx hb d_De_lowestWhole_5 rfl hl (by decide) rfl (fun ls hl => ?_)
  refine fm_lconst0 S d_De_lowestWhole_6 ?_
  refine lv_lstore_n (lv' := [(3, .long (jN (0))), (2, .int (iN (x2))), (0, .ref h), (1, .int (iN (sc)))]) hx hb d_De_lowestWhole_7 rfl hl (by decide) rfl (fun ls hl => ?_)
  refine fm_iconst S d_De_lowestWhole_8 ?_
  refine lv_iload_n hx hb d_De_lowestWhole_9 rfl (lv_at hl 1 rfl) ?_
  refine fm_bipush S d_De_lowestWhole_10 (by decide) ?_
  refine fm_isub S d_De_lowestWhole_12 ?_
  refine fm_callSi (va_runS (As := [.int (iN (0)), .int (iN ((x2 - 18)))]) (rest := []) S (t_Ma_max l D cs Z hZo tT hZc μ _ 0 (x2 - 18) (by omega) (by omega)) (va_cwS 2 hts (gS k97 k64 k4 k65) rfl rfl rfl (by decide +kernel) (by decide)) (fm_pre hZo hK hw hZ hA _) rfl rfl hl.1 rfl (lv_room (Nat.le_of_ble_eq_true rfl)) d_De_lowestWhole_13 ⟨Nat.le_of_ble_eq_true rfl, Nat.le_of_ble_eq_true rfl⟩) (fun x4 q3 => ?_)
  refine lv_istore (lv' := [(5, .int (iN (x4))), (3, .long (jN (0))), (2, .int (iN (x2))), (0, .ref h), (1, .int (iN (sc)))]) hx hb d_De_lowestWhole_16 hl (by decide) rfl (fun ls hl => ?_)
  refine L_lw (Z := Z) S hK hZo tT hZc hZ hA μ h a co v F sc x2 x4 hd hv (by omega) (fun μ5 i num H locs ls hi1 hi hnum c_h c_a hO0 hl hw => ?_) (600) μ x4 0 _ _ _ (by omega) (by omega) (by rw [show (x4 - x4).toNat = 0 by omega]; simp [Nat.mod_one]) c_h c_a hO0 (lv_sub hl [0, 1, 2, 3, 4] rfl) hw
  refine lv_lload_n hx hb d_De_lowestWhole_44 rfl (lv_at hl 1 rfl) ?_
  refine fm_lret S hr hlocks hK hw d_De_lowestWhole_45 ?_
  exact ⟨lw_fin hv hsc q1 q3 hi1 hi hnum, funext (fun q => hO0 q nm0)⟩

set_option maxHeartbeats 4000000 in
set_option maxRecDepth 100000 in
/-- L_cs -/
theorem L_cs {p : Program} {l : Launch} {e : Env} {s : State} {m : MethodId} {args : Array Value} {below : List Frame} {meth : Method} {c : Code} {Q : State → Prop} {D : va_G} {cs : Nat → ClassId} {Z : (Nat → Prop) → State → Heap → Prop} {A : Nat → Prop}  (S : CallFix p m c c_De_compareSize 3 s args wA "ArithmeticForms$Decimal") (hK : va_K D clsA (tysA cs) s) (hZo : fm_Zok Z) (tT : Nat) (hZc : ∀ A U H, Z A U H → Zc tT A U H) (hZ : Z A s s.heap) (hA : ∀ q, s.heap.size ≤ q → A q) (μ0 : fm_Mu) (h a g b : Nat) (co co2 v u : Int) (F G : Int → Int) (hd : dF F v) (hv : dB v) (hd2 : dF G u) (hu : dB u) (hte : tp v = tp u) (hlocks : meth.locks = false) (hr : meth.sig.returnType = some .int) (hsz : A = fm_A μ0 s.heap.size) (hQ : Q = MQ below (fm_Qi D clsA (tysA cs) μ0 s.heap.size (fun z μ' => (z < 0 ↔ v.natAbs < u.natAbs) ∧ inI z ∧ μ' = μ0)) args s 0 0 (fm_A μ0 s.heap.size)) (kk94 : ∀ (μ1 : fm_Mu) (i : Int) (H : Heap) (locs : List Loc) (ls : Array Slot), (i = 4) → (∀ q : Int, 0 ≤ q → q < i → F q = G q) → (μ1 h = some (oE 2 [.int (iN (co)), .int (iN ((sgn v))), .int (iN ((tp v))), .int (iN ((nd (cN v) : Int))), .ref a])) → (μ1 a = some (lE cs 4 F)) → (μ1 g = some (oE 2 [.int (iN (co2)), .int (iN ((sgn u))), .int (iN ((tp u))), .int (iN ((nd (cN u) : Int))), .ref b])) → (μ1 b = some (lE cs 4 G)) → fm_O μ0 μ1 [] → lv_has ls 3 [(2, .int (iN (i))), (0, .ref h), (1, .ref g)] → fm_W D clsA A s.heap μ1 H locs → W p l e ({ frames := 1, cells := 0, slots := 0, locals := 23 }) s m args below meth c H locs 0 0 Q (F0 m 94 ls [])) : ∀ (fu : Nat) (μ1 : fm_Mu) (i : Int) (H : Heap) (locs : List Loc) (ls : Array Slot), 10 - i < (fu : Int) → (0 ≤ i ∧ i ≤ 4) → (∀ q : Int, 0 ≤ q → q < i → F q = G q) → (μ1 h = some (oE 2 [.int (iN (co)), .int (iN ((sgn v))), .int (iN ((tp v))), .int (iN ((nd (cN v) : Int))), .ref a])) → (μ1 a = some (lE cs 4 F)) → (μ1 g = some (oE 2 [.int (iN (co2)), .int (iN ((sgn u))), .int (iN ((tp u))), .int (iN ((nd (cN u) : Int))), .ref b])) → (μ1 b = some (lE cs 4 G)) → fm_O μ0 μ1 [] → lv_has ls 3 [(2, .int (iN (i))), (0, .ref h), (1, .ref g)] → fm_W D clsA A s.heap μ1 H locs → W p l e ({ frames := 1, cells := 0, slots := 0, locals := 23 }) s m args below meth c H locs 0 0 Q (F0 m 51 ls []) := by
  subst hQ
  subst hsz
  obtain ⟨hx, hb, hml, hown, hts⟩ := id S
  have hzc := hZc _ _ _ hZ
  intro fu
  induction fu with
  | zero =>
    intro μ1 i H locs ls hn hi hq c_h c_a c_g c_b hO0 hl hw
    exfalso; omega
  | succ fu ih =>
    intro μ1 i H locs ls hn hi hq c_h c_a c_g c_b hO0 hl hw
    refine lv_iload_n hx hb d_De_compareSize_51 rfl (lv_at hl 0 rfl) ?_
    refine fm_iconst S d_De_compareSize_52 ?_
    refine fm_icmp_ge (tgt := 94) S (by omega) (by omega) d_De_compareSize_53 (by decide) (fun c1 => ?_) (fun c1 => ?_)
    · exact kk94 μ1 i _ _ _ (by omega) (hq) c_h c_a c_g c_b hO0 (lv_sub hl [0, 1, 2] rfl) hw
    · have hf := hd.1 i (by omega) (by omega)
      have hg := hd2.1 i (by omega) (by omega)
      refine lv_aload_n hx hb d_De_compareSize_56 rfl (lv_at hl 1 rfl) ?_
      refine fm_get S hK hw c_h i_De rfl 4 (by decide) (hts _ k44) (fun _ h => h) rfl d_De_compareSize_57 ?_
      refine lv_iload_n hx hb d_De_compareSize_60 rfl (lv_at hl 0 rfl) ?_
      refine cl_lald S hK hw c_a (by omega) d_De_compareSize_61 ?_
      refine lv_aload_n hx hb d_De_compareSize_62 rfl (lv_at hl 2 rfl) ?_
      refine fm_get S hK hw c_g i_De rfl 4 (by decide) (hts _ k44) (fun _ h => h) rfl d_De_compareSize_63 ?_
      refine lv_iload_n hx hb d_De_compareSize_66 rfl (lv_at hl 0 rfl) ?_
      refine cl_lald S hK hw c_b (by omega) d_De_compareSize_67 ?_
      refine fm_lcmp S (by omega) (by omega) d_De_compareSize_68 ?_
      refine fm_if_eq (tgt := 88) S (fm_cmp_in _ _) d_De_compareSize_69 (by decide) (fun c2 => ?_) (fun c2 => ?_)
      · rw [fm_cmp_eq] at c2
        refine lv_iinc (v := iN ((i + 1))) (lv' := [(2, .int (iN ((i + 1)))), (0, .ref h), (1, .ref g)]) hx hb d_De_compareSize_88 hl (k := 0) rfl (iN_add _ _) (by decide) rfl (fun ls hl => ?_)
        refine lv_goto (tgt := 51) hx hb d_De_compareSize_91 (by decide) ?_
        exact ih μ1 (i + 1) _ _ _ (by omega) (by omega) (by intro q h1 h2; by_cases h3 : q = i; rw [h3]; assumption; exact hq q h1 (by omega)) c_h c_a c_g c_b hO0 (lv_sub hl [0, 1, 2] rfl) hw
      · rw [fm_cmp_eq] at c2
        refine lv_aload_n hx hb d_De_compareSize_72 rfl (lv_at hl 1 rfl) ?_
        refine fm_get S hK hw c_h i_De rfl 4 (by decide) (hts _ k44) (fun _ h => h) rfl d_De_compareSize_73 ?_
        refine lv_iload_n hx hb d_De_compareSize_76 rfl (lv_at hl 0 rfl) ?_
        refine cl_lald S hK hw c_a (by omega) d_De_compareSize_77 ?_
        refine lv_aload_n hx hb d_De_compareSize_78 rfl (lv_at hl 2 rfl) ?_
        refine fm_get S hK hw c_g i_De rfl 4 (by decide) (hts _ k44) (fun _ h => h) rfl d_De_compareSize_79 ?_
        refine lv_iload_n hx hb d_De_compareSize_82 rfl (lv_at hl 0 rfl) ?_
        refine cl_lald S hK hw c_b (by omega) d_De_compareSize_83 ?_
        refine fm_callSi (va_runS (As := [.long (jN ((F i))), .long (jN ((G i)))]) (rest := []) S (t_Lo_compare l D cs Z hZo tT hZc μ1 _ (F i) (G i) (by omega) (by omega)) (va_cwS 2 hts (gS k262 k263 k9 k264) rfl rfl rfl (by decide +kernel) (by decide)) (fm_pre hZo hK hw hZ hA _) rfl rfl hl.1 rfl (lv_room (Nat.le_of_ble_eq_true rfl)) d_De_compareSize_84 ⟨Nat.le_of_ble_eq_true rfl, Nat.le_of_ble_eq_true rfl⟩) (fun x4 q3 => ?_)
        refine fm_iret S hr hlocks hK hw d_De_compareSize_87 ?_
        refine ⟨?_, q3.2.2, funext (fun q => hO0 q nm0)⟩
        rw [q3.1, lim_lex hd.1 hd2.1 (by omega) hq (by omega), abs_same hv hu hte, hd.2, hd2.2]
        omega

set_option maxHeartbeats 4000000 in
set_option maxRecDepth 100000 in
/-- compareSize(other) -/
theorem t_De_compareSize (l : Launch) (D : va_G) (cs : Nat → ClassId) (Z : (Nat → Prop) → State → Heap → Prop) (hZo : fm_Zok Z) (tT : Nat) (hZc : ∀ A U H, Z A U H → Zc tT A U H) (μ : fm_Mu) (sz : Nat) (h : Nat) (a : Nat) (co : Int) (v : Int) (F : Int → Int) (g : Nat) (b : Nat) (co2 : Int) (u : Int) (G : Int → Int) (hd : dF F v) (hv : dB v) (hd2 : dF G u) (hu : dB u) (c_h : μ h = some (oE 2 [.int (iN (co)), .int (iN ((sgn v))), .int (iN ((tp v))), .int (iN ((nd (cN v) : Int))), .ref a])) (c_a : μ a = some (lE cs 4 F)) (c_g : μ g = some (oE 2 [.int (iN (co2)), .int (iN ((sgn u))), .int (iN ((tp u))), .int (iN ((nd (cN u) : Int))), .ref b])) (c_b : μ b = some (lE cs 4 G)) : Met l y_De_compareSize (Cond.code y_De_compareSize c_De_compareSize 3 (some .int) :: wA) ({ frames := 1, cells := 0, slots := 0, locals := 23 }) (fm_Pc D clsA (tysA cs) Z μ sz [.ref h, .ref g]) (fm_Qi D clsA (tysA cs) μ sz (fun z μ' => (z < 0 ↔ v.natAbs < u.natAbs) ∧ inI z ∧ μ' = μ)) 0 0 (fm_A μ sz) := by
  refine cl_of (by decide +kernel) (Nat.le_of_ble_eq_true rfl) (fun p e s m below meth c S hr hlocks hnm hsz hw hK hZ hA ls hl => ?_)
  subst hsz
  replace S : CallFix p m c c_De_compareSize 3 s _ wA "ArithmeticForms$Decimal" := S
  obtain ⟨hx, hb, hml, hown, hts⟩ := id S
  have hzc := hZc _ _ _ hZ
  have hO0 : fm_O μ μ [] := fm_O.rf
  have hl : lv_has ls 3 [(0, .ref h), (1, .ref g)] := hl
  have htv := hv.t
  have htu := hu.t
  have hcv := hv.1
  have hcu := hu.1
  have hzv := nd_v0 (v := v)
  have hzu := nd_v0 (v := u)
  refine lv_aload_n hx hb d_De_compareSize_0 rfl (lv_at hl 0 rfl) ?_
  refine fm_get S hK hw c_h i_De rfl 3 (by decide) (hts _ k41) (fun _ h => h) rfl d_De_compareSize_1 ?_
  refine fm_if_eq (tgt := 14) S (by omega) d_De_compareSize_4 (by decide) (fun c1 => ?_) (fun c1 => ?_)
  · refine lv_aload_n hx hb d_De_compareSize_14 rfl (lv_at hl 0 rfl) ?_
    refine fm_get S hK hw c_h i_De rfl 3 (by decide) (hts _ k41) (fun _ h => h) rfl d_De_compareSize_15 ?_
    refine lv_aload_n hx hb d_De_compareSize_18 rfl (lv_at hl 1 rfl) ?_
    refine fm_get S hK hw c_g i_De rfl 3 (by decide) (hts _ k41) (fun _ h => h) rfl d_De_compareSize_19 ?_
    refine fm_callSi (va_runS (As := [.int (iN ((nd (cN v) : Int))), .int (iN ((nd (cN u) : Int)))]) (rest := []) S (t_In_compare l D cs Z hZo tT hZc μ _ (nd (cN v) : Int) (nd (cN u) : Int) (by omega) (by omega)) (va_cwS 2 hts (gS k259 k260 k8 k261) rfl rfl rfl (by decide +kernel) (by decide)) (fm_pre hZo hK hw hZ hA _) rfl rfl hl.1 rfl (lv_room (Nat.le_of_ble_eq_true rfl)) d_De_compareSize_22 ⟨Nat.le_of_ble_eq_true rfl, Nat.le_of_ble_eq_true rfl⟩) (fun x3 q2 => ?_)
    refine fm_iret S hr hlocks hK hw d_De_compareSize_25 ?_
    exact ⟨by rw [q2.1]; omega, q2.2.2, rfl⟩
  · refine lv_aload_n hx hb d_De_compareSize_7 rfl (lv_at hl 1 rfl) ?_
    refine fm_get S hK hw c_g i_De rfl 3 (by decide) (hts _ k41) (fun _ h => h) rfl d_De_compareSize_8 ?_
    refine fm_if_ne (tgt := 26) S (by omega) d_De_compareSize_11 (by decide) (fun c4 => ?_) (fun c4 => ?_)
    · refine lv_aload_n hx hb d_De_compareSize_26 rfl (lv_at hl 0 rfl) ?_
      refine fm_get S hK hw c_h i_De rfl 2 (by decide) (hts _ k39) (fun _ h => h) rfl d_De_compareSize_27 ?_
      refine lv_aload_n hx hb d_De_compareSize_30 rfl (lv_at hl 1 rfl) ?_
      refine fm_get S hK hw c_g i_De rfl 2 (by decide) (hts _ k39) (fun _ h => h) rfl d_De_compareSize_31 ?_
      refine fm_icmp_eq (tgt := 49) S (by omega) (by omega) d_De_compareSize_34 (by decide) (fun c5 => ?_) (fun c5 => ?_)
      · refine fm_iconst S d_De_compareSize_49 ?_
        refine lv_istore_n (lv' := [(2, .int (iN (0))), (0, .ref h), (1, .ref g)]) hx hb d_De_compareSize_50 rfl hl (by decide) rfl (fun ls hl => ?_)
        refine L_cs (Z := Z) S hK hZo tT hZc hZ hA μ h a g b co co2 v u F G hd hv hd2 hu (by omega) hlocks hr rfl rfl (fun μ6 i H locs ls hi hq c_h c_a c_g c_b hO0 hl hw => ?_) (20) μ 0 _ _ _ (by omega) (by omega) (by intro q h1 h2; omega) c_h c_a c_g c_b hO0 (lv_sub hl [0, 1, 2] rfl) hw
        refine fm_iconst S d_De_compareSize_94 ?_
        refine fm_iret S hr hlocks hK hw d_De_compareSize_95 ?_
        refine ⟨?_, by decide, funext (fun q => hO0 q nm0)⟩
        rw [abs_same hv hu (by omega)]
        have h1 := lim_same (fun q a b => hq q a (by omega))
        rw [hd.2, hd2.2] at h1
        omega
      · refine lv_aload_n hx hb d_De_compareSize_37 rfl (lv_at hl 0 rfl) ?_
        refine fm_get S hK hw c_h i_De rfl 2 (by decide) (hts _ k39) (fun _ h => h) rfl d_De_compareSize_38 ?_
        refine lv_aload_n hx hb d_De_compareSize_41 rfl (lv_at hl 1 rfl) ?_
        refine fm_get S hK hw c_g i_De rfl 2 (by decide) (hts _ k39) (fun _ h => h) rfl d_De_compareSize_42 ?_
        refine fm_callSi (va_runS (As := [.int (iN ((tp v))), .int (iN ((tp u)))]) (rest := []) S (t_In_compare l D cs Z hZo tT hZc μ _ (tp v) (tp u) (by omega) (by omega)) (va_cwS 2 hts (gS k259 k260 k8 k261) rfl rfl rfl (by decide +kernel) (by decide)) (fm_pre hZo hK hw hZ hA _) rfl rfl hl.1 rfl (lv_room (Nat.le_of_ble_eq_true rfl)) d_De_compareSize_45 ⟨Nat.le_of_ble_eq_true rfl, Nat.le_of_ble_eq_true rfl⟩) (fun x8 q7 => ?_)
        refine fm_iret S hr hlocks hK hw d_De_compareSize_48 ?_
        refine ⟨?_, q7.2.2, rfl⟩
        rw [q7.1]
        rcases Int.lt_or_le (tp v) (tp u) with h | h
        · exact ⟨fun _ => abs_top hv hu (by omega) (by omega) h, fun _ => h⟩
        · have := abs_top hu hv (by omega) (by omega) (show tp u < tp v by omega)
          omega
    · refine lv_aload_n hx hb d_De_compareSize_14 rfl (lv_at hl 0 rfl) ?_
      refine fm_get S hK hw c_h i_De rfl 3 (by decide) (hts _ k41) (fun _ h => h) rfl d_De_compareSize_15 ?_
      refine lv_aload_n hx hb d_De_compareSize_18 rfl (lv_at hl 1 rfl) ?_
      refine fm_get S hK hw c_g i_De rfl 3 (by decide) (hts _ k41) (fun _ h => h) rfl d_De_compareSize_19 ?_
      refine fm_callSi (va_runS (As := [.int (iN ((nd (cN v) : Int))), .int (iN ((nd (cN u) : Int)))]) (rest := []) S (t_In_compare l D cs Z hZo tT hZc μ _ (nd (cN v) : Int) (nd (cN u) : Int) (by omega) (by omega)) (va_cwS 2 hts (gS k259 k260 k8 k261) rfl rfl rfl (by decide +kernel) (by decide)) (fm_pre hZo hK hw hZ hA _) rfl rfl hl.1 rfl (lv_room (Nat.le_of_ble_eq_true rfl)) d_De_compareSize_22 ⟨Nat.le_of_ble_eq_true rfl, Nat.le_of_ble_eq_true rfl⟩) (fun x10 q9 => ?_)
      refine fm_iret S hr hlocks hK hw d_De_compareSize_25 ?_
      exact ⟨by rw [q9.1]; omega, q9.2.2, rfl⟩
