theorem tr_eq {y s : Int} (hy : dB y) (hs : 0 ≤ s ∧ s ≤ 18) (h0 : y ≠ 0) (hk : 1 ≤ tp y + 1 + s) : trV y s = sgn y * ((cutM (tp y + 1 + s) (mN y) * 10 ^ (tp y + 269).toNat : Nat) : Int) := by
  have ht := hy.t
  have ha := abs_l hy
  by_cases h32 : 32 ≤ tp y + 1 + s
  · have hr : uR y s = 0 := by
      unfold uR uU
      rw [ha, show (tp y + 269).toNat = (tp y + 269 - (300 - s)).toNat + (300 - s).toNat by omega, Nat.pow_add, ← Nat.mul_assoc, Nat.mul_mod_left]
    rw [tr_same hr, cutM_32 h32, ← ha, sgn_abs]
  · unfold trV uW uU
    rw [cutM_eq, show (32 - min 32 (max 0 (tp y + 1 + s))).toNat = (32 - (tp y + 1 + s)).toNat by omega]
    have e : (300 - s).toNat = (32 - (tp y + 1 + s)).toNat + (tp y + 269).toNat := by omega
    rw [ha, e, Nat.pow_add, Nat.mul_div_mul_right _ _ (p10N _), Int.mul_assoc]
    congr 1
    rw [Int.natCast_mul, Int.natCast_mul, p10c, p10c, Int.pow_add, Int.mul_assoc]
theorem tr_ok {cs : Nat → ClassId} {μ : fm_Mu} {h a : Nat} {y s keep : Int} {F : Int → Int} (hy : dB y) (hs : 0 ≤ s ∧ s ≤ 18) (hkp : keep = if (nd (cN y) : Int) = 0 then 0 else tp y + 1 + s) (ca : μ a = some (lE cs 4 F)) (hok : fOk F) (hL : L4 F = (cutM keep (mN y) : Int)) (hc : (cutM keep (mN y) = 0 ∧ μ h = some (dE 0 0 0 0 a)) ∨ (cutM keep (mN y) ≠ 0 ∧ μ h = some (dE 0 (sgn y) (tp y) ((32 - tz (cutM keep (mN y)) : Nat) : Int) a))) : Dc cs μ h a 0 (trV y s) := by
  have ht := hy.t
  have hlt := mN_lt hy
  have zer : trV y s = 0 → cutM keep (mN y) = 0 → Dc cs μ h a 0 (trV y s) := fun e e2 => by
    rw [e]
    rw [e2] at hL hc
    rcases hc with ⟨_, hc⟩ | ⟨hc, _⟩
    · exact ⟨F, by rw [sgn_0, tp_0, nz_0]; exact hc, ca, ⟨hok, by rw [hL, mN_0]⟩, dB_0⟩
    · exact absurd rfl hc
  by_cases h0 : y = 0
  · subst h0
    refine zer ?_ ?_
    · unfold trV; rw [sgn_0]; simp
    · rw [mN_0]; unfold cutM; simp
  · have hnz : ¬ (nd (cN y) : Int) = 0 := fun z => h0 (ndc_0 (by omega))
    rw [if_neg hnz] at hkp
    subst hkp
    have et : tp y = (nd (cN y) : Int) + cX y - 1 := by unfold tp; rw [if_neg h0]
    by_cases hk : 1 ≤ tp y + 1 + s
    · have hge := cutM_ge hk (mN_ge hy h0)
      have hle := cutM_le (tp y + 1 + s) (mN y)
      obtain ⟨g1, g2, g3, g4, g5, g6⟩ := mkD hge (by omega) (sgn_nz h0) ht (tr_eq hy hs h0 hk)
      have p31 := p10N 31
      rcases hc with ⟨hc, _⟩ | ⟨hc1, hc⟩
      · omega
      · refine ⟨F, by rw [g2, g3, g4]; exact hc, ca, ⟨hok, by rw [hL, g6]⟩, ?_, Or.inr (by rw [g3]; exact ht)⟩
        by_cases h32 : tp y + 1 + s ≤ 31
        · have := cutM_tz h32 hc1
          rw [g4]; omega
        · have hr : trV y s = y := by rw [tr_eq hy hs h0 hk, cutM_32 (by omega), ← abs_l hy, sgn_abs]
          rw [hr]; exact hy.1
    · exact zer (tr_zero hs (by omega)) (cutM_0 (by omega) hlt)
theorem rest_ok {P : Nat} {x y h s : Int} {m b : Int × Int} (hP : 1 ≤ P ∧ P ≤ 31) (hm : m = opW 0 0 (sMul P x (trV y s))) (hb : b = opW 0 m.1 (sAdd P (hV h s) (-1 * m.2))) : sgn b.2 * ((uW b.2 s % 10 ^ 18 : Nat) : Int) = restS P x y h s := by
  rw [opW_0] at hm
  have n1 := sMul_nd (a := x) (b := trV y s) hP
  rw [← hm] at n1
  have n2 := sAdd_nd (a := hV h s) (b := -1 * m.2) hP
  unfold restS
  rw [← hm]
  by_cases h1 : m.1 = 0
  · rw [if_neg (by omega), show -m.2 = -1 * m.2 by omega]
    rw [h1, opW_0] at hb
    rw [← hb] at n2 ⊢
    by_cases h2 : b.1 = 0
    · rw [if_neg (by omega)]
      unfold sgv
      by_cases h3 : b.2 < 0
      · rw [if_pos h3, show sgn b.2 = -1 by unfold sgn; rw [if_pos h3]]; omega
      · rw [if_neg h3]
        by_cases h4 : b.2 = 0
        · rw [h4, sgn_0]; unfold uW; simp
        · rw [show sgn b.2 = 1 by rcases sgn_nz h4 with q | q; exact q; unfold sgn at q; rw [if_neg h3] at q; split at q <;> omega]; omega
    · rw [if_pos h2, n2.2.2.2 h2, sgn_0]; simp
  · rw [if_pos h1]
    have : b.2 = 0 := by rw [hb]; unfold opW; rw [if_neg (by omega), if_pos h1]
    rw [this, sgn_0]; simp
theorem held_ok {ro v s : Int} {d : Nat} (hd : d ≤ 18) : (sgn v * (((uW v s % 10 ^ 18 : Nat) : Int) + rUp ro v s)).tmod (10 ^ d) = (sgv v (rW ro v s % 10 ^ 18)).tmod (10 ^ d) := by
  obtain ⟨u, hu⟩ : ∃ u : Nat, rUp ro v s = (u : Int) := by rcases rUp_01 ro v s with h | h; exact ⟨0, h⟩; exact ⟨1, h⟩
  have hdv : 10 ^ d ∣ 10 ^ 18 := Nat.pow_dvd_pow 10 hd
  have key : (uW v s % 10 ^ 18 + u) % 10 ^ d = (uW v s + u) % 10 ^ 18 % 10 ^ d := by
    rw [Nat.mod_mod_of_dvd _ hdv, Nat.add_mod, Nat.mod_mod_of_dvd _ hdv, ← Nat.add_mod]
  have key2 : (((uW v s % 10 ^ 18 : Nat) : Int) + (u : Int)).tmod (10 ^ d) = (((uW v s + u) % 10 ^ 18 : Nat) : Int).tmod (10 ^ d) := by
    rw [← p10c, ← Int.natCast_add, ← Int.ofNat_tmod, ← Int.ofNat_tmod, key]
  unfold rW sgv
  rw [hu, Int.toNat_natCast]
  by_cases h1 : v < 0
  · rw [if_pos h1, show sgn v = -1 by unfold sgn; rw [if_pos h1], Int.neg_one_mul, Int.neg_tmod, Int.neg_tmod, key2]
  · rw [if_neg h1]
    by_cases h2 : v = 0
    · subst h2
      have u0 : u = 0 := by
        have : rUp ro 0 s = 0 := by unfold rUp; rw [if_pos (by unfold uR; simp)]
        omega
      subst u0
      have w0 : uW 0 s = 0 := by unfold uW; simp
      rw [w0, sgn_0]; simp
    · rw [show sgn v = 1 by rcases sgn_nz h2 with q | q; exact q; unfold sgn at q; rw [if_neg h1] at q; split at q <;> omega, Int.one_mul, key2]

set_option maxHeartbeats 4000000 in
set_option maxRecDepth 100000 in
/-- restOf(target, x) -/
theorem t_AF_restOf (l : Launch) (D : va_G) (cs : Nat → ClassId) (Z : (Nat → Prop) → State → Heap → Prop) (hZo : fm_Zok Z) (tT : Nat) (hZc : ∀ A U H, Z A U H → Zc tT A U H) (μ : fm_Mu) (sz : Nat) (x : Nat) (kn : Nat) (kr : Nat) (b1 : Nat) (b2 : Nat) (b3 : Nat) (n1 : Int) (n2 : Int) (n3 : Int) (k : Nat) (w : Nat) (lf : Nat) (on : Nat) (P : Nat) (G : Int → Int) (r : Nat) (sc : Int) (di : Int) (ro : Int) (he : Int) (re : Int) (fa : Int) (ho : Int) (l1 : Nat) (vb : Int) (F1 : Int → Int) (l2 : Nat) (y : Int) (F2 : Int → Int) (l3 : Nat) (co3 : Int) (sg3 : Int) (tq3 : Int) (ct3 : Int) (F3 : Int → Int) (gx : Nat) (lx : Nat) (xv : Int) (FX : Int → Int) (hP : 1 ≤ P ∧ P ≤ 31) (hsc : 0 ≤ sc ∧ sc ≤ 18) (hvb9 : vb = hV ho sc) (hd1 : dF F1 vb) (hv1 : dB vb) (hd2 : dF F2 y) (hv2 : dB y) (hdx : dF FX xv) (hvx : dB xv) (hb12 : b1 ≠ b2) (hb13 : b1 ≠ b3) (hb23 : b2 ≠ b3) (hl12 : l1 ≠ l2) (hl13 : l1 ≠ l3) (hl23 : l2 ≠ l3) (hx1 : gx ≠ b1) (hx2 : gx ≠ b2) (hx3 : gx ≠ b3) (hy1 : lx ≠ l1) (hy2 : lx ≠ l2) (hy3 : lx ≠ l3) (c_x : μ x = some (oE 0 [.ref k, .ref kn, .int (iN (n1)), .ref kr, .int (iN (n2)), .int (iN (n3)), .ref b1, .ref b2, .ref b3])) (c_k : μ k = some (oE 1 [.int (iN ((P : Int))), .ref w, .ref lf, .ref on])) (c_w : μ w = some (lE cs 30 G)) (c_r : μ r = some (oE 3 [.int (iN (sc)), .int (iN (di)), .int (iN (ro)), .long (jN (he)), .long (jN (re)), .int (iN (fa))])) (c_b1 : μ b1 = some (oE 2 [.int (iN (0)), .int (iN ((sgn vb))), .int (iN ((tp vb))), .int (iN ((nd (cN vb) : Int))), .ref l1])) (c_l1 : μ l1 = some (lE cs 4 F1)) (c_b2 : μ b2 = some (oE 2 [.int (iN (0)), .int (iN ((sgn y))), .int (iN ((tp y))), .int (iN ((nd (cN y) : Int))), .ref l2])) (c_l2 : μ l2 = some (lE cs 4 F2)) (c_b3 : μ b3 = some (oE 2 [.int (iN (co3)), .int (iN (sg3)), .int (iN (tq3)), .int (iN (ct3)), .ref l3])) (c_l3 : μ l3 = some (lE cs 4 F3)) (c_gx : μ gx = some (oE 2 [.int (iN (0)), .int (iN ((sgn xv))), .int (iN ((tp xv))), .int (iN ((nd (cN xv) : Int))), .ref lx])) (c_lx : μ lx = some (lE cs 4 FX)) : Met l y_AF_restOf (Cond.code y_AF_restOf c_AF_restOf 3 (some .long) :: wA) ({ frames := 5, cells := 0, slots := 0, locals := 124 }) (fm_Pc D clsA (tysA cs) Z μ sz [.ref x, .ref r, .ref gx]) (fm_Ql D clsA (tysA cs) μ sz (fun z μ' => z = restS P xv y ho sc ∧ Da cs μ' b2 l2 ∧ Da cs μ' b3 l3 ∧ (∃ G' : Int → Int, μ' w = some (lE cs 30 G')) ∧ fm_O μ μ' [b2, l2, b3, l3, w])) 0 0 (fm_A μ sz) := by
  refine cl_of (by decide +kernel) (Nat.le_of_ble_eq_true rfl) (fun p e s m below meth c S hr hlocks hnm hsz hw hK hZ hA ls hl => ?_)
  subst hsz
  replace S : CallFix p m c c_AF_restOf 3 s _ wA "ArithmeticForms" := S
  obtain ⟨hx, hb, hml, hown, hts⟩ := id S
  have hzc := hZc _ _ _ hZ
  have hO0 : fm_O μ μ [b2, l2, b3, l3, w] := fm_O.rf
  have hl : lv_has ls 3 [(0, .ref x), (1, .ref r), (2, .ref gx)] := hl
  have hty := hv2.t
  have hnd := hv2.1
  refine lv_aload_n hx hb d_AF_restOf_0 rfl (lv_at hl 0 rfl) ?_
  refine fm_get S hK hw c_x i_AF rfl 7 (by decide) (hts _ k119) (fun _ h => h) rfl d_AF_restOf_1 ?_
  refine lv_aload_n hx hb d_AF_restOf_4 rfl (lv_at hl 0 rfl) ?_
  refine fm_get S hK hw c_x i_AF rfl 7 (by decide) (hts _ k119) (fun _ h => h) rfl d_AF_restOf_5 ?_
  refine lv_aload_n hx hb d_AF_restOf_8 rfl (lv_at hl 1 rfl) ?_
  refine fm_get S hK hw c_r i_Re rfl 0 (by decide) (hts _ k281) (fun _ h => h) rfl d_AF_restOf_9 ?_
  refine fm_callSi (va_runV (As := [.int (iN (sc))]) (rest := [.ref b2]) S (t_De_wholeDigits l D cs Z hZo tT hZc μ _ b2 l2 0 (sgn y) (tp y) (nd (cN y) : Int) F2 sc (by omega) c_b2 c_l2) (cwV 1 hts (gV k354 k185 k186 k2 k187) rfl rfl rfl (by decide +kernel) (by decide)) (fm_preV hZo hK hw hZ hA c_b2 rfl _) rfl rfl hl.1 rfl (lv_room (Nat.le_of_ble_eq_true rfl)) d_AF_restOf_12 ⟨Nat.le_of_ble_eq_true rfl, Nat.le_of_ble_eq_true rfl⟩) (fun x2 q1 => ?_)
  have hkp9 : -1000 ≤ x2 ∧ x2 ≤ 1000 := by rw [q1]; split <;> omega
  refine fm_callv (va_runV (As := [.int (iN (x2))]) (rest := []) S (t_De_cut l D cs Z hZo tT hZc μ _ b2 l2 0 (sgn y) (tp y) (nd (cN y) : Int) F2 (mN y) x2 hd2.1 hd2.2 (by omega) c_b2 c_l2) (cwV 1 hts (gV k145 k93 k94 k2 k95) rfl rfl rfl (by decide +kernel) (by decide)) (fm_preV hZo hK hw hZ hA c_b2 rfl _) rfl rfl hl.1 rfl (lv_room (Nat.le_of_ble_eq_true rfl)) d_AF_restOf_15 ⟨Nat.le_of_ble_eq_true rfl, Nat.le_of_ble_eq_true rfl⟩) hw hA (fun μ4 H locs q3 hw => ?_)
  obtain ⟨F5, hq2, hokF5, hLF5, hcase, hO⟩ := q3
  have k_x : μ4 x = some (oE 0 [.ref k, .ref kn, .int (iN (n1)), .ref kr, .int (iN (n2)), .int (iN (n3)), .ref b1, .ref b2, .ref b3]) := hO.at (nmc (fm_kn c_x c_b2 rfl) (nmc (fm_kn c_x c_l2 rfl) nm0)) c_x
  have k_k : μ4 k = some (oE 1 [.int (iN ((P : Int))), .ref w, .ref lf, .ref on]) := hO.at (nmc (fm_kn c_k c_b2 rfl) (nmc (fm_kn c_k c_l2 rfl) nm0)) c_k
  have k_w : μ4 w = some (lE cs 30 G) := hO.at (nmc (fm_kn c_w c_b2 rfl) (nmc (fm_kn c_w c_l2 rfl) nm0)) c_w
  have k_r : μ4 r = some (oE 3 [.int (iN (sc)), .int (iN (di)), .int (iN (ro)), .long (jN (he)), .long (jN (re)), .int (iN (fa))]) := hO.at (nmc (fm_kn c_r c_b2 rfl) (nmc (fm_kn c_r c_l2 rfl) nm0)) c_r
  have k_b1 : μ4 b1 = some (oE 2 [.int (iN (0)), .int (iN ((sgn vb))), .int (iN ((tp vb))), .int (iN ((nd (cN vb) : Int))), .ref l1]) := hO.at (nmc hb12 (nmc (fm_kn c_b1 c_l2 rfl) nm0)) c_b1
  have k_l1 : μ4 l1 = some (lE cs 4 F1) := hO.at (nmc (fm_kn c_l1 c_b2 rfl) (nmc hl12 nm0)) c_l1
  have k_b3 : μ4 b3 = some (oE 2 [.int (iN (co3)), .int (iN (sg3)), .int (iN (tq3)), .int (iN (ct3)), .ref l3]) := hO.at (nmc (Ne.symm hb23) (nmc (fm_kn c_b3 c_l2 rfl) nm0)) c_b3
  have k_l3 : μ4 l3 = some (lE cs 4 F3) := hO.at (nmc (fm_kn c_l3 c_b2 rfl) (nmc (Ne.symm hl23) nm0)) c_l3
  have k_gx : μ4 gx = some (oE 2 [.int (iN (0)), .int (iN ((sgn xv))), .int (iN ((tp xv))), .int (iN ((nd (cN xv) : Int))), .ref lx]) := hO.at (nmc hx2 (nmc (fm_kn c_gx c_l2 rfl) nm0)) c_gx
  have k_lx : μ4 lx = some (lE cs 4 FX) := hO.at (nmc (fm_kn c_lx c_b2 rfl) (nmc hy2 nm0)) c_lx
  have k_l2 : μ4 l2 = some (lE cs 4 F5) := hq2
  have hO0 := hO0.tr1 hO (by simp)
  clear c_x c_k c_w c_r c_b1 c_l1 c_b2 c_l2 c_b3 c_l3 c_gx c_lx
  have c_x := k_x; clear k_x
  have c_k := k_k; clear k_k
  have c_w := k_w; clear k_w
  have c_r := k_r; clear k_r
  have c_b1 := k_b1; clear k_b1
  have c_l1 := k_l1; clear k_l1
  have c_b3 := k_b3; clear k_b3
  have c_l3 := k_l3; clear k_l3
  have c_gx := k_gx; clear k_gx
  have c_lx := k_lx; clear k_lx
  have c_l2 := k_l2; clear k_l2
  clear hq2 hO
  have hDm := tr_ok hv2 (by omega) q1 c_l2 hokF5 hLF5 hcase
  clear c_l2
  obtain ⟨F9, c_b2, c_l2, hdF9, hvF9⟩ := hDm
  refine lv_aload_n hx hb d_AF_restOf_18 rfl (lv_at hl 0 rfl) ?_
  refine fm_get S hK hw c_x i_AF rfl 0 (by decide) (hts _ k112) (fun _ h => h) rfl d_AF_restOf_19 ?_
  refine lv_aload_n hx hb d_AF_restOf_22 rfl (lv_at hl 0 rfl) ?_
  refine fm_get S hK hw c_x i_AF rfl 8 (by decide) (hts _ k120) (fun _ h => h) rfl d_AF_restOf_23 ?_
  refine lv_aload_n hx hb d_AF_restOf_26 rfl (lv_at hl 2 rfl) ?_
  refine lv_aload_n hx hb d_AF_restOf_27 rfl (lv_at hl 0 rfl) ?_
  refine fm_get S hK hw c_x i_AF rfl 7 (by decide) (hts _ k119) (fun _ h => h) rfl d_AF_restOf_28 ?_
  refine fm_callv (va_runV (As := [.ref b3, .ref gx, .ref b2]) (rest := []) S (t_Ca_multiply l D cs Z hZo tT hZc μ4 _ k w lf on P G b3 l3 co3 sg3 tq3 ct3 F3 gx lx 0 xv FX b2 l2 0 (trV y sc) F9  (by omega) (by omega) hdx hvx hdF9 hvF9 hP  c_k c_w c_b3 c_l3 c_gx c_lx c_b2 c_l2) (cwV 3 hts (gV k269 k203 k204 k3 k205) rfl rfl rfl (by decide +kernel) (by decide)) (fm_preV hZo hK hw hZ hA c_k rfl _) rfl rfl hl.1 rfl (lv_room (Nat.le_of_ble_eq_true rfl)) d_AF_restOf_31 ⟨Nat.le_of_ble_eq_true rfl, Nat.le_of_ble_eq_true rfl⟩) hw hA (fun μ7 H locs q6 hw => ?_)
  obtain ⟨⟨F8, hq, hq2, hdF8, hvF8⟩, ⟨G9, hq3⟩, hO⟩ := q6
  have k_x : μ7 x = some (oE 0 [.ref k, .ref kn, .int (iN (n1)), .ref kr, .int (iN (n2)), .int (iN (n3)), .ref b1, .ref b2, .ref b3]) := hO.at (nmc (fm_kn c_x c_b3 rfl) (nmc (fm_kn c_x c_l3 rfl) (nmc (fm_kn c_x c_w rfl) nm0))) c_x
  have k_k : μ7 k = some (oE 1 [.int (iN ((P : Int))), .ref w, .ref lf, .ref on]) := hO.at (nmc (fm_kn c_k c_b3 rfl) (nmc (fm_kn c_k c_l3 rfl) (nmc (fm_kn c_k c_w rfl) nm0))) c_k
  have k_r : μ7 r = some (oE 3 [.int (iN (sc)), .int (iN (di)), .int (iN (ro)), .long (jN (he)), .long (jN (re)), .int (iN (fa))]) := hO.at (nmc (fm_kn c_r c_b3 rfl) (nmc (fm_kn c_r c_l3 rfl) (nmc (fm_kn c_r c_w rfl) nm0))) c_r
  have k_b1 : μ7 b1 = some (oE 2 [.int (iN (0)), .int (iN ((sgn vb))), .int (iN ((tp vb))), .int (iN ((nd (cN vb) : Int))), .ref l1]) := hO.at (nmc hb13 (nmc (fm_kn c_b1 c_l3 rfl) (nmc (fm_kn c_b1 c_w rfl) nm0))) c_b1
  have k_l1 : μ7 l1 = some (lE cs 4 F1) := hO.at (nmc (fm_kn c_l1 c_b3 rfl) (nmc hl13 (nmc (fm_kn c_l1 c_w rfl) nm0))) c_l1
  have k_gx : μ7 gx = some (oE 2 [.int (iN (0)), .int (iN ((sgn xv))), .int (iN ((tp xv))), .int (iN ((nd (cN xv) : Int))), .ref lx]) := hO.at (nmc hx3 (nmc (fm_kn c_gx c_l3 rfl) (nmc (fm_kn c_gx c_w rfl) nm0))) c_gx
  have k_lx : μ7 lx = some (lE cs 4 FX) := hO.at (nmc (fm_kn c_lx c_b3 rfl) (nmc hy3 (nmc (fm_kn c_lx c_w rfl) nm0))) c_lx
  have k_l2 : μ7 l2 = some (lE cs 4 F9) := hO.at (nmc (fm_kn c_l2 c_b3 rfl) (nmc hl23 (nmc (fm_kn c_l2 c_w rfl) nm0))) c_l2
  have k_b2 : μ7 b2 = some (oE 2 [.int (iN (0)), .int (iN ((sgn (trV y sc)))), .int (iN ((tp (trV y sc)))), .int (iN ((nd (cN (trV y sc)) : Int))), .ref l2]) := hO.at (nmc hb23 (nmc (fm_kn c_b2 c_l3 rfl) (nmc (fm_kn c_b2 c_w rfl) nm0))) c_b2
  have k_b3 : μ7 b3 = some (oE 2 [.int (iN ((opW 0 0 (sMul P xv (trV y sc))).1)), .int (iN ((sgn (opW 0 0 (sMul P xv (trV y sc))).2))), .int (iN ((tp (opW 0 0 (sMul P xv (trV y sc))).2))), .int (iN ((nd (cN (opW 0 0 (sMul P xv (trV y sc))).2) : Int))), .ref l3]) := hq
  have k_l3 : μ7 l3 = some (lE cs 4 F8) := hq2
  have k_w : μ7 w = some (lE cs 30 G9) := hq3
  have hO0 := hO0.tr1 hO (by simp)
  clear c_x c_k c_w c_r c_b1 c_l1 c_b3 c_l3 c_gx c_lx c_l2 c_b2
  have c_x := k_x; clear k_x
  have c_k := k_k; clear k_k
  have c_r := k_r; clear k_r
  have c_b1 := k_b1; clear k_b1
  have c_l1 := k_l1; clear k_l1
  have c_gx := k_gx; clear k_gx
  have c_lx := k_lx; clear k_lx
  have c_l2 := k_l2; clear k_l2
  have c_b2 := k_b2; clear k_b2
  have c_b3 := k_b3; clear k_b3
  have c_l3 := k_l3; clear k_l3
  have c_w := k_w; clear k_w
  clear hq hq2 hq3 hO
  obtain ⟨m9, hm9⟩ : ∃ m9 : Int × Int, m9 = opW 0 0 (sMul P xv (trV y sc)) := ⟨_, rfl⟩
  rw [← hm9] at c_b3 hdF8 hvF8
  have hmn : 0 ≤ m9.1 ∧ m9.1 ≤ 2 := by have := sMul_nd (a := xv) (b := trV y sc) hP; rw [hm9, opW_0]; exact ⟨this.1, this.2.1⟩
  refine lv_aload_n hx hb d_AF_restOf_34 rfl (lv_at hl 0 rfl) ?_
  refine fm_get S hK hw c_x i_AF rfl 0 (by decide) (hts _ k112) (fun _ h => h) rfl d_AF_restOf_35 ?_
  refine lv_aload_n hx hb d_AF_restOf_38 rfl (lv_at hl 0 rfl) ?_
  refine fm_get S hK hw c_x i_AF rfl 8 (by decide) (hts _ k120) (fun _ h => h) rfl d_AF_restOf_39 ?_
  refine lv_aload_n hx hb d_AF_restOf_42 rfl (lv_at hl 0 rfl) ?_
  refine fm_get S hK hw c_x i_AF rfl 6 (by decide) (hts _ k118) (fun _ h => h) rfl d_AF_restOf_43 ?_
  refine lv_aload_n hx hb d_AF_restOf_46 rfl (lv_at hl 0 rfl) ?_
  refine fm_get S hK hw c_x i_AF rfl 8 (by decide) (hts _ k120) (fun _ h => h) rfl d_AF_restOf_47 ?_
  refine fm_iconst S d_AF_restOf_50 ?_
  refine fm_callv (va_runV (As := [.ref b3, .ref b1, .ref b3, .int (iN ((-1)))]) (rest := []) S (t_Ca_add l D cs Z hZo tT hZc μ7 _ k w lf on P G9 b3 l3 (m9.1) (sgn m9.2) (tp m9.2) (nd (cN m9.2) : Int) F8 b1 l1 0 vb F1 b3 l3 (m9.1) (m9.2) F8 (-1) (by omega) (by omega) hd1 hv1 hdF8 hvF8 hP (Or.inr rfl) c_k c_w c_b3 c_l3 c_b1 c_l1 c_b3 c_l3) (cwV 4 hts (gV k251 k252 k253 k3 k254) rfl rfl rfl (by decide +kernel) (by decide)) (fm_preV hZo hK hw hZ hA c_k rfl _) rfl rfl hl.1 rfl (lv_room (Nat.le_of_ble_eq_true rfl)) d_AF_restOf_51 ⟨Nat.le_of_ble_eq_true rfl, Nat.le_of_ble_eq_true rfl⟩) hw hA (fun μ11 H locs q10 hw => ?_)
  obtain ⟨⟨F12, hq, hq2, hdF12, hvF12⟩, ⟨G13, hq3⟩, hO⟩ := q10
  have k_x : μ11 x = some (oE 0 [.ref k, .ref kn, .int (iN (n1)), .ref kr, .int (iN (n2)), .int (iN (n3)), .ref b1, .ref b2, .ref b3]) := hO.at (nmc (fm_kn c_x c_b3 rfl) (nmc (fm_kn c_x c_l3 rfl) (nmc (fm_kn c_x c_w rfl) nm0))) c_x
  have k_k : μ11 k = some (oE 1 [.int (iN ((P : Int))), .ref w, .ref lf, .ref on]) := hO.at (nmc (fm_kn c_k c_b3 rfl) (nmc (fm_kn c_k c_l3 rfl) (nmc (fm_kn c_k c_w rfl) nm0))) c_k
  have k_r : μ11 r = some (oE 3 [.int (iN (sc)), .int (iN (di)), .int (iN (ro)), .long (jN (he)), .long (jN (re)), .int (iN (fa))]) := hO.at (nmc (fm_kn c_r c_b3 rfl) (nmc (fm_kn c_r c_l3 rfl) (nmc (fm_kn c_r c_w rfl) nm0))) c_r
  have k_b1 : μ11 b1 = some (oE 2 [.int (iN (0)), .int (iN ((sgn vb))), .int (iN ((tp vb))), .int (iN ((nd (cN vb) : Int))), .ref l1]) := hO.at (nmc hb13 (nmc (fm_kn c_b1 c_l3 rfl) (nmc (fm_kn c_b1 c_w rfl) nm0))) c_b1
  have k_l1 : μ11 l1 = some (lE cs 4 F1) := hO.at (nmc (fm_kn c_l1 c_b3 rfl) (nmc hl13 (nmc (fm_kn c_l1 c_w rfl) nm0))) c_l1
  have k_gx : μ11 gx = some (oE 2 [.int (iN (0)), .int (iN ((sgn xv))), .int (iN ((tp xv))), .int (iN ((nd (cN xv) : Int))), .ref lx]) := hO.at (nmc hx3 (nmc (fm_kn c_gx c_l3 rfl) (nmc (fm_kn c_gx c_w rfl) nm0))) c_gx
  have k_lx : μ11 lx = some (lE cs 4 FX) := hO.at (nmc (fm_kn c_lx c_b3 rfl) (nmc hy3 (nmc (fm_kn c_lx c_w rfl) nm0))) c_lx
  have k_l2 : μ11 l2 = some (lE cs 4 F9) := hO.at (nmc (fm_kn c_l2 c_b3 rfl) (nmc hl23 (nmc (fm_kn c_l2 c_w rfl) nm0))) c_l2
  have k_b2 : μ11 b2 = some (oE 2 [.int (iN (0)), .int (iN ((sgn (trV y sc)))), .int (iN ((tp (trV y sc)))), .int (iN ((nd (cN (trV y sc)) : Int))), .ref l2]) := hO.at (nmc hb23 (nmc (fm_kn c_b2 c_l3 rfl) (nmc (fm_kn c_b2 c_w rfl) nm0))) c_b2
  have k_b3 : μ11 b3 = some (oE 2 [.int (iN ((opW 0 (m9.1) (sAdd P vb ((-1) * (m9.2)))).1)), .int (iN ((sgn (opW 0 (m9.1) (sAdd P vb ((-1) * (m9.2)))).2))), .int (iN ((tp (opW 0 (m9.1) (sAdd P vb ((-1) * (m9.2)))).2))), .int (iN ((nd (cN (opW 0 (m9.1) (sAdd P vb ((-1) * (m9.2)))).2) : Int))), .ref l3]) := hq
  have k_l3 : μ11 l3 = some (lE cs 4 F12) := hq2
  have k_w : μ11 w = some (lE cs 30 G13) := hq3
  have hO0 := hO0.tr1 hO (by simp)
  clear c_x c_k c_r c_b1 c_l1 c_gx c_lx c_l2 c_b2 c_b3 c_l3 c_w
  have c_x := k_x; clear k_x
  have c_k := k_k; clear k_k
  have c_r := k_r; clear k_r
  have c_b1 := k_b1; clear k_b1
  have c_l1 := k_l1; clear k_l1
  have c_gx := k_gx; clear k_gx
  have c_lx := k_lx; clear k_lx
  have c_l2 := k_l2; clear k_l2
  have c_b2 := k_b2; clear k_b2
  have c_b3 := k_b3; clear k_b3
  have c_l3 := k_l3; clear k_l3
  have c_w := k_w; clear k_w
  clear hq hq2 hq3 hO
  obtain ⟨b9, hb9⟩ : ∃ b9 : Int × Int, b9 = opW 0 m9.1 (sAdd P vb (-1 * m9.2)) := ⟨_, rfl⟩
  rw [← hb9] at c_b3 hdF12 hvF12
  have hsb9 := sgn_in b9.2
  refine lv_aload_n hx hb d_AF_restOf_54 rfl (lv_at hl 0 rfl) ?_
  refine fm_get S hK hw c_x i_AF rfl 8 (by decide) (hts _ k120) (fun _ h => h) rfl d_AF_restOf_55 ?_
  refine fm_get S hK hw c_b3 i_De rfl 1 (by decide) (hts _ k38) (fun _ h => h) rfl d_AF_restOf_58 ?_
  refine fm_i2l S (by omega) d_AF_restOf_61 ?_
  refine lv_aload_n hx hb d_AF_restOf_62 rfl (lv_at hl 0 rfl) ?_
  refine fm_get S hK hw c_x i_AF rfl 8 (by decide) (hts _ k120) (fun _ h => h) rfl d_AF_restOf_63 ?_
  refine lv_aload_n hx hb d_AF_restOf_66 rfl (lv_at hl 1 rfl) ?_
  refine fm_get S hK hw c_r i_Re rfl 0 (by decide) (hts _ k281) (fun _ h => h) rfl d_AF_restOf_67 ?_
  refine fm_calll (va_runV (As := [.int (iN (sc))]) (rest := [.long (jN ((sgn b9.2)))]) S (t_De_lowestWhole l D cs Z hZo tT hZc μ11 _ b3 l3 (b9.1) (b9.2) F12 sc hdF12 hvF12 (by omega) c_b3 c_l3) (cwV 1 hts (gV k355 k181 k182 k2 k183) rfl rfl rfl (by decide +kernel) (by decide)) (fm_preV hZo hK hw hZ hA c_b3 rfl _) rfl rfl hl.1 rfl (lv_room (Nat.le_of_ble_eq_true rfl)) d_AF_restOf_70 ⟨Nat.le_of_ble_eq_true rfl, Nat.le_of_ble_eq_true rfl⟩) hw hA (fun x15 μ16 H locs q14 hw => ?_)
  obtain ⟨q14, hmu⟩ := q14
  rw [hmu] at hw
  clear hmu
  refine fm_lmul S d_AF_restOf_73 ?_
  refine fm_lret S hr hlocks hK hw d_AF_restOf_74 ?_
  subst hvb9
  refine ⟨?_, ⟨_, _, _, _, _, c_b2, c_l2⟩, ⟨_, _, _, _, _, c_b3, c_l3⟩, ⟨_, c_w⟩, hO0⟩
  rw [q14]
  exact rest_ok hP hm9 hb9
