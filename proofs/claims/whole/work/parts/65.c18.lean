theorem st_0 {P : Nat} {kind bad0 xv : Int} {q6 : Rec6} (h : stBad P kind q6 bad0 xv = 0) : (stW P kind q6 bad0 xv).1 = 0 ∧ bad0 = 0 := by
  have h1 : (stW P kind q6 bad0 xv).1 = 0 := Classical.byContradiction fun q => by
    unfold stBad at h; rw [if_pos q] at h; exact q h
  refine ⟨h1, Classical.byContradiction fun q => ?_⟩
  unfold stW at h1
  rw [if_pos q] at h1
  exact q h1
theorem st_e {P : Nat} {kind bad0 xv : Int} {q6 : Rec6} : (stErr P kind q6 bad0 xv = 0 ∨ stErr P kind q6 bad0 xv = 1) ∧ (stBad P kind q6 bad0 xv ≠ 0 → stErr P kind q6 bad0 xv = 1) := by
  unfold stErr
  refine ⟨?_, fun h => by rw [if_pos (Or.inl h)]⟩
  split
  · exact Or.inr rfl
  · exact Or.inl rfl

set_option maxHeartbeats 4000000 in
set_option maxRecDepth 100000 in
/-- give, from what fits on -/
theorem K_g97 {p : Program} {l : Launch} {e : Env} {s : State} {m : MethodId} {args : Array Value} {below : List Frame} {meth : Method} {c : Code} {Q : State → Prop} {D : va_G} {cs : Nat → ClassId} {Z : (Nat → Prop) → State → Heap → Prop} {A : Nat → Prop}  (S : CallFix p m c c_AF_give 7 s args wA "ArithmeticForms") (hK : va_K D clsA (tysA cs) s) (hZo : fm_Zok Z) (tT : Nat) (hZc : ∀ A U H, Z A U H → Zc tT A U H) (hZ : Z A s s.heap) (hA : ∀ q, s.heap.size ≤ q → A q) (μ0 : fm_Mu) (x kn kr b1 b2 b3 : Nat) (n1 n2 n3 : Int) (k w lf on P : Nat) (G X : Int → Int) (r : Nat) (q6 : Rec6) (l1 : Nat) (vb : Int) (F1 : Int → Int) (l2 : Nat) (w1 w2 : Int) (F2 : Int → Int) (l3 : Nat) (co3 sg3 tq3 ct3 : Int) (F3 : Int → Int) (gx lx : Nat) (bad0 xv : Int) (FX : Int → Int) (kind ph : Int) (hP : 1 ≤ P ∧ P ≤ 31) (hq6 : rcOk q6) (hvb9 : vb = hV q6.2.2.2.1 q6.2.1) (hd1 : dF F1 vb) (hv1 : dB vb) (hd2 : dF F2 w2) (hv2 : dB w2) (hdx : dF FX xv) (hvx : dB xv) (hW1 : w1 = (stW P kind q6 bad0 xv).1) (hW2 : w2 = (stW P kind q6 bad0 xv).2) (hw12 : 0 ≤ w1 ∧ w1 ≤ 2) (hkd : 0 ≤ kind ∧ kind ≤ 4) (hph : ph = 0 ∨ ph = 1) (hb12 : b1 ≠ b2) (hb13 : b1 ≠ b3) (hb23 : b2 ≠ b3) (hl12 : l1 ≠ l2) (hl13 : l1 ≠ l3) (hl23 : l2 ≠ l3) (hx1 : gx ≠ b1) (hx2 : gx ≠ b2) (hx3 : gx ≠ b3) (hy1 : lx ≠ l1) (hy2 : lx ≠ l2) (hy3 : lx ≠ l3) (bad ft : Int) (hbd : bad = stBad P kind q6 bad0 xv) (hft : ft = 1 - stErr P kind q6 bad0 xv) (hbi : 0 ≤ bad ∧ bad ≤ 3) (hlocks : meth.locks = false) (hr : meth.sig.returnType = some .boolean) (hsz : A = fm_A μ0 s.heap.size) (hQ : Q = MQ below (fm_Qi D clsA (tysA cs) μ0 s.heap.size (fun z μ' => z = 1 - stErr P kind q6 bad0 xv ∧ μ' x = some (oE 0 [.ref k, .ref kn, .int (iN n1), .ref kr, .int (iN n2), .int (iN (stLat P kind q6 bad0 xv n3)), .ref b1, .ref b2, .ref b3]) ∧ μ' r = some (rE (stRec P kind q6 bad0 xv ph)) ∧ (∃ G' : Int → Int, μ' w = some (lE cs 30 G')) ∧ (∃ X' : Int → Int, μ' lf = some (lE cs 5 X')) ∧ Da cs μ' b1 l1 ∧ Da cs μ' b2 l2 ∧ Da cs μ' b3 l3 ∧ fm_O μ0 μ' [x, r, b1, l1, b2, l2, b3, l3, w, lf])) args s 0 0 (fm_A μ0 s.heap.size)) : ∀ (fu : Nat) (μ1 : fm_Mu) (H : Heap) (locs : List Loc) (ls : Array Slot), (0 : Int) < (fu : Int) → (μ1 x = some (oE 0 [.ref k, .ref kn, .int (iN (n1)), .ref kr, .int (iN (n2)), .int (iN (n3)), .ref b1, .ref b2, .ref b3])) → (μ1 k = some (oE 1 [.int (iN ((P : Int))), .ref w, .ref lf, .ref on])) → (μ1 w = some (lE cs 30 G)) → (μ1 lf = some (lE cs 5 X)) → (μ1 r = some (oE 3 [.int (iN (q6.2.1)), .int (iN (q6.1)), .int (iN (q6.2.2.1)), .long (jN (q6.2.2.2.1)), .long (jN (q6.2.2.2.2.1)), .int (iN (q6.2.2.2.2.2))])) → (μ1 b1 = some (oE 2 [.int (iN (0)), .int (iN ((sgn vb))), .int (iN ((tp vb))), .int (iN ((nd (cN vb) : Int))), .ref l1])) → (μ1 l1 = some (lE cs 4 F1)) → (μ1 b2 = some (oE 2 [.int (iN (w1)), .int (iN ((sgn w2))), .int (iN ((tp w2))), .int (iN ((nd (cN w2) : Int))), .ref l2])) → (μ1 l2 = some (lE cs 4 F2)) → (μ1 b3 = some (oE 2 [.int (iN (co3)), .int (iN (sg3)), .int (iN (tq3)), .int (iN (ct3)), .ref l3])) → (μ1 l3 = some (lE cs 4 F3)) → (μ1 gx = some (oE 2 [.int (iN (bad0)), .int (iN ((sgn xv))), .int (iN ((tp xv))), .int (iN ((nd (cN xv) : Int))), .ref lx])) → (μ1 lx = some (lE cs 4 FX)) → fm_O μ0 μ1 [x, r, b1, l1, b2, l2, b3, l3, w, lf] → lv_has ls 7 [(6, .int (iN (ft))), (5, .int (iN (bad))), (0, .ref x), (1, .ref r), (2, .int (iN (kind))), (3, .ref gx), (4, .int (iN (ph)))] → fm_W D clsA A s.heap μ1 H locs → W p l e ({ frames := 6, cells := 0, slots := 0, locals := 148 }) s m args below meth c H locs 0 0 Q (F0 m 97 ls []) := by
  subst hQ
  subst hsz
  obtain ⟨hx, hb, hml, hown, hts⟩ := id S
  have hzc := hZc _ _ _ hZ
  intro fu
  induction fu with
  | zero =>
    intro μ1  H locs ls hn  c_x c_k c_w c_lf c_r c_b1 c_l1 c_b2 c_l2 c_b3 c_l3 c_gx c_lx hO0 hl hw
    exfalso; omega
  | succ fu ih =>
    intro μ1  H locs ls hn  c_x c_k c_w c_lf c_r c_b1 c_l1 c_b2 c_l2 c_b3 c_l3 c_gx c_lx hO0 hl hw
    obtain ⟨hse1, hse2⟩ := st_e (P := P) (kind := kind) (bad0 := bad0) (xv := xv) (q6 := q6)
    rw [← hbd] at hse2
    have hsc : 0 ≤ q6.2.1 := hq6.2.2.1
    have hsd : q6.2.1 ≤ q6.1 := hq6.2.2.2.1
    have hdi1 : 1 ≤ q6.1 := hq6.1
    have hdi2 : q6.1 ≤ 18 := hq6.2.1
    have hro1 : 0 ≤ q6.2.2.1 := hq6.2.2.2.2.1
    have hro2 : q6.2.2.1 ≤ 7 := hq6.2.2.2.2.2.1
    have hsw := sgn_in w2
    have hru := rUp_01 q6.2.2.1 w2 q6.2.1
    have hum := Nat.mod_lt (uW w2 q6.2.1) (p10N 18)
    have h18 : (10 : Nat) ^ 18 = 1000000000000000000 := by decide
    rw [h18] at hum
    rcases (show (ft = 1 ∧ bad = 0) ∨ (ft = 0 ∧ bad = 0) ∨ (ft = 0 ∧ bad ≠ 0) by by_cases hb0 : bad = 0; omega; have := hse2 hb0; omega) with ⟨z1, z2⟩ | ⟨z1, z2⟩ | ⟨z1, z2⟩
    · subst z1
      subst z2
      have hl : lv_has ls 7 [(6, .int (iN (1))), (5, .int (iN (0))), (0, .ref x), (1, .ref r), (2, .int (iN (kind))), (3, .ref gx), (4, .int (iN (ph)))] := hl
      refine lv_aload_n hx hb d_AF_give_97 rfl (lv_at hl 3 rfl) ?_
      refine lv_iload hx hb d_AF_give_98 (lv_at hl 0 rfl) ?_
      refine fm_if_ne (tgt := 107) S (by omega) d_AF_give_100 (by decide) (fun c1 => ?_) (fun c1 => ?_)
      · refine fm_iconst S d_AF_give_107 ?_
        refine fm_put S hK hw c_r i_Re rfl t_Re t_Re_ok n_Re 5 (by decide) (hts _ k286) (fun _ h => h) rfl (ty := .boolean) (by decide +kernel) (by decide) (by decide) (Nat.le_of_ble_eq_true rfl) d_AF_give_108 (fun μ2 H locs hw hq hO => ?_)
        have k_x : μ2 x = some (oE 0 [.ref k, .ref kn, .int (iN (n1)), .ref kr, .int (iN (n2)), .int (iN (n3)), .ref b1, .ref b2, .ref b3]) := hO.at (nmc (fm_kn c_x c_r rfl) nm0) c_x
        have k_k : μ2 k = some (oE 1 [.int (iN ((P : Int))), .ref w, .ref lf, .ref on]) := hO.at (nmc (fm_kn c_k c_r rfl) nm0) c_k
        have k_w : μ2 w = some (lE cs 30 G) := hO.at (nmc (fm_kn c_w c_r rfl) nm0) c_w
        have k_lf : μ2 lf = some (lE cs 5 X) := hO.at (nmc (fm_kn c_lf c_r rfl) nm0) c_lf
        have k_b1 : μ2 b1 = some (oE 2 [.int (iN (0)), .int (iN ((sgn vb))), .int (iN ((tp vb))), .int (iN ((nd (cN vb) : Int))), .ref l1]) := hO.at (nmc (fm_kn c_b1 c_r rfl) nm0) c_b1
        have k_l1 : μ2 l1 = some (lE cs 4 F1) := hO.at (nmc (fm_kn c_l1 c_r rfl) nm0) c_l1
        have k_b2 : μ2 b2 = some (oE 2 [.int (iN (w1)), .int (iN ((sgn w2))), .int (iN ((tp w2))), .int (iN ((nd (cN w2) : Int))), .ref l2]) := hO.at (nmc (fm_kn c_b2 c_r rfl) nm0) c_b2
        have k_l2 : μ2 l2 = some (lE cs 4 F2) := hO.at (nmc (fm_kn c_l2 c_r rfl) nm0) c_l2
        have k_b3 : μ2 b3 = some (oE 2 [.int (iN (co3)), .int (iN (sg3)), .int (iN (tq3)), .int (iN (ct3)), .ref l3]) := hO.at (nmc (fm_kn c_b3 c_r rfl) nm0) c_b3
        have k_l3 : μ2 l3 = some (lE cs 4 F3) := hO.at (nmc (fm_kn c_l3 c_r rfl) nm0) c_l3
        have k_gx : μ2 gx = some (oE 2 [.int (iN (bad0)), .int (iN ((sgn xv))), .int (iN ((tp xv))), .int (iN ((nd (cN xv) : Int))), .ref lx]) := hO.at (nmc (fm_kn c_gx c_r rfl) nm0) c_gx
        have k_lx : μ2 lx = some (lE cs 4 FX) := hO.at (nmc (fm_kn c_lx c_r rfl) nm0) c_lx
        have k_r : μ2 r = some (oE 3 [.int (iN (q6.2.1)), .int (iN (q6.1)), .int (iN (q6.2.2.1)), .long (jN (q6.2.2.2.1)), .long (jN (q6.2.2.2.2.1)), .int (iN (0))]) := hq
        have hO0 := hO0.tr1 hO (by simp)
        clear c_x c_k c_w c_lf c_r c_b1 c_l1 c_b2 c_l2 c_b3 c_l3 c_gx c_lx
        have c_x := k_x; clear k_x
        have c_k := k_k; clear k_k
        have c_w := k_w; clear k_w
        have c_lf := k_lf; clear k_lf
        have c_b1 := k_b1; clear k_b1
        have c_l1 := k_l1; clear k_l1
        have c_b2 := k_b2; clear k_b2
        have c_l2 := k_l2; clear k_l2
        have c_b3 := k_b3; clear k_b3
        have c_l3 := k_l3; clear k_l3
        have c_gx := k_gx; clear k_gx
        have c_lx := k_lx; clear k_lx
        have c_r := k_r; clear k_r
        clear hq hO
        refine lv_iload hx hb d_AF_give_111 (lv_at hl 0 rfl) ?_
        refine fm_if_ne (tgt := 131) S (by omega) d_AF_give_113 (by decide) (fun c3 => ?_) (fun c3 => ?_)
        · refine lv_iload hx hb d_AF_give_131 (lv_at hl 0 rfl) ?_
          refine fm_if_ne (tgt := 146) S (by omega) d_AF_give_133 (by decide) (fun c4 => ?_) (fun c4 => ?_)
          · refine lv_aload_n hx hb d_AF_give_146 rfl (lv_at hl 3 rfl) ?_
            refine lv_aload_n hx hb d_AF_give_147 rfl (lv_at hl 3 rfl) ?_
            refine lv_aload_n hx hb d_AF_give_148 rfl (lv_at hl 2 rfl) ?_
            refine fm_get S hK hw c_x i_AF rfl 7 (by decide) (hts _ k119) (fun _ h => h) rfl d_AF_give_149 ?_
            refine fm_get S hK hw c_b2 i_De rfl 1 (by decide) (hts _ k38) (fun _ h => h) rfl d_AF_give_152 ?_
            refine fm_i2l S (by omega) d_AF_give_155 ?_
            refine lv_aload_n hx hb d_AF_give_156 rfl (lv_at hl 3 rfl) ?_
            refine lv_aload_n hx hb d_AF_give_157 rfl (lv_at hl 2 rfl) ?_
            refine fm_get S hK hw c_x i_AF rfl 7 (by decide) (hts _ k119) (fun _ h => h) rfl d_AF_give_158 ?_
            refine fm_calll (va_runV (As := [.ref b2]) (rest := [.long (jN ((sgn w2))), .ref r, .ref r]) S (t_Re_roundedSize l D cs Z hZo tT hZc μ2 _ r (q6.2.1) (q6.1) (q6.2.2.1) (q6.2.2.2.1) (q6.2.2.2.2.1) 0 b2 l2 w1 w2 F2 hd2 hv2 (by omega) (by omega) c_r c_b2 c_l2) (cwV 1 hts (gV k345 k326 k327 k10 k328) rfl rfl rfl (by decide +kernel) (by decide)) (fm_preV hZo hK hw hZ hA c_r rfl _) rfl rfl hl.1 rfl (lv_room (Nat.le_of_ble_eq_true rfl)) d_AF_give_161 ⟨Nat.le_of_ble_eq_true rfl, Nat.le_of_ble_eq_true rfl⟩) hw hA (fun x6 μ7 H locs q5 hw => ?_)
            obtain ⟨q5, hmu⟩ := q5
            rw [hmu] at hw
            clear hmu
            refine fm_lmul S d_AF_give_164 ?_
            have hzb : -1000000000000000000 ≤ sgn w2 * x6 ∧ sgn w2 * x6 ≤ 1000000000000000000 := by
              rw [q5, h18]
              rcases (show sgn w2 = -1 ∨ sgn w2 = 0 ∨ sgn w2 = 1 by omega) with q | q | q <;> rw [q] <;> omega
            refine fm_callSl (va_runV (As := [.long (jN (((sgn w2) * x6)))]) (rest := [.ref r]) S (t_Re_lowestDigits l D cs Z hZo tT hZc μ2 _ r (q6.2.1) (q6.1) (q6.2.2.1) (q6.2.2.2.1) (q6.2.2.2.2.1) 0 ((sgn w2) * x6) (by omega) (by omega) c_r) (cwV 1 hts (gV k346 k347 k348 k10 k349) rfl rfl rfl (by decide +kernel) (by decide)) (fm_preV hZo hK hw hZ hA c_r rfl _) rfl rfl hl.1 rfl (lv_room (Nat.le_of_ble_eq_true rfl)) d_AF_give_165 ⟨Nat.le_of_ble_eq_true rfl, Nat.le_of_ble_eq_true rfl⟩) (fun x9 q8 => ?_)
            refine fm_put S hK hw c_r i_Re rfl t_Re t_Re_ok n_Re 3 (by decide) (hts _ k284) (fun _ h => h) rfl (ty := .long) (by decide +kernel) rfl rfl (Nat.le_of_ble_eq_true rfl) d_AF_give_168 (fun μ10 H locs hw hq hO => ?_)
            have k_x : μ10 x = some (oE 0 [.ref k, .ref kn, .int (iN (n1)), .ref kr, .int (iN (n2)), .int (iN (n3)), .ref b1, .ref b2, .ref b3]) := hO.at (nmc (fm_kn c_x c_r rfl) nm0) c_x
            have k_k : μ10 k = some (oE 1 [.int (iN ((P : Int))), .ref w, .ref lf, .ref on]) := hO.at (nmc (fm_kn c_k c_r rfl) nm0) c_k
            have k_w : μ10 w = some (lE cs 30 G) := hO.at (nmc (fm_kn c_w c_r rfl) nm0) c_w
            have k_lf : μ10 lf = some (lE cs 5 X) := hO.at (nmc (fm_kn c_lf c_r rfl) nm0) c_lf
            have k_b1 : μ10 b1 = some (oE 2 [.int (iN (0)), .int (iN ((sgn vb))), .int (iN ((tp vb))), .int (iN ((nd (cN vb) : Int))), .ref l1]) := hO.at (nmc (fm_kn c_b1 c_r rfl) nm0) c_b1
            have k_l1 : μ10 l1 = some (lE cs 4 F1) := hO.at (nmc (fm_kn c_l1 c_r rfl) nm0) c_l1
            have k_b2 : μ10 b2 = some (oE 2 [.int (iN (w1)), .int (iN ((sgn w2))), .int (iN ((tp w2))), .int (iN ((nd (cN w2) : Int))), .ref l2]) := hO.at (nmc (fm_kn c_b2 c_r rfl) nm0) c_b2
            have k_l2 : μ10 l2 = some (lE cs 4 F2) := hO.at (nmc (fm_kn c_l2 c_r rfl) nm0) c_l2
            have k_b3 : μ10 b3 = some (oE 2 [.int (iN (co3)), .int (iN (sg3)), .int (iN (tq3)), .int (iN (ct3)), .ref l3]) := hO.at (nmc (fm_kn c_b3 c_r rfl) nm0) c_b3
            have k_l3 : μ10 l3 = some (lE cs 4 F3) := hO.at (nmc (fm_kn c_l3 c_r rfl) nm0) c_l3
            have k_gx : μ10 gx = some (oE 2 [.int (iN (bad0)), .int (iN ((sgn xv))), .int (iN ((tp xv))), .int (iN ((nd (cN xv) : Int))), .ref lx]) := hO.at (nmc (fm_kn c_gx c_r rfl) nm0) c_gx
            have k_lx : μ10 lx = some (lE cs 4 FX) := hO.at (nmc (fm_kn c_lx c_r rfl) nm0) c_lx
            have k_r : μ10 r = some (oE 3 [.int (iN (q6.2.1)), .int (iN (q6.1)), .int (iN (q6.2.2.1)), .long (jN (x9)), .long (jN (q6.2.2.2.2.1)), .int (iN (0))]) := hq
            have hO0 := hO0.tr1 hO (by simp)
            clear c_x c_k c_w c_lf c_b1 c_l1 c_b2 c_l2 c_b3 c_l3 c_gx c_lx c_r
            have c_x := k_x; clear k_x
            have c_k := k_k; clear k_k
            have c_w := k_w; clear k_w
            have c_lf := k_lf; clear k_lf
            have c_b1 := k_b1; clear k_b1
            have c_l1 := k_l1; clear k_l1
            have c_b2 := k_b2; clear k_b2
            have c_l2 := k_l2; clear k_l2
            have c_b3 := k_b3; clear k_b3
            have c_l3 := k_l3; clear k_l3
            have c_gx := k_gx; clear k_gx
            have c_lx := k_lx; clear k_lx
            have c_r := k_r; clear k_r
            clear hq hO
            refine lv_iload_n hx hb d_AF_give_171 rfl (lv_at hl 4 rfl) ?_
            refine fm_iconst S d_AF_give_172 ?_
            refine fm_icmp_ne (tgt := 195) S (by omega) (by omega) d_AF_give_173 (by decide) (fun c11 => ?_) (fun c11 => ?_)
            · refine lv_iload hx hb d_AF_give_195 (lv_at hl 0 rfl) ?_
              refine fm_zret S hr hlocks hK hw (by omega) d_AF_give_197 ?_
              have hsE : stErr P kind q6 bad0 xv = 0 := by omega
              have hrec : ((q6.1, q6.2.1, q6.2.2.1, x9, q6.2.2.2.2.1, 0) : Rec6) = stRec P kind q6 bad0 xv ph := by
                unfold stRec
                rw [hsE, ← hbd]
                rw [if_pos (by omega)]
                rw [← hW2, ← held_ok (ro := q6.2.2.1) (v := w2) (s := q6.2.1) (d := q6.1.toNat) (by omega), q8, q5]
                rw [if_neg (by omega)]
              have hlat : n3 = stLat P kind q6 bad0 xv n3 := by
                unfold stLat
                rw [hsE, ← hbd]
                rw [if_neg (by decide)]
              refine ⟨by omega, ?_, ?_, ⟨_, c_w⟩, ⟨_, c_lf⟩, ⟨_, _, _, _, _, c_b1, c_l1⟩, ⟨_, _, _, _, _, c_b2, c_l2⟩, ⟨_, _, _, _, _, c_b3, c_l3⟩, hO0⟩
              · rw [← hlat]; exact c_x
              · rw [← hrec]; exact c_r
            · refine lv_aload_n hx hb d_AF_give_176 rfl (lv_at hl 3 rfl) ?_
              refine lv_iload hx hb d_AF_give_177 (lv_at hl 0 rfl) ?_
              refine fm_if_eq (tgt := 191) S (by omega) d_AF_give_179 (by decide) (fun c12 => ?_) (fun c12 => ?_)
              · exact absurd c12 (by decide)
              · obtain ⟨hw10, hb00⟩ := st_0 hbd.symm
                rw [← hW1] at hw10
                rw [hw10] at c_b2
                rw [hb00] at c_gx
                refine lv_aload_n hx hb d_AF_give_182 rfl (lv_at hl 2 rfl) ?_
                refine lv_aload_n hx hb d_AF_give_183 rfl (lv_at hl 3 rfl) ?_
                refine lv_aload_n hx hb d_AF_give_184 rfl (lv_at hl 5 rfl) ?_
                refine fm_calll (va_runV (As := [.ref r, .ref gx]) (rest := [.ref r]) S (t_AF_restOf l D cs Z hZo tT hZc μ10 _ x kn kr b1 b2 b3 n1 n2 n3 k w lf on P G r (q6.2.1) (q6.1) (q6.2.2.1) x9 (q6.2.2.2.2.1) 0 q6.2.2.2.1 l1 vb F1 l2 w2 F2 l3 co3 sg3 tq3 ct3 F3 gx lx xv FX hP (by omega) (hvb9) hd1 hv1 hd2 hv2 hdx hvx hb12 hb13 hb23 hl12 hl13 hl23 hx1 hx2 hx3 hy1 hy2 hy3 c_x c_k c_w c_r c_b1 c_l1 c_b2 c_l2 c_b3 c_l3 c_gx c_lx ) (cwV 2 hts (gV k350 k352 ks17 k1 k353) rfl rfl rfl (by decide +kernel) (by decide)) (fm_preV hZo hK hw hZ hA c_x rfl _) rfl rfl hl.1 rfl (lv_room (Nat.le_of_ble_eq_true rfl)) d_AF_give_185 ⟨Nat.le_of_ble_eq_true rfl, Nat.le_of_ble_eq_true rfl⟩) hw hA (fun x14 μ15 H locs q13 hw => ?_)
                obtain ⟨hzx14, ⟨u17, u18, u19, u20, u21, hq2, hq3⟩, ⟨u22, u23, u24, u25, u26, hq4, hq5⟩, ⟨G16, hq6⟩, hO⟩ := q13
                have k_x : μ15 x = some (oE 0 [.ref k, .ref kn, .int (iN (n1)), .ref kr, .int (iN (n2)), .int (iN (n3)), .ref b1, .ref b2, .ref b3]) := hO.at (nmc (fm_kn c_x c_b2 rfl) (nmc (fm_kn c_x c_l2 rfl) (nmc (fm_kn c_x c_b3 rfl) (nmc (fm_kn c_x c_l3 rfl) (nmc (fm_kn c_x c_w rfl) nm0))))) c_x
                have k_k : μ15 k = some (oE 1 [.int (iN ((P : Int))), .ref w, .ref lf, .ref on]) := hO.at (nmc (fm_kn c_k c_b2 rfl) (nmc (fm_kn c_k c_l2 rfl) (nmc (fm_kn c_k c_b3 rfl) (nmc (fm_kn c_k c_l3 rfl) (nmc (fm_kn c_k c_w rfl) nm0))))) c_k
                have k_lf : μ15 lf = some (lE cs 5 X) := hO.at (nmc (fm_kn c_lf c_b2 rfl) (nmc (fm_kn c_lf c_l2 rfl) (nmc (fm_kn c_lf c_b3 rfl) (nmc (fm_kn c_lf c_l3 rfl) (nmc (fm_kn c_lf c_w rfl) nm0))))) c_lf
                have k_b1 : μ15 b1 = some (oE 2 [.int (iN (0)), .int (iN ((sgn vb))), .int (iN ((tp vb))), .int (iN ((nd (cN vb) : Int))), .ref l1]) := hO.at (nmc hb12 (nmc (fm_kn c_b1 c_l2 rfl) (nmc hb13 (nmc (fm_kn c_b1 c_l3 rfl) (nmc (fm_kn c_b1 c_w rfl) nm0))))) c_b1
                have k_l1 : μ15 l1 = some (lE cs 4 F1) := hO.at (nmc (fm_kn c_l1 c_b2 rfl) (nmc hl12 (nmc (fm_kn c_l1 c_b3 rfl) (nmc hl13 (nmc (fm_kn c_l1 c_w rfl) nm0))))) c_l1
                have k_gx : μ15 gx = some (oE 2 [.int (iN (0)), .int (iN ((sgn xv))), .int (iN ((tp xv))), .int (iN ((nd (cN xv) : Int))), .ref lx]) := hO.at (nmc hx2 (nmc (fm_kn c_gx c_l2 rfl) (nmc hx3 (nmc (fm_kn c_gx c_l3 rfl) (nmc (fm_kn c_gx c_w rfl) nm0))))) c_gx
                have k_lx : μ15 lx = some (lE cs 4 FX) := hO.at (nmc (fm_kn c_lx c_b2 rfl) (nmc hy2 (nmc (fm_kn c_lx c_b3 rfl) (nmc hy3 (nmc (fm_kn c_lx c_w rfl) nm0))))) c_lx
                have k_r : μ15 r = some (oE 3 [.int (iN (q6.2.1)), .int (iN (q6.1)), .int (iN (q6.2.2.1)), .long (jN (x9)), .long (jN (q6.2.2.2.2.1)), .int (iN (0))]) := hO.at (nmc (fm_kn c_r c_b2 rfl) (nmc (fm_kn c_r c_l2 rfl) (nmc (fm_kn c_r c_b3 rfl) (nmc (fm_kn c_r c_l3 rfl) (nmc (fm_kn c_r c_w rfl) nm0))))) c_r
                have k_b2 : μ15 b2 = some (oE 2 [.int (iN (u17)), .int (iN (u18)), .int (iN (u19)), .int (iN (u20)), .ref l2]) := hq2
                have k_l2 : μ15 l2 = some (lE cs 4 u21) := hq3
                have k_b3 : μ15 b3 = some (oE 2 [.int (iN (u22)), .int (iN (u23)), .int (iN (u24)), .int (iN (u25)), .ref l3]) := hq4
                have k_l3 : μ15 l3 = some (lE cs 4 u26) := hq5
                have k_w : μ15 w = some (lE cs 30 G16) := hq6
                have hO0 := hO0.tr1 hO (by simp)
                clear c_x c_k c_w c_lf c_b1 c_l1 c_b2 c_l2 c_b3 c_l3 c_gx c_lx c_r
                have c_x := k_x; clear k_x
                have c_k := k_k; clear k_k
                have c_lf := k_lf; clear k_lf
                have c_b1 := k_b1; clear k_b1
                have c_l1 := k_l1; clear k_l1
                have c_gx := k_gx; clear k_gx
                have c_lx := k_lx; clear k_lx
                have c_r := k_r; clear k_r
                have c_b2 := k_b2; clear k_b2
                have c_l2 := k_l2; clear k_l2
                have c_b3 := k_b3; clear k_b3
                have c_l3 := k_l3; clear k_l3
                have c_w := k_w; clear k_w
                clear hq2 hq3 hq4 hq5 hq6 hO
                refine lv_goto (tgt := 192) hx hb d_AF_give_188 (by decide) ?_
                refine fm_put S hK hw c_r i_Re rfl t_Re t_Re_ok n_Re 4 (by decide) (hts _ k285) (fun _ h => h) rfl (ty := .long) (by decide +kernel) rfl rfl (Nat.le_of_ble_eq_true rfl) d_AF_give_192 (fun μ27 H locs hw hq hO => ?_)
                have k_x : μ27 x = some (oE 0 [.ref k, .ref kn, .int (iN (n1)), .ref kr, .int (iN (n2)), .int (iN (n3)), .ref b1, .ref b2, .ref b3]) := hO.at (nmc (fm_kn c_x c_r rfl) nm0) c_x
                have k_k : μ27 k = some (oE 1 [.int (iN ((P : Int))), .ref w, .ref lf, .ref on]) := hO.at (nmc (fm_kn c_k c_r rfl) nm0) c_k
                have k_lf : μ27 lf = some (lE cs 5 X) := hO.at (nmc (fm_kn c_lf c_r rfl) nm0) c_lf
                have k_b1 : μ27 b1 = some (oE 2 [.int (iN (0)), .int (iN ((sgn vb))), .int (iN ((tp vb))), .int (iN ((nd (cN vb) : Int))), .ref l1]) := hO.at (nmc (fm_kn c_b1 c_r rfl) nm0) c_b1
                have k_l1 : μ27 l1 = some (lE cs 4 F1) := hO.at (nmc (fm_kn c_l1 c_r rfl) nm0) c_l1
                have k_gx : μ27 gx = some (oE 2 [.int (iN (0)), .int (iN ((sgn xv))), .int (iN ((tp xv))), .int (iN ((nd (cN xv) : Int))), .ref lx]) := hO.at (nmc (fm_kn c_gx c_r rfl) nm0) c_gx
                have k_lx : μ27 lx = some (lE cs 4 FX) := hO.at (nmc (fm_kn c_lx c_r rfl) nm0) c_lx
                have k_b2 : μ27 b2 = some (oE 2 [.int (iN (u17)), .int (iN (u18)), .int (iN (u19)), .int (iN (u20)), .ref l2]) := hO.at (nmc (fm_kn c_b2 c_r rfl) nm0) c_b2
                have k_l2 : μ27 l2 = some (lE cs 4 u21) := hO.at (nmc (fm_kn c_l2 c_r rfl) nm0) c_l2
                have k_b3 : μ27 b3 = some (oE 2 [.int (iN (u22)), .int (iN (u23)), .int (iN (u24)), .int (iN (u25)), .ref l3]) := hO.at (nmc (fm_kn c_b3 c_r rfl) nm0) c_b3
                have k_l3 : μ27 l3 = some (lE cs 4 u26) := hO.at (nmc (fm_kn c_l3 c_r rfl) nm0) c_l3
                have k_w : μ27 w = some (lE cs 30 G16) := hO.at (nmc (fm_kn c_w c_r rfl) nm0) c_w
                have k_r : μ27 r = some (oE 3 [.int (iN (q6.2.1)), .int (iN (q6.1)), .int (iN (q6.2.2.1)), .long (jN (x9)), .long (jN (x14)), .int (iN (0))]) := hq
                have hO0 := hO0.tr1 hO (by simp)
                clear c_x c_k c_lf c_b1 c_l1 c_gx c_lx c_r c_b2 c_l2 c_b3 c_l3 c_w
                have c_x := k_x; clear k_x
                have c_k := k_k; clear k_k
                have c_lf := k_lf; clear k_lf
                have c_b1 := k_b1; clear k_b1
                have c_l1 := k_l1; clear k_l1
                have c_gx := k_gx; clear k_gx
                have c_lx := k_lx; clear k_lx
                have c_b2 := k_b2; clear k_b2
                have c_l2 := k_l2; clear k_l2
                have c_b3 := k_b3; clear k_b3
                have c_l3 := k_l3; clear k_l3
                have c_w := k_w; clear k_w
                have c_r := k_r; clear k_r
                clear hq hO
                refine lv_iload hx hb d_AF_give_195 (lv_at hl 0 rfl) ?_
                refine fm_zret S hr hlocks hK hw (by omega) d_AF_give_197 ?_
                have hsE : stErr P kind q6 bad0 xv = 0 := by omega
                have hrec : ((q6.1, q6.2.1, q6.2.2.1, x9, x14, 0) : Rec6) = stRec P kind q6 bad0 xv ph := by
                  unfold stRec
                  rw [hsE, ← hbd]
                  rw [if_pos (by omega)]
                  rw [← hW2, ← held_ok (ro := q6.2.2.1) (v := w2) (s := q6.2.1) (d := q6.1.toNat) (by omega), q8, q5]
                  rw [if_pos (by omega)]
                  rw [if_neg (by decide), hzx14, hW2]
                have hlat : n3 = stLat P kind q6 bad0 xv n3 := by
                  unfold stLat
                  rw [hsE, ← hbd]
                  rw [if_neg (by decide)]
                refine ⟨by omega, ?_, ?_, ⟨_, c_w⟩, ⟨_, c_lf⟩, ⟨_, _, _, _, _, c_b1, c_l1⟩, ⟨_, _, _, _, _, c_b2, c_l2⟩, ⟨_, _, _, _, _, c_b3, c_l3⟩, hO0⟩
                · rw [← hlat]; exact c_x
                · rw [← hrec]; exact c_r
          · exact absurd c4 (by decide)
        · exact absurd c3 (by decide)
      · exact absurd c1 (by decide)
    · subst z1
      subst z2
      have hl : lv_has ls 7 [(6, .int (iN (0))), (5, .int (iN (0))), (0, .ref x), (1, .ref r), (2, .int (iN (kind))), (3, .ref gx), (4, .int (iN (ph)))] := hl
      refine lv_aload_n hx hb d_AF_give_97 rfl (lv_at hl 3 rfl) ?_
      refine lv_iload hx hb d_AF_give_98 (lv_at hl 0 rfl) ?_
      refine fm_if_ne (tgt := 107) S (by omega) d_AF_give_100 (by decide) (fun c28 => ?_) (fun c28 => ?_)
      · exact absurd c28 (by decide)
      · refine fm_iconst S d_AF_give_103 ?_
        refine lv_goto (tgt := 108) hx hb d_AF_give_104 (by decide) ?_
        refine fm_put S hK hw c_r i_Re rfl t_Re t_Re_ok n_Re 5 (by decide) (hts _ k286) (fun _ h => h) rfl (ty := .boolean) (by decide +kernel) (by decide) (by decide) (Nat.le_of_ble_eq_true rfl) d_AF_give_108 (fun μ29 H locs hw hq hO => ?_)
        have k_x : μ29 x = some (oE 0 [.ref k, .ref kn, .int (iN (n1)), .ref kr, .int (iN (n2)), .int (iN (n3)), .ref b1, .ref b2, .ref b3]) := hO.at (nmc (fm_kn c_x c_r rfl) nm0) c_x
        have k_k : μ29 k = some (oE 1 [.int (iN ((P : Int))), .ref w, .ref lf, .ref on]) := hO.at (nmc (fm_kn c_k c_r rfl) nm0) c_k
        have k_w : μ29 w = some (lE cs 30 G) := hO.at (nmc (fm_kn c_w c_r rfl) nm0) c_w
        have k_lf : μ29 lf = some (lE cs 5 X) := hO.at (nmc (fm_kn c_lf c_r rfl) nm0) c_lf
        have k_b1 : μ29 b1 = some (oE 2 [.int (iN (0)), .int (iN ((sgn vb))), .int (iN ((tp vb))), .int (iN ((nd (cN vb) : Int))), .ref l1]) := hO.at (nmc (fm_kn c_b1 c_r rfl) nm0) c_b1
        have k_l1 : μ29 l1 = some (lE cs 4 F1) := hO.at (nmc (fm_kn c_l1 c_r rfl) nm0) c_l1
        have k_b2 : μ29 b2 = some (oE 2 [.int (iN (w1)), .int (iN ((sgn w2))), .int (iN ((tp w2))), .int (iN ((nd (cN w2) : Int))), .ref l2]) := hO.at (nmc (fm_kn c_b2 c_r rfl) nm0) c_b2
        have k_l2 : μ29 l2 = some (lE cs 4 F2) := hO.at (nmc (fm_kn c_l2 c_r rfl) nm0) c_l2
        have k_b3 : μ29 b3 = some (oE 2 [.int (iN (co3)), .int (iN (sg3)), .int (iN (tq3)), .int (iN (ct3)), .ref l3]) := hO.at (nmc (fm_kn c_b3 c_r rfl) nm0) c_b3
        have k_l3 : μ29 l3 = some (lE cs 4 F3) := hO.at (nmc (fm_kn c_l3 c_r rfl) nm0) c_l3
        have k_gx : μ29 gx = some (oE 2 [.int (iN (bad0)), .int (iN ((sgn xv))), .int (iN ((tp xv))), .int (iN ((nd (cN xv) : Int))), .ref lx]) := hO.at (nmc (fm_kn c_gx c_r rfl) nm0) c_gx
        have k_lx : μ29 lx = some (lE cs 4 FX) := hO.at (nmc (fm_kn c_lx c_r rfl) nm0) c_lx
        have k_r : μ29 r = some (oE 3 [.int (iN (q6.2.1)), .int (iN (q6.1)), .int (iN (q6.2.2.1)), .long (jN (q6.2.2.2.1)), .long (jN (q6.2.2.2.2.1)), .int (iN (1))]) := hq
        have hO0 := hO0.tr1 hO (by simp)
        clear c_x c_k c_w c_lf c_r c_b1 c_l1 c_b2 c_l2 c_b3 c_l3 c_gx c_lx
        have c_x := k_x; clear k_x
        have c_k := k_k; clear k_k
        have c_w := k_w; clear k_w
        have c_lf := k_lf; clear k_lf
        have c_b1 := k_b1; clear k_b1
        have c_l1 := k_l1; clear k_l1
        have c_b2 := k_b2; clear k_b2
        have c_l2 := k_l2; clear k_l2
        have c_b3 := k_b3; clear k_b3
        have c_l3 := k_l3; clear k_l3
        have c_gx := k_gx; clear k_gx
        have c_lx := k_lx; clear k_lx
        have c_r := k_r; clear k_r
        clear hq hO
        refine lv_iload hx hb d_AF_give_111 (lv_at hl 0 rfl) ?_
        refine fm_if_ne (tgt := 131) S (by omega) d_AF_give_113 (by decide) (fun c30 => ?_) (fun c30 => ?_)
        · exact absurd c30 (by decide)
        · refine lv_aload_n hx hb d_AF_give_116 rfl (lv_at hl 2 rfl) ?_
          refine lv_iload hx hb d_AF_give_117 (lv_at hl 1 rfl) ?_
          refine fm_if_ne (tgt := 126) S (by omega) d_AF_give_119 (by decide) (fun c31 => ?_) (fun c31 => ?_)
          · exact absurd c31 (by decide)
          · refine fm_iconst S d_AF_give_122 ?_
            refine lv_goto (tgt := 128) hx hb d_AF_give_123 (by decide) ?_
            refine fm_put S hK hw c_x i_AF rfl t_AF t_AF_ok n_AF 5 (by decide) (hts _ k117) (fun _ h => h) rfl (ty := .int) (by decide +kernel) rfl rfl (Nat.le_of_ble_eq_true rfl) d_AF_give_128 (fun μ32 H locs hw hq hO => ?_)
            have k_k : μ32 k = some (oE 1 [.int (iN ((P : Int))), .ref w, .ref lf, .ref on]) := hO.at (nmc (fm_kn c_k c_x rfl) nm0) c_k
            have k_w : μ32 w = some (lE cs 30 G) := hO.at (nmc (fm_kn c_w c_x rfl) nm0) c_w
            have k_lf : μ32 lf = some (lE cs 5 X) := hO.at (nmc (fm_kn c_lf c_x rfl) nm0) c_lf
            have k_b1 : μ32 b1 = some (oE 2 [.int (iN (0)), .int (iN ((sgn vb))), .int (iN ((tp vb))), .int (iN ((nd (cN vb) : Int))), .ref l1]) := hO.at (nmc (fm_kn c_b1 c_x rfl) nm0) c_b1
            have k_l1 : μ32 l1 = some (lE cs 4 F1) := hO.at (nmc (fm_kn c_l1 c_x rfl) nm0) c_l1
            have k_b2 : μ32 b2 = some (oE 2 [.int (iN (w1)), .int (iN ((sgn w2))), .int (iN ((tp w2))), .int (iN ((nd (cN w2) : Int))), .ref l2]) := hO.at (nmc (fm_kn c_b2 c_x rfl) nm0) c_b2
            have k_l2 : μ32 l2 = some (lE cs 4 F2) := hO.at (nmc (fm_kn c_l2 c_x rfl) nm0) c_l2
            have k_b3 : μ32 b3 = some (oE 2 [.int (iN (co3)), .int (iN (sg3)), .int (iN (tq3)), .int (iN (ct3)), .ref l3]) := hO.at (nmc (fm_kn c_b3 c_x rfl) nm0) c_b3
            have k_l3 : μ32 l3 = some (lE cs 4 F3) := hO.at (nmc (fm_kn c_l3 c_x rfl) nm0) c_l3
            have k_gx : μ32 gx = some (oE 2 [.int (iN (bad0)), .int (iN ((sgn xv))), .int (iN ((tp xv))), .int (iN ((nd (cN xv) : Int))), .ref lx]) := hO.at (nmc (fm_kn c_gx c_x rfl) nm0) c_gx
            have k_lx : μ32 lx = some (lE cs 4 FX) := hO.at (nmc (fm_kn c_lx c_x rfl) nm0) c_lx
            have k_r : μ32 r = some (oE 3 [.int (iN (q6.2.1)), .int (iN (q6.1)), .int (iN (q6.2.2.1)), .long (jN (q6.2.2.2.1)), .long (jN (q6.2.2.2.2.1)), .int (iN (1))]) := hO.at (nmc (fm_kn c_r c_x rfl) nm0) c_r
            have k_x : μ32 x = some (oE 0 [.ref k, .ref kn, .int (iN (n1)), .ref kr, .int (iN (n2)), .int (iN (1)), .ref b1, .ref b2, .ref b3]) := hq
            have hO0 := hO0.tr1 hO (by simp)
            clear c_x c_k c_w c_lf c_b1 c_l1 c_b2 c_l2 c_b3 c_l3 c_gx c_lx c_r
            have c_k := k_k; clear k_k
            have c_w := k_w; clear k_w
            have c_lf := k_lf; clear k_lf
            have c_b1 := k_b1; clear k_b1
            have c_l1 := k_l1; clear k_l1
            have c_b2 := k_b2; clear k_b2
            have c_l2 := k_l2; clear k_l2
            have c_b3 := k_b3; clear k_b3
            have c_l3 := k_l3; clear k_l3
            have c_gx := k_gx; clear k_gx
            have c_lx := k_lx; clear k_lx
            have c_r := k_r; clear k_r
            have c_x := k_x; clear k_x
            clear hq hO
            refine lv_iload hx hb d_AF_give_131 (lv_at hl 0 rfl) ?_
            refine fm_if_ne (tgt := 146) S (by omega) d_AF_give_133 (by decide) (fun c33 => ?_) (fun c33 => ?_)
            · exact absurd c33 (by decide)
            · refine lv_iload hx hb d_AF_give_136 (lv_at hl 1 rfl) ?_
              refine fm_if_ne (tgt := 171) S (by omega) d_AF_give_138 (by decide) (fun c34 => ?_) (fun c34 => ?_)
              · exact absurd c34 (by decide)
              · refine lv_iload hx hb d_AF_give_141 (lv_at hl 6 rfl) ?_
                refine fm_if_ne (tgt := 171) S (by omega) d_AF_give_143 (by decide) (fun c35 => ?_) (fun c35 => ?_)
                · refine lv_iload_n hx hb d_AF_give_171 rfl (lv_at hl 4 rfl) ?_
                  refine fm_iconst S d_AF_give_172 ?_
                  refine fm_icmp_ne (tgt := 195) S (by omega) (by omega) d_AF_give_173 (by decide) (fun c36 => ?_) (fun c36 => ?_)
                  · refine lv_iload hx hb d_AF_give_195 (lv_at hl 0 rfl) ?_
                    refine fm_zret S hr hlocks hK hw (by omega) d_AF_give_197 ?_
                    have hsE : stErr P kind q6 bad0 xv = 1 := by omega
                    have hrec : ((q6.1, q6.2.1, q6.2.2.1, q6.2.2.2.1, q6.2.2.2.2.1, 1) : Rec6) = stRec P kind q6 bad0 xv ph := by
                      unfold stRec
                      rw [hsE, ← hbd]
                      rw [if_neg (by omega)]
                      rw [if_neg (by omega)]
                    have hlat : 1 = stLat P kind q6 bad0 xv n3 := by
                      unfold stLat
                      rw [hsE, ← hbd]
                      rw [if_pos rfl, if_neg (by omega)]
                    refine ⟨by omega, ?_, ?_, ⟨_, c_w⟩, ⟨_, c_lf⟩, ⟨_, _, _, _, _, c_b1, c_l1⟩, ⟨_, _, _, _, _, c_b2, c_l2⟩, ⟨_, _, _, _, _, c_b3, c_l3⟩, hO0⟩
                    · rw [← hlat]; exact c_x
                    · rw [← hrec]; exact c_r
                  · refine lv_aload_n hx hb d_AF_give_176 rfl (lv_at hl 3 rfl) ?_
                    refine lv_iload hx hb d_AF_give_177 (lv_at hl 0 rfl) ?_
                    refine fm_if_eq (tgt := 191) S (by omega) d_AF_give_179 (by decide) (fun c37 => ?_) (fun c37 => ?_)
                    · refine fm_lconst0 S d_AF_give_191 ?_
                      refine fm_put S hK hw c_r i_Re rfl t_Re t_Re_ok n_Re 4 (by decide) (hts _ k285) (fun _ h => h) rfl (ty := .long) (by decide +kernel) rfl rfl (Nat.le_of_ble_eq_true rfl) d_AF_give_192 (fun μ38 H locs hw hq hO => ?_)
                      have k_k : μ38 k = some (oE 1 [.int (iN ((P : Int))), .ref w, .ref lf, .ref on]) := hO.at (nmc (fm_kn c_k c_r rfl) nm0) c_k
                      have k_w : μ38 w = some (lE cs 30 G) := hO.at (nmc (fm_kn c_w c_r rfl) nm0) c_w
                      have k_lf : μ38 lf = some (lE cs 5 X) := hO.at (nmc (fm_kn c_lf c_r rfl) nm0) c_lf
                      have k_b1 : μ38 b1 = some (oE 2 [.int (iN (0)), .int (iN ((sgn vb))), .int (iN ((tp vb))), .int (iN ((nd (cN vb) : Int))), .ref l1]) := hO.at (nmc (fm_kn c_b1 c_r rfl) nm0) c_b1
                      have k_l1 : μ38 l1 = some (lE cs 4 F1) := hO.at (nmc (fm_kn c_l1 c_r rfl) nm0) c_l1
                      have k_b2 : μ38 b2 = some (oE 2 [.int (iN (w1)), .int (iN ((sgn w2))), .int (iN ((tp w2))), .int (iN ((nd (cN w2) : Int))), .ref l2]) := hO.at (nmc (fm_kn c_b2 c_r rfl) nm0) c_b2
                      have k_l2 : μ38 l2 = some (lE cs 4 F2) := hO.at (nmc (fm_kn c_l2 c_r rfl) nm0) c_l2
                      have k_b3 : μ38 b3 = some (oE 2 [.int (iN (co3)), .int (iN (sg3)), .int (iN (tq3)), .int (iN (ct3)), .ref l3]) := hO.at (nmc (fm_kn c_b3 c_r rfl) nm0) c_b3
                      have k_l3 : μ38 l3 = some (lE cs 4 F3) := hO.at (nmc (fm_kn c_l3 c_r rfl) nm0) c_l3
                      have k_gx : μ38 gx = some (oE 2 [.int (iN (bad0)), .int (iN ((sgn xv))), .int (iN ((tp xv))), .int (iN ((nd (cN xv) : Int))), .ref lx]) := hO.at (nmc (fm_kn c_gx c_r rfl) nm0) c_gx
                      have k_lx : μ38 lx = some (lE cs 4 FX) := hO.at (nmc (fm_kn c_lx c_r rfl) nm0) c_lx
                      have k_x : μ38 x = some (oE 0 [.ref k, .ref kn, .int (iN (n1)), .ref kr, .int (iN (n2)), .int (iN (1)), .ref b1, .ref b2, .ref b3]) := hO.at (nmc (fm_kn c_x c_r rfl) nm0) c_x
                      have k_r : μ38 r = some (oE 3 [.int (iN (q6.2.1)), .int (iN (q6.1)), .int (iN (q6.2.2.1)), .long (jN (q6.2.2.2.1)), .long (jN (0)), .int (iN (1))]) := hq
                      have hO0 := hO0.tr1 hO (by simp)
                      clear c_k c_w c_lf c_b1 c_l1 c_b2 c_l2 c_b3 c_l3 c_gx c_lx c_r c_x
                      have c_k := k_k; clear k_k
                      have c_w := k_w; clear k_w
                      have c_lf := k_lf; clear k_lf
                      have c_b1 := k_b1; clear k_b1
                      have c_l1 := k_l1; clear k_l1
                      have c_b2 := k_b2; clear k_b2
                      have c_l2 := k_l2; clear k_l2
                      have c_b3 := k_b3; clear k_b3
                      have c_l3 := k_l3; clear k_l3
                      have c_gx := k_gx; clear k_gx
                      have c_lx := k_lx; clear k_lx
                      have c_x := k_x; clear k_x
                      have c_r := k_r; clear k_r
                      clear hq hO
                      refine lv_iload hx hb d_AF_give_195 (lv_at hl 0 rfl) ?_
                      refine fm_zret S hr hlocks hK hw (by omega) d_AF_give_197 ?_
                      have hsE : stErr P kind q6 bad0 xv = 1 := by omega
                      have hrec : ((q6.1, q6.2.1, q6.2.2.1, q6.2.2.2.1, 0, 1) : Rec6) = stRec P kind q6 bad0 xv ph := by
                        unfold stRec
                        rw [hsE, ← hbd]
                        rw [if_neg (by omega)]
                        rw [if_pos (by omega)]
                        rw [if_pos rfl]
                      have hlat : 1 = stLat P kind q6 bad0 xv n3 := by
                        unfold stLat
                        rw [hsE, ← hbd]
                        rw [if_pos rfl, if_neg (by omega)]
                      refine ⟨by omega, ?_, ?_, ⟨_, c_w⟩, ⟨_, c_lf⟩, ⟨_, _, _, _, _, c_b1, c_l1⟩, ⟨_, _, _, _, _, c_b2, c_l2⟩, ⟨_, _, _, _, _, c_b3, c_l3⟩, hO0⟩
                      · rw [← hlat]; exact c_x
                      · rw [← hrec]; exact c_r
                    · exact absurd c37 (by decide)
                · refine lv_aload_n hx hb d_AF_give_146 rfl (lv_at hl 3 rfl) ?_
                  refine lv_aload_n hx hb d_AF_give_147 rfl (lv_at hl 3 rfl) ?_
                  refine lv_aload_n hx hb d_AF_give_148 rfl (lv_at hl 2 rfl) ?_
                  refine fm_get S hK hw c_x i_AF rfl 7 (by decide) (hts _ k119) (fun _ h => h) rfl d_AF_give_149 ?_
                  refine fm_get S hK hw c_b2 i_De rfl 1 (by decide) (hts _ k38) (fun _ h => h) rfl d_AF_give_152 ?_
                  refine fm_i2l S (by omega) d_AF_give_155 ?_
                  refine lv_aload_n hx hb d_AF_give_156 rfl (lv_at hl 3 rfl) ?_
                  refine lv_aload_n hx hb d_AF_give_157 rfl (lv_at hl 2 rfl) ?_
                  refine fm_get S hK hw c_x i_AF rfl 7 (by decide) (hts _ k119) (fun _ h => h) rfl d_AF_give_158 ?_
                  refine fm_calll (va_runV (As := [.ref b2]) (rest := [.long (jN ((sgn w2))), .ref r, .ref r]) S (t_Re_roundedSize l D cs Z hZo tT hZc μ32 _ r (q6.2.1) (q6.1) (q6.2.2.1) (q6.2.2.2.1) (q6.2.2.2.2.1) 1 b2 l2 w1 w2 F2 hd2 hv2 (by omega) (by omega) c_r c_b2 c_l2) (cwV 1 hts (gV k345 k326 k327 k10 k328) rfl rfl rfl (by decide +kernel) (by decide)) (fm_preV hZo hK hw hZ hA c_r rfl _) rfl rfl hl.1 rfl (lv_room (Nat.le_of_ble_eq_true rfl)) d_AF_give_161 ⟨Nat.le_of_ble_eq_true rfl, Nat.le_of_ble_eq_true rfl⟩) hw hA (fun x40 μ41 H locs q39 hw => ?_)
                  obtain ⟨q39, hmu⟩ := q39
                  rw [hmu] at hw
                  clear hmu
                  refine fm_lmul S d_AF_give_164 ?_
                  have hzb : -1000000000000000000 ≤ sgn w2 * x40 ∧ sgn w2 * x40 ≤ 1000000000000000000 := by
                    rw [q39, h18]
                    rcases (show sgn w2 = -1 ∨ sgn w2 = 0 ∨ sgn w2 = 1 by omega) with q | q | q <;> rw [q] <;> omega
                  refine fm_callSl (va_runV (As := [.long (jN (((sgn w2) * x40)))]) (rest := [.ref r]) S (t_Re_lowestDigits l D cs Z hZo tT hZc μ32 _ r (q6.2.1) (q6.1) (q6.2.2.1) (q6.2.2.2.1) (q6.2.2.2.2.1) 1 ((sgn w2) * x40) (by omega) (by omega) c_r) (cwV 1 hts (gV k346 k347 k348 k10 k349) rfl rfl rfl (by decide +kernel) (by decide)) (fm_preV hZo hK hw hZ hA c_r rfl _) rfl rfl hl.1 rfl (lv_room (Nat.le_of_ble_eq_true rfl)) d_AF_give_165 ⟨Nat.le_of_ble_eq_true rfl, Nat.le_of_ble_eq_true rfl⟩) (fun x43 q42 => ?_)
                  refine fm_put S hK hw c_r i_Re rfl t_Re t_Re_ok n_Re 3 (by decide) (hts _ k284) (fun _ h => h) rfl (ty := .long) (by decide +kernel) rfl rfl (Nat.le_of_ble_eq_true rfl) d_AF_give_168 (fun μ44 H locs hw hq hO => ?_)
                  have k_k : μ44 k = some (oE 1 [.int (iN ((P : Int))), .ref w, .ref lf, .ref on]) := hO.at (nmc (fm_kn c_k c_r rfl) nm0) c_k
                  have k_w : μ44 w = some (lE cs 30 G) := hO.at (nmc (fm_kn c_w c_r rfl) nm0) c_w
                  have k_lf : μ44 lf = some (lE cs 5 X) := hO.at (nmc (fm_kn c_lf c_r rfl) nm0) c_lf
                  have k_b1 : μ44 b1 = some (oE 2 [.int (iN (0)), .int (iN ((sgn vb))), .int (iN ((tp vb))), .int (iN ((nd (cN vb) : Int))), .ref l1]) := hO.at (nmc (fm_kn c_b1 c_r rfl) nm0) c_b1
                  have k_l1 : μ44 l1 = some (lE cs 4 F1) := hO.at (nmc (fm_kn c_l1 c_r rfl) nm0) c_l1
                  have k_b2 : μ44 b2 = some (oE 2 [.int (iN (w1)), .int (iN ((sgn w2))), .int (iN ((tp w2))), .int (iN ((nd (cN w2) : Int))), .ref l2]) := hO.at (nmc (fm_kn c_b2 c_r rfl) nm0) c_b2
                  have k_l2 : μ44 l2 = some (lE cs 4 F2) := hO.at (nmc (fm_kn c_l2 c_r rfl) nm0) c_l2
                  have k_b3 : μ44 b3 = some (oE 2 [.int (iN (co3)), .int (iN (sg3)), .int (iN (tq3)), .int (iN (ct3)), .ref l3]) := hO.at (nmc (fm_kn c_b3 c_r rfl) nm0) c_b3
                  have k_l3 : μ44 l3 = some (lE cs 4 F3) := hO.at (nmc (fm_kn c_l3 c_r rfl) nm0) c_l3
                  have k_gx : μ44 gx = some (oE 2 [.int (iN (bad0)), .int (iN ((sgn xv))), .int (iN ((tp xv))), .int (iN ((nd (cN xv) : Int))), .ref lx]) := hO.at (nmc (fm_kn c_gx c_r rfl) nm0) c_gx
                  have k_lx : μ44 lx = some (lE cs 4 FX) := hO.at (nmc (fm_kn c_lx c_r rfl) nm0) c_lx
                  have k_x : μ44 x = some (oE 0 [.ref k, .ref kn, .int (iN (n1)), .ref kr, .int (iN (n2)), .int (iN (1)), .ref b1, .ref b2, .ref b3]) := hO.at (nmc (fm_kn c_x c_r rfl) nm0) c_x
                  have k_r : μ44 r = some (oE 3 [.int (iN (q6.2.1)), .int (iN (q6.1)), .int (iN (q6.2.2.1)), .long (jN (x43)), .long (jN (q6.2.2.2.2.1)), .int (iN (1))]) := hq
                  have hO0 := hO0.tr1 hO (by simp)
                  clear c_k c_w c_lf c_b1 c_l1 c_b2 c_l2 c_b3 c_l3 c_gx c_lx c_r c_x
                  have c_k := k_k; clear k_k
                  have c_w := k_w; clear k_w
                  have c_lf := k_lf; clear k_lf
                  have c_b1 := k_b1; clear k_b1
                  have c_l1 := k_l1; clear k_l1
                  have c_b2 := k_b2; clear k_b2
                  have c_l2 := k_l2; clear k_l2
                  have c_b3 := k_b3; clear k_b3
                  have c_l3 := k_l3; clear k_l3
                  have c_gx := k_gx; clear k_gx
                  have c_lx := k_lx; clear k_lx
                  have c_x := k_x; clear k_x
                  have c_r := k_r; clear k_r
                  clear hq hO
                  refine lv_iload_n hx hb d_AF_give_171 rfl (lv_at hl 4 rfl) ?_
                  refine fm_iconst S d_AF_give_172 ?_
                  refine fm_icmp_ne (tgt := 195) S (by omega) (by omega) d_AF_give_173 (by decide) (fun c45 => ?_) (fun c45 => ?_)
                  · refine lv_iload hx hb d_AF_give_195 (lv_at hl 0 rfl) ?_
                    refine fm_zret S hr hlocks hK hw (by omega) d_AF_give_197 ?_
                    have hsE : stErr P kind q6 bad0 xv = 1 := by omega
                    have hrec : ((q6.1, q6.2.1, q6.2.2.1, x43, q6.2.2.2.2.1, 1) : Rec6) = stRec P kind q6 bad0 xv ph := by
                      unfold stRec
                      rw [hsE, ← hbd]
                      rw [if_pos (by omega)]
                      rw [← hW2, ← held_ok (ro := q6.2.2.1) (v := w2) (s := q6.2.1) (d := q6.1.toNat) (by omega), q42, q39]
                      rw [if_neg (by omega)]
                    have hlat : 1 = stLat P kind q6 bad0 xv n3 := by
                      unfold stLat
                      rw [hsE, ← hbd]
                      rw [if_pos rfl, if_neg (by omega)]
                    refine ⟨by omega, ?_, ?_, ⟨_, c_w⟩, ⟨_, c_lf⟩, ⟨_, _, _, _, _, c_b1, c_l1⟩, ⟨_, _, _, _, _, c_b2, c_l2⟩, ⟨_, _, _, _, _, c_b3, c_l3⟩, hO0⟩
                    · rw [← hlat]; exact c_x
                    · rw [← hrec]; exact c_r
                  · refine lv_aload_n hx hb d_AF_give_176 rfl (lv_at hl 3 rfl) ?_
                    refine lv_iload hx hb d_AF_give_177 (lv_at hl 0 rfl) ?_
                    refine fm_if_eq (tgt := 191) S (by omega) d_AF_give_179 (by decide) (fun c46 => ?_) (fun c46 => ?_)
                    · refine fm_lconst0 S d_AF_give_191 ?_
                      refine fm_put S hK hw c_r i_Re rfl t_Re t_Re_ok n_Re 4 (by decide) (hts _ k285) (fun _ h => h) rfl (ty := .long) (by decide +kernel) rfl rfl (Nat.le_of_ble_eq_true rfl) d_AF_give_192 (fun μ47 H locs hw hq hO => ?_)
                      have k_k : μ47 k = some (oE 1 [.int (iN ((P : Int))), .ref w, .ref lf, .ref on]) := hO.at (nmc (fm_kn c_k c_r rfl) nm0) c_k
                      have k_w : μ47 w = some (lE cs 30 G) := hO.at (nmc (fm_kn c_w c_r rfl) nm0) c_w
                      have k_lf : μ47 lf = some (lE cs 5 X) := hO.at (nmc (fm_kn c_lf c_r rfl) nm0) c_lf
                      have k_b1 : μ47 b1 = some (oE 2 [.int (iN (0)), .int (iN ((sgn vb))), .int (iN ((tp vb))), .int (iN ((nd (cN vb) : Int))), .ref l1]) := hO.at (nmc (fm_kn c_b1 c_r rfl) nm0) c_b1
                      have k_l1 : μ47 l1 = some (lE cs 4 F1) := hO.at (nmc (fm_kn c_l1 c_r rfl) nm0) c_l1
                      have k_b2 : μ47 b2 = some (oE 2 [.int (iN (w1)), .int (iN ((sgn w2))), .int (iN ((tp w2))), .int (iN ((nd (cN w2) : Int))), .ref l2]) := hO.at (nmc (fm_kn c_b2 c_r rfl) nm0) c_b2
                      have k_l2 : μ47 l2 = some (lE cs 4 F2) := hO.at (nmc (fm_kn c_l2 c_r rfl) nm0) c_l2
                      have k_b3 : μ47 b3 = some (oE 2 [.int (iN (co3)), .int (iN (sg3)), .int (iN (tq3)), .int (iN (ct3)), .ref l3]) := hO.at (nmc (fm_kn c_b3 c_r rfl) nm0) c_b3
                      have k_l3 : μ47 l3 = some (lE cs 4 F3) := hO.at (nmc (fm_kn c_l3 c_r rfl) nm0) c_l3
                      have k_gx : μ47 gx = some (oE 2 [.int (iN (bad0)), .int (iN ((sgn xv))), .int (iN ((tp xv))), .int (iN ((nd (cN xv) : Int))), .ref lx]) := hO.at (nmc (fm_kn c_gx c_r rfl) nm0) c_gx
                      have k_lx : μ47 lx = some (lE cs 4 FX) := hO.at (nmc (fm_kn c_lx c_r rfl) nm0) c_lx
                      have k_x : μ47 x = some (oE 0 [.ref k, .ref kn, .int (iN (n1)), .ref kr, .int (iN (n2)), .int (iN (1)), .ref b1, .ref b2, .ref b3]) := hO.at (nmc (fm_kn c_x c_r rfl) nm0) c_x
                      have k_r : μ47 r = some (oE 3 [.int (iN (q6.2.1)), .int (iN (q6.1)), .int (iN (q6.2.2.1)), .long (jN (x43)), .long (jN (0)), .int (iN (1))]) := hq
                      have hO0 := hO0.tr1 hO (by simp)
                      clear c_k c_w c_lf c_b1 c_l1 c_b2 c_l2 c_b3 c_l3 c_gx c_lx c_x c_r
                      have c_k := k_k; clear k_k
                      have c_w := k_w; clear k_w
                      have c_lf := k_lf; clear k_lf
                      have c_b1 := k_b1; clear k_b1
                      have c_l1 := k_l1; clear k_l1
                      have c_b2 := k_b2; clear k_b2
                      have c_l2 := k_l2; clear k_l2
                      have c_b3 := k_b3; clear k_b3
                      have c_l3 := k_l3; clear k_l3
                      have c_gx := k_gx; clear k_gx
                      have c_lx := k_lx; clear k_lx
                      have c_x := k_x; clear k_x
                      have c_r := k_r; clear k_r
                      clear hq hO
                      refine lv_iload hx hb d_AF_give_195 (lv_at hl 0 rfl) ?_
                      refine fm_zret S hr hlocks hK hw (by omega) d_AF_give_197 ?_
                      have hsE : stErr P kind q6 bad0 xv = 1 := by omega
                      have hrec : ((q6.1, q6.2.1, q6.2.2.1, x43, 0, 1) : Rec6) = stRec P kind q6 bad0 xv ph := by
                        unfold stRec
                        rw [hsE, ← hbd]
                        rw [if_pos (by omega)]
                        rw [← hW2, ← held_ok (ro := q6.2.2.1) (v := w2) (s := q6.2.1) (d := q6.1.toNat) (by omega), q42, q39]
                        rw [if_pos (by omega)]
                        rw [if_pos rfl]
                      have hlat : 1 = stLat P kind q6 bad0 xv n3 := by
                        unfold stLat
                        rw [hsE, ← hbd]
                        rw [if_pos rfl, if_neg (by omega)]
                      refine ⟨by omega, ?_, ?_, ⟨_, c_w⟩, ⟨_, c_lf⟩, ⟨_, _, _, _, _, c_b1, c_l1⟩, ⟨_, _, _, _, _, c_b2, c_l2⟩, ⟨_, _, _, _, _, c_b3, c_l3⟩, hO0⟩
                      · rw [← hlat]; exact c_x
                      · rw [← hrec]; exact c_r
                    · exact absurd c46 (by decide)
    · subst z1
      have hl : lv_has ls 7 [(6, .int (iN (0))), (5, .int (iN (bad))), (0, .ref x), (1, .ref r), (2, .int (iN (kind))), (3, .ref gx), (4, .int (iN (ph)))] := hl
      refine lv_aload_n hx hb d_AF_give_97 rfl (lv_at hl 3 rfl) ?_
      refine lv_iload hx hb d_AF_give_98 (lv_at hl 0 rfl) ?_
      refine fm_if_ne (tgt := 107) S (by omega) d_AF_give_100 (by decide) (fun c48 => ?_) (fun c48 => ?_)
      · exact absurd c48 (by decide)
      · refine fm_iconst S d_AF_give_103 ?_
        refine lv_goto (tgt := 108) hx hb d_AF_give_104 (by decide) ?_
        refine fm_put S hK hw c_r i_Re rfl t_Re t_Re_ok n_Re 5 (by decide) (hts _ k286) (fun _ h => h) rfl (ty := .boolean) (by decide +kernel) (by decide) (by decide) (Nat.le_of_ble_eq_true rfl) d_AF_give_108 (fun μ49 H locs hw hq hO => ?_)
        have k_x : μ49 x = some (oE 0 [.ref k, .ref kn, .int (iN (n1)), .ref kr, .int (iN (n2)), .int (iN (n3)), .ref b1, .ref b2, .ref b3]) := hO.at (nmc (fm_kn c_x c_r rfl) nm0) c_x
        have k_k : μ49 k = some (oE 1 [.int (iN ((P : Int))), .ref w, .ref lf, .ref on]) := hO.at (nmc (fm_kn c_k c_r rfl) nm0) c_k
        have k_w : μ49 w = some (lE cs 30 G) := hO.at (nmc (fm_kn c_w c_r rfl) nm0) c_w
        have k_lf : μ49 lf = some (lE cs 5 X) := hO.at (nmc (fm_kn c_lf c_r rfl) nm0) c_lf
        have k_b1 : μ49 b1 = some (oE 2 [.int (iN (0)), .int (iN ((sgn vb))), .int (iN ((tp vb))), .int (iN ((nd (cN vb) : Int))), .ref l1]) := hO.at (nmc (fm_kn c_b1 c_r rfl) nm0) c_b1
        have k_l1 : μ49 l1 = some (lE cs 4 F1) := hO.at (nmc (fm_kn c_l1 c_r rfl) nm0) c_l1
        have k_b2 : μ49 b2 = some (oE 2 [.int (iN (w1)), .int (iN ((sgn w2))), .int (iN ((tp w2))), .int (iN ((nd (cN w2) : Int))), .ref l2]) := hO.at (nmc (fm_kn c_b2 c_r rfl) nm0) c_b2
        have k_l2 : μ49 l2 = some (lE cs 4 F2) := hO.at (nmc (fm_kn c_l2 c_r rfl) nm0) c_l2
        have k_b3 : μ49 b3 = some (oE 2 [.int (iN (co3)), .int (iN (sg3)), .int (iN (tq3)), .int (iN (ct3)), .ref l3]) := hO.at (nmc (fm_kn c_b3 c_r rfl) nm0) c_b3
        have k_l3 : μ49 l3 = some (lE cs 4 F3) := hO.at (nmc (fm_kn c_l3 c_r rfl) nm0) c_l3
        have k_gx : μ49 gx = some (oE 2 [.int (iN (bad0)), .int (iN ((sgn xv))), .int (iN ((tp xv))), .int (iN ((nd (cN xv) : Int))), .ref lx]) := hO.at (nmc (fm_kn c_gx c_r rfl) nm0) c_gx
        have k_lx : μ49 lx = some (lE cs 4 FX) := hO.at (nmc (fm_kn c_lx c_r rfl) nm0) c_lx
        have k_r : μ49 r = some (oE 3 [.int (iN (q6.2.1)), .int (iN (q6.1)), .int (iN (q6.2.2.1)), .long (jN (q6.2.2.2.1)), .long (jN (q6.2.2.2.2.1)), .int (iN (1))]) := hq
        have hO0 := hO0.tr1 hO (by simp)
        clear c_x c_k c_w c_lf c_r c_b1 c_l1 c_b2 c_l2 c_b3 c_l3 c_gx c_lx
        have c_x := k_x; clear k_x
        have c_k := k_k; clear k_k
        have c_w := k_w; clear k_w
        have c_lf := k_lf; clear k_lf
        have c_b1 := k_b1; clear k_b1
        have c_l1 := k_l1; clear k_l1
        have c_b2 := k_b2; clear k_b2
        have c_l2 := k_l2; clear k_l2
        have c_b3 := k_b3; clear k_b3
        have c_l3 := k_l3; clear k_l3
        have c_gx := k_gx; clear k_gx
        have c_lx := k_lx; clear k_lx
        have c_r := k_r; clear k_r
        clear hq hO
        refine lv_iload hx hb d_AF_give_111 (lv_at hl 0 rfl) ?_
        refine fm_if_ne (tgt := 131) S (by omega) d_AF_give_113 (by decide) (fun c50 => ?_) (fun c50 => ?_)
        · exact absurd c50 (by decide)
        · refine lv_aload_n hx hb d_AF_give_116 rfl (lv_at hl 2 rfl) ?_
          refine lv_iload hx hb d_AF_give_117 (lv_at hl 1 rfl) ?_
          refine fm_if_ne (tgt := 126) S (by omega) d_AF_give_119 (by decide) (fun c51 => ?_) (fun c51 => ?_)
          · refine lv_iload hx hb d_AF_give_126 (lv_at hl 1 rfl) ?_
            refine fm_put S hK hw c_x i_AF rfl t_AF t_AF_ok n_AF 5 (by decide) (hts _ k117) (fun _ h => h) rfl (ty := .int) (by decide +kernel) rfl rfl (Nat.le_of_ble_eq_true rfl) d_AF_give_128 (fun μ52 H locs hw hq hO => ?_)
            have k_k : μ52 k = some (oE 1 [.int (iN ((P : Int))), .ref w, .ref lf, .ref on]) := hO.at (nmc (fm_kn c_k c_x rfl) nm0) c_k
            have k_w : μ52 w = some (lE cs 30 G) := hO.at (nmc (fm_kn c_w c_x rfl) nm0) c_w
            have k_lf : μ52 lf = some (lE cs 5 X) := hO.at (nmc (fm_kn c_lf c_x rfl) nm0) c_lf
            have k_b1 : μ52 b1 = some (oE 2 [.int (iN (0)), .int (iN ((sgn vb))), .int (iN ((tp vb))), .int (iN ((nd (cN vb) : Int))), .ref l1]) := hO.at (nmc (fm_kn c_b1 c_x rfl) nm0) c_b1
            have k_l1 : μ52 l1 = some (lE cs 4 F1) := hO.at (nmc (fm_kn c_l1 c_x rfl) nm0) c_l1
            have k_b2 : μ52 b2 = some (oE 2 [.int (iN (w1)), .int (iN ((sgn w2))), .int (iN ((tp w2))), .int (iN ((nd (cN w2) : Int))), .ref l2]) := hO.at (nmc (fm_kn c_b2 c_x rfl) nm0) c_b2
            have k_l2 : μ52 l2 = some (lE cs 4 F2) := hO.at (nmc (fm_kn c_l2 c_x rfl) nm0) c_l2
            have k_b3 : μ52 b3 = some (oE 2 [.int (iN (co3)), .int (iN (sg3)), .int (iN (tq3)), .int (iN (ct3)), .ref l3]) := hO.at (nmc (fm_kn c_b3 c_x rfl) nm0) c_b3
            have k_l3 : μ52 l3 = some (lE cs 4 F3) := hO.at (nmc (fm_kn c_l3 c_x rfl) nm0) c_l3
            have k_gx : μ52 gx = some (oE 2 [.int (iN (bad0)), .int (iN ((sgn xv))), .int (iN ((tp xv))), .int (iN ((nd (cN xv) : Int))), .ref lx]) := hO.at (nmc (fm_kn c_gx c_x rfl) nm0) c_gx
            have k_lx : μ52 lx = some (lE cs 4 FX) := hO.at (nmc (fm_kn c_lx c_x rfl) nm0) c_lx
            have k_r : μ52 r = some (oE 3 [.int (iN (q6.2.1)), .int (iN (q6.1)), .int (iN (q6.2.2.1)), .long (jN (q6.2.2.2.1)), .long (jN (q6.2.2.2.2.1)), .int (iN (1))]) := hO.at (nmc (fm_kn c_r c_x rfl) nm0) c_r
            have k_x : μ52 x = some (oE 0 [.ref k, .ref kn, .int (iN (n1)), .ref kr, .int (iN (n2)), .int (iN (bad)), .ref b1, .ref b2, .ref b3]) := hq
            have hO0 := hO0.tr1 hO (by simp)
            clear c_x c_k c_w c_lf c_b1 c_l1 c_b2 c_l2 c_b3 c_l3 c_gx c_lx c_r
            have c_k := k_k; clear k_k
            have c_w := k_w; clear k_w
            have c_lf := k_lf; clear k_lf
            have c_b1 := k_b1; clear k_b1
            have c_l1 := k_l1; clear k_l1
            have c_b2 := k_b2; clear k_b2
            have c_l2 := k_l2; clear k_l2
            have c_b3 := k_b3; clear k_b3
            have c_l3 := k_l3; clear k_l3
            have c_gx := k_gx; clear k_gx
            have c_lx := k_lx; clear k_lx
            have c_r := k_r; clear k_r
            have c_x := k_x; clear k_x
            clear hq hO
            refine lv_iload hx hb d_AF_give_131 (lv_at hl 0 rfl) ?_
            refine fm_if_ne (tgt := 146) S (by omega) d_AF_give_133 (by decide) (fun c53 => ?_) (fun c53 => ?_)
            · exact absurd c53 (by decide)
            · refine lv_iload hx hb d_AF_give_136 (lv_at hl 1 rfl) ?_
              refine fm_if_ne (tgt := 171) S (by omega) d_AF_give_138 (by decide) (fun c54 => ?_) (fun c54 => ?_)
              · refine lv_iload_n hx hb d_AF_give_171 rfl (lv_at hl 4 rfl) ?_
                refine fm_iconst S d_AF_give_172 ?_
                refine fm_icmp_ne (tgt := 195) S (by omega) (by omega) d_AF_give_173 (by decide) (fun c55 => ?_) (fun c55 => ?_)
                · refine lv_iload hx hb d_AF_give_195 (lv_at hl 0 rfl) ?_
                  refine fm_zret S hr hlocks hK hw (by omega) d_AF_give_197 ?_
                  have hsE : stErr P kind q6 bad0 xv = 1 := by omega
                  have hrec : ((q6.1, q6.2.1, q6.2.2.1, q6.2.2.2.1, q6.2.2.2.2.1, 1) : Rec6) = stRec P kind q6 bad0 xv ph := by
                    unfold stRec
                    rw [hsE, ← hbd]
                    rw [if_neg (by omega)]
                    rw [if_neg (by omega)]
                  have hlat : bad = stLat P kind q6 bad0 xv n3 := by
                    unfold stLat
                    rw [hsE, ← hbd]
                    rw [if_pos rfl, if_pos (by assumption)]
                  refine ⟨by omega, ?_, ?_, ⟨_, c_w⟩, ⟨_, c_lf⟩, ⟨_, _, _, _, _, c_b1, c_l1⟩, ⟨_, _, _, _, _, c_b2, c_l2⟩, ⟨_, _, _, _, _, c_b3, c_l3⟩, hO0⟩
                  · rw [← hlat]; exact c_x
                  · rw [← hrec]; exact c_r
                · refine lv_aload_n hx hb d_AF_give_176 rfl (lv_at hl 3 rfl) ?_
                  refine lv_iload hx hb d_AF_give_177 (lv_at hl 0 rfl) ?_
                  refine fm_if_eq (tgt := 191) S (by omega) d_AF_give_179 (by decide) (fun c56 => ?_) (fun c56 => ?_)
                  · refine fm_lconst0 S d_AF_give_191 ?_
                    refine fm_put S hK hw c_r i_Re rfl t_Re t_Re_ok n_Re 4 (by decide) (hts _ k285) (fun _ h => h) rfl (ty := .long) (by decide +kernel) rfl rfl (Nat.le_of_ble_eq_true rfl) d_AF_give_192 (fun μ57 H locs hw hq hO => ?_)
                    have k_k : μ57 k = some (oE 1 [.int (iN ((P : Int))), .ref w, .ref lf, .ref on]) := hO.at (nmc (fm_kn c_k c_r rfl) nm0) c_k
                    have k_w : μ57 w = some (lE cs 30 G) := hO.at (nmc (fm_kn c_w c_r rfl) nm0) c_w
                    have k_lf : μ57 lf = some (lE cs 5 X) := hO.at (nmc (fm_kn c_lf c_r rfl) nm0) c_lf
                    have k_b1 : μ57 b1 = some (oE 2 [.int (iN (0)), .int (iN ((sgn vb))), .int (iN ((tp vb))), .int (iN ((nd (cN vb) : Int))), .ref l1]) := hO.at (nmc (fm_kn c_b1 c_r rfl) nm0) c_b1
                    have k_l1 : μ57 l1 = some (lE cs 4 F1) := hO.at (nmc (fm_kn c_l1 c_r rfl) nm0) c_l1
                    have k_b2 : μ57 b2 = some (oE 2 [.int (iN (w1)), .int (iN ((sgn w2))), .int (iN ((tp w2))), .int (iN ((nd (cN w2) : Int))), .ref l2]) := hO.at (nmc (fm_kn c_b2 c_r rfl) nm0) c_b2
                    have k_l2 : μ57 l2 = some (lE cs 4 F2) := hO.at (nmc (fm_kn c_l2 c_r rfl) nm0) c_l2
                    have k_b3 : μ57 b3 = some (oE 2 [.int (iN (co3)), .int (iN (sg3)), .int (iN (tq3)), .int (iN (ct3)), .ref l3]) := hO.at (nmc (fm_kn c_b3 c_r rfl) nm0) c_b3
                    have k_l3 : μ57 l3 = some (lE cs 4 F3) := hO.at (nmc (fm_kn c_l3 c_r rfl) nm0) c_l3
                    have k_gx : μ57 gx = some (oE 2 [.int (iN (bad0)), .int (iN ((sgn xv))), .int (iN ((tp xv))), .int (iN ((nd (cN xv) : Int))), .ref lx]) := hO.at (nmc (fm_kn c_gx c_r rfl) nm0) c_gx
                    have k_lx : μ57 lx = some (lE cs 4 FX) := hO.at (nmc (fm_kn c_lx c_r rfl) nm0) c_lx
                    have k_x : μ57 x = some (oE 0 [.ref k, .ref kn, .int (iN (n1)), .ref kr, .int (iN (n2)), .int (iN (bad)), .ref b1, .ref b2, .ref b3]) := hO.at (nmc (fm_kn c_x c_r rfl) nm0) c_x
                    have k_r : μ57 r = some (oE 3 [.int (iN (q6.2.1)), .int (iN (q6.1)), .int (iN (q6.2.2.1)), .long (jN (q6.2.2.2.1)), .long (jN (0)), .int (iN (1))]) := hq
                    have hO0 := hO0.tr1 hO (by simp)
                    clear c_k c_w c_lf c_b1 c_l1 c_b2 c_l2 c_b3 c_l3 c_gx c_lx c_r c_x
                    have c_k := k_k; clear k_k
                    have c_w := k_w; clear k_w
                    have c_lf := k_lf; clear k_lf
                    have c_b1 := k_b1; clear k_b1
                    have c_l1 := k_l1; clear k_l1
                    have c_b2 := k_b2; clear k_b2
                    have c_l2 := k_l2; clear k_l2
                    have c_b3 := k_b3; clear k_b3
                    have c_l3 := k_l3; clear k_l3
                    have c_gx := k_gx; clear k_gx
                    have c_lx := k_lx; clear k_lx
                    have c_x := k_x; clear k_x
                    have c_r := k_r; clear k_r
                    clear hq hO
                    refine lv_iload hx hb d_AF_give_195 (lv_at hl 0 rfl) ?_
                    refine fm_zret S hr hlocks hK hw (by omega) d_AF_give_197 ?_
                    have hsE : stErr P kind q6 bad0 xv = 1 := by omega
                    have hrec : ((q6.1, q6.2.1, q6.2.2.1, q6.2.2.2.1, 0, 1) : Rec6) = stRec P kind q6 bad0 xv ph := by
                      unfold stRec
                      rw [hsE, ← hbd]
                      rw [if_neg (by omega)]
                      rw [if_pos (by omega)]
                      rw [if_pos rfl]
                    have hlat : bad = stLat P kind q6 bad0 xv n3 := by
                      unfold stLat
                      rw [hsE, ← hbd]
                      rw [if_pos rfl, if_pos (by assumption)]
                    refine ⟨by omega, ?_, ?_, ⟨_, c_w⟩, ⟨_, c_lf⟩, ⟨_, _, _, _, _, c_b1, c_l1⟩, ⟨_, _, _, _, _, c_b2, c_l2⟩, ⟨_, _, _, _, _, c_b3, c_l3⟩, hO0⟩
                    · rw [← hlat]; exact c_x
                    · rw [← hrec]; exact c_r
                  · exact absurd c56 (by decide)
              · exfalso; omega
          · exfalso; omega
