set_option maxHeartbeats 4000000 in
set_option maxRecDepth 100000 in
/-- give, from what is given on -/
theorem K_g46 {p : Program} {l : Launch} {e : Env} {s : State} {m : MethodId} {args : Array Value} {below : List Frame} {meth : Method} {c : Code} {Q : State → Prop} {D : va_G} {cs : Nat → ClassId} {Z : (Nat → Prop) → State → Heap → Prop} {A : Nat → Prop}  (S : CallFix p m c c_AF_give 7 s args wA "ArithmeticForms") (hK : va_K D clsA (tysA cs) s) (hZo : fm_Zok Z) (tT : Nat) (hZc : ∀ A U H, Z A U H → Zc tT A U H) (hZ : Z A s s.heap) (hA : ∀ q, s.heap.size ≤ q → A q) (μ0 : fm_Mu) (x kn kr b1 b2 b3 : Nat) (n1 n2 n3 : Int) (k w lf on P : Nat) (G X : Int → Int) (r : Nat) (q6 : Rec6) (l1 : Nat) (vb : Int) (F1 : Int → Int) (l2 : Nat) (w1 w2 : Int) (F2 : Int → Int) (l3 : Nat) (co3 sg3 tq3 ct3 : Int) (F3 : Int → Int) (gx lx : Nat) (bad0 xv : Int) (FX : Int → Int) (kind ph : Int) (hP : 1 ≤ P ∧ P ≤ 31) (hq6 : rcOk q6) (hvb9 : vb = hV q6.2.2.2.1 q6.2.1) (hd1 : dF F1 vb) (hv1 : dB vb) (hd2 : dF F2 w2) (hv2 : dB w2) (hdx : dF FX xv) (hvx : dB xv) (hW1 : w1 = (stW P kind q6 bad0 xv).1) (hW2 : w2 = (stW P kind q6 bad0 xv).2) (hw12 : 0 ≤ w1 ∧ w1 ≤ 2) (hkd : 0 ≤ kind ∧ kind ≤ 4) (hph : ph = 0 ∨ ph = 1) (hb12 : b1 ≠ b2) (hb13 : b1 ≠ b3) (hb23 : b2 ≠ b3) (hl12 : l1 ≠ l2) (hl13 : l1 ≠ l3) (hl23 : l2 ≠ l3) (hx1 : gx ≠ b1) (hx2 : gx ≠ b2) (hx3 : gx ≠ b3) (hy1 : lx ≠ l1) (hy2 : lx ≠ l2) (hy3 : lx ≠ l3) (hlocks : meth.locks = false) (hr : meth.sig.returnType = some .boolean) (hsz : A = fm_A μ0 s.heap.size) (hQ : Q = MQ below (fm_Qi D clsA (tysA cs) μ0 s.heap.size (fun z μ' => z = 1 - stErr P kind q6 bad0 xv ∧ μ' x = some (oE 0 [.ref k, .ref kn, .int (iN n1), .ref kr, .int (iN n2), .int (iN (stLat P kind q6 bad0 xv n3)), .ref b1, .ref b2, .ref b3]) ∧ μ' r = some (rE (stRec P kind q6 bad0 xv ph)) ∧ (∃ G' : Int → Int, μ' w = some (lE cs 30 G')) ∧ (∃ X' : Int → Int, μ' lf = some (lE cs 5 X')) ∧ Da cs μ' b1 l1 ∧ Da cs μ' b2 l2 ∧ Da cs μ' b3 l3 ∧ fm_O μ0 μ' [x, r, b1, l1, b2, l2, b3, l3, w, lf])) args s 0 0 (fm_A μ0 s.heap.size)) : ∀ (fu : Nat) (μ1 : fm_Mu) (H : Heap) (locs : List Loc) (ls : Array Slot), (0 : Int) < (fu : Int) → (μ1 x = some (oE 0 [.ref k, .ref kn, .int (iN (n1)), .ref kr, .int (iN (n2)), .int (iN (n3)), .ref b1, .ref b2, .ref b3])) → (μ1 k = some (oE 1 [.int (iN ((P : Int))), .ref w, .ref lf, .ref on])) → (μ1 w = some (lE cs 30 G)) → (μ1 lf = some (lE cs 5 X)) → (μ1 r = some (oE 3 [.int (iN (q6.2.1)), .int (iN (q6.1)), .int (iN (q6.2.2.1)), .long (jN (q6.2.2.2.1)), .long (jN (q6.2.2.2.2.1)), .int (iN (q6.2.2.2.2.2))])) → (μ1 b1 = some (oE 2 [.int (iN (0)), .int (iN ((sgn vb))), .int (iN ((tp vb))), .int (iN ((nd (cN vb) : Int))), .ref l1])) → (μ1 l1 = some (lE cs 4 F1)) → (μ1 b2 = some (oE 2 [.int (iN (w1)), .int (iN ((sgn w2))), .int (iN ((tp w2))), .int (iN ((nd (cN w2) : Int))), .ref l2])) → (μ1 l2 = some (lE cs 4 F2)) → (μ1 b3 = some (oE 2 [.int (iN (co3)), .int (iN (sg3)), .int (iN (tq3)), .int (iN (ct3)), .ref l3])) → (μ1 l3 = some (lE cs 4 F3)) → (μ1 gx = some (oE 2 [.int (iN (bad0)), .int (iN ((sgn xv))), .int (iN ((tp xv))), .int (iN ((nd (cN xv) : Int))), .ref lx])) → (μ1 lx = some (lE cs 4 FX)) → fm_O μ0 μ1 [x, r, b1, l1, b2, l2, b3, l3, w, lf] → lv_has ls 7 [(0, .ref x), (1, .ref r), (2, .int (iN (kind))), (3, .ref gx), (4, .int (iN (ph)))] → fm_W D clsA A s.heap μ1 H locs → W p l e ({ frames := 6, cells := 0, slots := 0, locals := 148 }) s m args below meth c H locs 0 0 Q (F0 m 46 ls []) := by
  subst hQ
  subst hsz
  obtain ⟨hx, hb, hml, hown, hts⟩ := id S
  have hzc := hZc _ _ _ hZ
  intro fu
  induction fu with
  | zero =>
    intro μ1  H locs ls hn  c_x c_k c_w c_lf c_r c_b1 c_l1 c_b2 c_l2 c_b3 c_l3 c_gx c_lx hO0 hl hw
    exfalso; omega
  | succ fu ih =>
    intro μ1  H locs ls hn  c_x c_k c_w c_lf c_r c_b1 c_l1 c_b2 c_l2 c_b3 c_l3 c_gx c_lx hO0 hl hw
    have hsc : 0 ≤ q6.2.1 := hq6.2.2.1
    have hsd : q6.2.1 ≤ q6.1 := hq6.2.2.2.1
    have hdi1 : 1 ≤ q6.1 := hq6.1
    have hdi2 : q6.1 ≤ 18 := hq6.2.1
    have hro1 : 0 ≤ q6.2.2.1 := hq6.2.2.2.2.1
    have hro2 : q6.2.2.1 ≤ 7 := hq6.2.2.2.2.2.1
    refine lv_aload_n hx hb d_AF_give_46 rfl (lv_at hl 0 rfl) ?_
    refine fm_get S hK hw c_x i_AF rfl 7 (by decide) (hts _ k119) (fun _ h => h) rfl d_AF_give_47 ?_
    refine fm_get S hK hw c_b2 i_De rfl 0 (by decide) (hts _ k34) (fun _ h => h) rfl d_AF_give_50 ?_
    refine lv_istore (lv' := [(5, .int (iN (w1))), (0, .ref x), (1, .ref r), (2, .int (iN (kind))), (3, .ref gx), (4, .int (iN (ph)))]) hx hb d_AF_give_53 hl (by decide) rfl (fun ls hl => ?_)
    refine lv_iload hx hb d_AF_give_55 (lv_at hl 0 rfl) ?_
    refine fm_if_ne (tgt := 74) S (by omega) d_AF_give_57 (by decide) (fun c1 => ?_) (fun c1 => ?_)
    · refine lv_iload hx hb d_AF_give_74 (lv_at hl 0 rfl) ?_
      refine fm_if_ne (tgt := 94) S (by omega) d_AF_give_76 (by decide) (fun c2 => ?_) (fun c2 => ?_)
      · refine fm_iconst S d_AF_give_94 ?_
        refine lv_istore (lv' := [(6, .int (iN (0))), (5, .int (iN (w1))), (0, .ref x), (1, .ref r), (2, .int (iN (kind))), (3, .ref gx), (4, .int (iN (ph)))]) hx hb d_AF_give_95 hl (by decide) rfl (fun ls hl => ?_)
        have hbd : w1 = stBad P kind q6 bad0 xv := by unfold stBad; rw [← hW1, if_pos (by assumption)]
        have hft : (0 : Int) = 1 - stErr P kind q6 bad0 xv := by unfold stErr; rw [← hbd, if_pos (Or.inl (by assumption))]; rfl
        exact K_g97 (Z := Z) S hK hZo tT hZc hZ hA μ0 x kn kr b1 b2 b3 n1 n2 n3 k w lf on P G X r q6 l1 vb F1 l2 w1 w2 F2 l3 co3 sg3 tq3 ct3 F3 gx lx bad0 xv FX kind ph hP hq6 hvb9 hd1 hv1 hd2 hv2 hdx hvx hW1 hW2 hw12 hkd hph hb12 hb13 hb23 hl12 hl13 hl23 hx1 hx2 hx3 hy1 hy2 hy3 w1 0 hbd hft (by omega) hlocks hr rfl rfl 1 μ1 _ _ _ (by decide) c_x c_k c_w c_lf c_r c_b1 c_l1 c_b2 c_l2 c_b3 c_l3 c_gx c_lx hO0 (lv_sub hl [0, 1, 2, 3, 4, 5, 6] rfl) hw
      · refine lv_aload_n hx hb d_AF_give_79 rfl (lv_at hl 2 rfl) ?_
        refine lv_aload_n hx hb d_AF_give_80 rfl (lv_at hl 1 rfl) ?_
        refine fm_get S hK hw c_x i_AF rfl 7 (by decide) (hts _ k119) (fun _ h => h) rfl d_AF_give_81 ?_
        refine fm_calli (va_runV (As := [.ref b2]) (rest := []) S (t_Re_fits l D cs Z hZo tT hZc μ1 _ r (q6.2.1) (q6.1) (q6.2.2.1) (q6.2.2.2.1) (q6.2.2.2.2.1) (q6.2.2.2.2.2) b2 l2 w1 w2 F2 hd2 hv2 (by omega) (by omega) (by omega) c_r c_b2 c_l2) (cwV 1 hts (gV k321 k322 k323 k10 k324) rfl rfl rfl (by decide +kernel) (by decide)) (fm_preV hZo hK hw hZ hA c_r rfl _) rfl rfl hl.1 rfl (lv_room (Nat.le_of_ble_eq_true rfl)) d_AF_give_84 ⟨Nat.le_of_ble_eq_true rfl, Nat.le_of_ble_eq_true rfl⟩) hw hA (fun x4 μ5 H locs q3 hw => ?_)
        obtain ⟨q3, hmu⟩ := q3
        rw [hmu] at hw
        clear hmu
        have ht01 : x4 = 0 ∨ x4 = 1 := by rw [q3]; split <;> simp
        refine fm_if_eq (tgt := 94) S (by omega) d_AF_give_87 (by decide) (fun c6 => ?_) (fun c6 => ?_)
        · refine fm_iconst S d_AF_give_94 ?_
          refine lv_istore (lv' := [(6, .int (iN (0))), (5, .int (iN (w1))), (0, .ref x), (1, .ref r), (2, .int (iN (kind))), (3, .ref gx), (4, .int (iN (ph)))]) hx hb d_AF_give_95 hl (by decide) rfl (fun ls hl => ?_)
          exfalso; omega
        · refine fm_iconst S d_AF_give_90 ?_
          refine lv_goto (tgt := 95) hx hb d_AF_give_91 (by decide) ?_
          refine lv_istore (lv' := [(6, .int (iN (1))), (5, .int (iN (w1))), (0, .ref x), (1, .ref r), (2, .int (iN (kind))), (3, .ref gx), (4, .int (iN (ph)))]) hx hb d_AF_give_95 hl (by decide) rfl (fun ls hl => ?_)
          exfalso; omega
    · refine lv_aload_n hx hb d_AF_give_60 rfl (lv_at hl 2 rfl) ?_
      refine lv_aload_n hx hb d_AF_give_61 rfl (lv_at hl 1 rfl) ?_
      refine fm_get S hK hw c_x i_AF rfl 7 (by decide) (hts _ k119) (fun _ h => h) rfl d_AF_give_62 ?_
      refine fm_callSi (va_runV (As := [.ref b2]) (rest := []) S (t_Re_refuses l D cs Z hZo tT hZc μ1 _ r (q6.2.1) (q6.1) (q6.2.2.1) (q6.2.2.2.1) (q6.2.2.2.2.1) (q6.2.2.2.2.2) b2 l2 w1 w2 F2 hd2 hv2 (by omega) (by omega) c_r c_b2 c_l2) (cwV 1 hts (gV k312 k313 k314 k10 k315) rfl rfl rfl (by decide +kernel) (by decide)) (fm_preV hZo hK hw hZ hA c_r rfl _) rfl rfl hl.1 rfl (lv_room (Nat.le_of_ble_eq_true rfl)) d_AF_give_65 ⟨Nat.le_of_ble_eq_true rfl, Nat.le_of_ble_eq_true rfl⟩) (fun x8 q7 => ?_)
      have hf01 : x8 = 0 ∨ x8 = 1 := by rw [q7]; split <;> simp
      refine fm_if_eq (tgt := 74) S (by omega) d_AF_give_68 (by decide) (fun c9 => ?_) (fun c9 => ?_)
      · refine lv_iload hx hb d_AF_give_74 (lv_at hl 0 rfl) ?_
        refine fm_if_ne (tgt := 94) S (by omega) d_AF_give_76 (by decide) (fun c10 => ?_) (fun c10 => ?_)
        · refine fm_iconst S d_AF_give_94 ?_
          refine lv_istore (lv' := [(6, .int (iN (0))), (5, .int (iN (w1))), (0, .ref x), (1, .ref r), (2, .int (iN (kind))), (3, .ref gx), (4, .int (iN (ph)))]) hx hb d_AF_give_95 hl (by decide) rfl (fun ls hl => ?_)
          have hcn : ¬ (q6.2.2.1 = 7 ∧ uR w2 q6.2.1 ≠ 0) := fun q => by rw [if_pos q] at q7; omega
          have hbd : w1 = stBad P kind q6 bad0 xv := by unfold stBad; rw [← hW1, if_neg (by omega), ← hW2, if_neg hcn]; omega
          exfalso; omega
        · refine lv_aload_n hx hb d_AF_give_79 rfl (lv_at hl 2 rfl) ?_
          refine lv_aload_n hx hb d_AF_give_80 rfl (lv_at hl 1 rfl) ?_
          refine fm_get S hK hw c_x i_AF rfl 7 (by decide) (hts _ k119) (fun _ h => h) rfl d_AF_give_81 ?_
          refine fm_calli (va_runV (As := [.ref b2]) (rest := []) S (t_Re_fits l D cs Z hZo tT hZc μ1 _ r (q6.2.1) (q6.1) (q6.2.2.1) (q6.2.2.2.1) (q6.2.2.2.2.1) (q6.2.2.2.2.2) b2 l2 w1 w2 F2 hd2 hv2 (by omega) (by omega) (by omega) c_r c_b2 c_l2) (cwV 1 hts (gV k321 k322 k323 k10 k324) rfl rfl rfl (by decide +kernel) (by decide)) (fm_preV hZo hK hw hZ hA c_r rfl _) rfl rfl hl.1 rfl (lv_room (Nat.le_of_ble_eq_true rfl)) d_AF_give_84 ⟨Nat.le_of_ble_eq_true rfl, Nat.le_of_ble_eq_true rfl⟩) hw hA (fun x12 μ13 H locs q11 hw => ?_)
          obtain ⟨q11, hmu⟩ := q11
          rw [hmu] at hw
          clear hmu
          have ht01 : x12 = 0 ∨ x12 = 1 := by rw [q11]; split <;> simp
          refine fm_if_eq (tgt := 94) S (by omega) d_AF_give_87 (by decide) (fun c14 => ?_) (fun c14 => ?_)
          · refine fm_iconst S d_AF_give_94 ?_
            refine lv_istore (lv' := [(6, .int (iN (0))), (5, .int (iN (w1))), (0, .ref x), (1, .ref r), (2, .int (iN (kind))), (3, .ref gx), (4, .int (iN (ph)))]) hx hb d_AF_give_95 hl (by decide) rfl (fun ls hl => ?_)
            have hcn : ¬ (q6.2.2.1 = 7 ∧ uR w2 q6.2.1 ≠ 0) := fun q => by rw [if_pos q] at q7; omega
            have hbd : w1 = stBad P kind q6 bad0 xv := by unfold stBad; rw [← hW1, if_neg (by omega), ← hW2, if_neg hcn]; omega
            have hlt : ¬ rW q6.2.2.1 w2 q6.2.1 < 10 ^ q6.1.toNat := fun q => by rw [if_pos q] at q11; omega
            have hft : (0 : Int) = 1 - stErr P kind q6 bad0 xv := by unfold stErr; rw [← hbd, ← hW2, if_pos (Or.inr (by omega))]; rfl
            exact K_g97 (Z := Z) S hK hZo tT hZc hZ hA μ0 x kn kr b1 b2 b3 n1 n2 n3 k w lf on P G X r q6 l1 vb F1 l2 w1 w2 F2 l3 co3 sg3 tq3 ct3 F3 gx lx bad0 xv FX kind ph hP hq6 hvb9 hd1 hv1 hd2 hv2 hdx hvx hW1 hW2 hw12 hkd hph hb12 hb13 hb23 hl12 hl13 hl23 hx1 hx2 hx3 hy1 hy2 hy3 w1 0 hbd hft (by omega) hlocks hr rfl rfl 1 μ1 _ _ _ (by decide) c_x c_k c_w c_lf c_r c_b1 c_l1 c_b2 c_l2 c_b3 c_l3 c_gx c_lx hO0 (lv_sub hl [0, 1, 2, 3, 4, 5, 6] rfl) hw
          · refine fm_iconst S d_AF_give_90 ?_
            refine lv_goto (tgt := 95) hx hb d_AF_give_91 (by decide) ?_
            refine lv_istore (lv' := [(6, .int (iN (1))), (5, .int (iN (w1))), (0, .ref x), (1, .ref r), (2, .int (iN (kind))), (3, .ref gx), (4, .int (iN (ph)))]) hx hb d_AF_give_95 hl (by decide) rfl (fun ls hl => ?_)
            have hcn : ¬ (q6.2.2.1 = 7 ∧ uR w2 q6.2.1 ≠ 0) := fun q => by rw [if_pos q] at q7; omega
            have hbd : w1 = stBad P kind q6 bad0 xv := by unfold stBad; rw [← hW1, if_neg (by omega), ← hW2, if_neg hcn]; omega
            have hlt : rW q6.2.2.1 w2 q6.2.1 < 10 ^ q6.1.toNat := Classical.byContradiction fun q => by rw [if_neg q] at q11; omega
            have hft : (1 : Int) = 1 - stErr P kind q6 bad0 xv := by unfold stErr; rw [← hbd, ← hW2, if_neg (fun q => q.elim (fun q => q (by omega)) (fun q => by omega))]; rfl
            exact K_g97 (Z := Z) S hK hZo tT hZc hZ hA μ0 x kn kr b1 b2 b3 n1 n2 n3 k w lf on P G X r q6 l1 vb F1 l2 w1 w2 F2 l3 co3 sg3 tq3 ct3 F3 gx lx bad0 xv FX kind ph hP hq6 hvb9 hd1 hv1 hd2 hv2 hdx hvx hW1 hW2 hw12 hkd hph hb12 hb13 hb23 hl12 hl13 hl23 hx1 hx2 hx3 hy1 hy2 hy3 w1 1 hbd hft (by omega) hlocks hr rfl rfl 1 μ1 _ _ _ (by decide) c_x c_k c_w c_lf c_r c_b1 c_l1 c_b2 c_l2 c_b3 c_l3 c_gx c_lx hO0 (lv_sub hl [0, 1, 2, 3, 4, 5, 6] rfl) hw
      · refine fm_iconst S d_AF_give_71 ?_
        refine lv_istore (lv' := [(5, .int (iN (3))), (0, .ref x), (1, .ref r), (2, .int (iN (kind))), (3, .ref gx), (4, .int (iN (ph)))]) hx hb d_AF_give_72 hl (by decide) rfl (fun ls hl => ?_)
        refine lv_iload hx hb d_AF_give_74 (lv_at hl 0 rfl) ?_
        refine fm_if_ne (tgt := 94) S (by omega) d_AF_give_76 (by decide) (fun c15 => ?_) (fun c15 => ?_)
        · refine fm_iconst S d_AF_give_94 ?_
          refine lv_istore (lv' := [(6, .int (iN (0))), (5, .int (iN (3))), (0, .ref x), (1, .ref r), (2, .int (iN (kind))), (3, .ref gx), (4, .int (iN (ph)))]) hx hb d_AF_give_95 hl (by decide) rfl (fun ls hl => ?_)
          have hcn : q6.2.2.1 = 7 ∧ uR w2 q6.2.1 ≠ 0 := Classical.byContradiction fun q => by rw [if_neg q] at q7; omega
          have hbd : (3 : Int) = stBad P kind q6 bad0 xv := by unfold stBad; rw [← hW1, if_neg (by omega), ← hW2, if_pos hcn]
          have hft : (0 : Int) = 1 - stErr P kind q6 bad0 xv := by unfold stErr; rw [← hbd, if_pos (Or.inl (by decide))]; rfl
          exact K_g97 (Z := Z) S hK hZo tT hZc hZ hA μ0 x kn kr b1 b2 b3 n1 n2 n3 k w lf on P G X r q6 l1 vb F1 l2 w1 w2 F2 l3 co3 sg3 tq3 ct3 F3 gx lx bad0 xv FX kind ph hP hq6 hvb9 hd1 hv1 hd2 hv2 hdx hvx hW1 hW2 hw12 hkd hph hb12 hb13 hb23 hl12 hl13 hl23 hx1 hx2 hx3 hy1 hy2 hy3 3 0 hbd hft (by omega) hlocks hr rfl rfl 1 μ1 _ _ _ (by decide) c_x c_k c_w c_lf c_r c_b1 c_l1 c_b2 c_l2 c_b3 c_l3 c_gx c_lx hO0 (lv_sub hl [0, 1, 2, 3, 4, 5, 6] rfl) hw
        · exact absurd c15 (by decide)

theorem stW_0 {P : Nat} {q6 : Rec6} {bad0 xv : Int} (h : bad0 ≠ 0 → xv = 0) : stW P 0 q6 bad0 xv = (bad0, xv) := by
  unfold stW giveS
  by_cases h0 : bad0 = 0
  · rw [if_neg (by omega), if_pos rfl, h0]
  · rw [if_pos h0, h h0]
theorem stW_k {P : Nat} {q6 : Rec6} {kind bad0 xv : Int} (h : kind ≠ 0) : opW 0 bad0 (sOp P (kind - 1) (hV q6.2.2.2.1 q6.2.1) xv) = stW P kind q6 bad0 xv := by
  unfold stW giveS opW
  rw [if_neg (by omega), if_neg h]
theorem stW_nd {P : Nat} {q6 : Rec6} {kind bad0 xv : Int} (hP : 1 ≤ P ∧ P ≤ 31) (hk : 0 ≤ kind ∧ kind ≤ 4) (h : ndOk (bad0, xv)) : ndOk (stW P kind q6 bad0 xv) := by
  unfold stW
  split
  · exact ⟨h.1, h.2.1, vB_0, fun _ => rfl⟩
  · exact giveS_nd hP hk h.2.2.1

set_option maxHeartbeats 4000000 in
set_option maxRecDepth 100000 in
/-- give(target, kind, x, phrase) -/
theorem t_AF_give (l : Launch) (D : va_G) (cs : Nat → ClassId) (Z : (Nat → Prop) → State → Heap → Prop) (hZo : fm_Zok Z) (tT : Nat) (hZc : ∀ A U H, Z A U H → Zc tT A U H) (μ : fm_Mu) (sz : Nat) (x : Nat) (kn : Nat) (kr : Nat) (b1 : Nat) (b2 : Nat) (b3 : Nat) (n1 : Int) (n2 : Int) (n3 : Int) (k : Nat) (w : Nat) (lf : Nat) (on : Nat) (P : Nat) (G : Int → Int) (X : Int → Int) (r : Nat) (q6 : Rec6) (l1 : Nat) (co1 : Int) (sg1 : Int) (tq1 : Int) (ct1 : Int) (E1 : Int → Int) (l2 : Nat) (co2 : Int) (sg2 : Int) (tq2 : Int) (ct2 : Int) (E2 : Int → Int) (l3 : Nat) (co3 : Int) (sg3 : Int) (tq3 : Int) (ct3 : Int) (E3 : Int → Int) (gx : Nat) (lx : Nat) (bad0 : Int) (xv : Int) (FX : Int → Int) (kind : Int) (ph : Int) (hP : 1 ≤ P ∧ P ≤ 31) (hq6 : rcOk q6) (hdx : dF FX xv) (hvx : dB xv) (hnx : ndOk (bad0, xv)) (hkd : 0 ≤ kind ∧ kind ≤ 4) (hph : ph = 0 ∨ ph = 1) (hb12 : b1 ≠ b2) (hb13 : b1 ≠ b3) (hb23 : b2 ≠ b3) (hl12 : l1 ≠ l2) (hl13 : l1 ≠ l3) (hl23 : l2 ≠ l3) (hx1 : gx ≠ b1) (hx2 : gx ≠ b2) (hx3 : gx ≠ b3) (hy1 : lx ≠ l1) (hy2 : lx ≠ l2) (hy3 : lx ≠ l3) (c_x : μ x = some (oE 0 [.ref k, .ref kn, .int (iN (n1)), .ref kr, .int (iN (n2)), .int (iN (n3)), .ref b1, .ref b2, .ref b3])) (c_k : μ k = some (oE 1 [.int (iN ((P : Int))), .ref w, .ref lf, .ref on])) (c_w : μ w = some (lE cs 30 G)) (c_lf : μ lf = some (lE cs 5 X)) (c_r : μ r = some (oE 3 [.int (iN (q6.2.1)), .int (iN (q6.1)), .int (iN (q6.2.2.1)), .long (jN (q6.2.2.2.1)), .long (jN (q6.2.2.2.2.1)), .int (iN (q6.2.2.2.2.2))])) (c_b1 : μ b1 = some (oE 2 [.int (iN (co1)), .int (iN (sg1)), .int (iN (tq1)), .int (iN (ct1)), .ref l1])) (c_l1 : μ l1 = some (lE cs 4 E1)) (c_b2 : μ b2 = some (oE 2 [.int (iN (co2)), .int (iN (sg2)), .int (iN (tq2)), .int (iN (ct2)), .ref l2])) (c_l2 : μ l2 = some (lE cs 4 E2)) (c_b3 : μ b3 = some (oE 2 [.int (iN (co3)), .int (iN (sg3)), .int (iN (tq3)), .int (iN (ct3)), .ref l3])) (c_l3 : μ l3 = some (lE cs 4 E3)) (c_gx : μ gx = some (oE 2 [.int (iN (bad0)), .int (iN ((sgn xv))), .int (iN ((tp xv))), .int (iN ((nd (cN xv) : Int))), .ref lx])) (c_lx : μ lx = some (lE cs 4 FX)) : Met l y_AF_give (Cond.code y_AF_give c_AF_give 7 (some .boolean) :: wA) ({ frames := 6, cells := 0, slots := 0, locals := 148 }) (fm_Pc D clsA (tysA cs) Z μ sz [.ref x, .ref r, .int (iN (kind)), .ref gx, .int (iN (ph))]) (fm_Qi D clsA (tysA cs) μ sz (fun z μ' => z = 1 - stErr P kind q6 bad0 xv ∧ μ' x = some (oE 0 [.ref k, .ref kn, .int (iN n1), .ref kr, .int (iN n2), .int (iN (stLat P kind q6 bad0 xv n3)), .ref b1, .ref b2, .ref b3]) ∧ μ' r = some (rE (stRec P kind q6 bad0 xv ph)) ∧ (∃ G' : Int → Int, μ' w = some (lE cs 30 G')) ∧ (∃ X' : Int → Int, μ' lf = some (lE cs 5 X')) ∧ Da cs μ' b1 l1 ∧ Da cs μ' b2 l2 ∧ Da cs μ' b3 l3 ∧ fm_O μ μ' [x, r, b1, l1, b2, l2, b3, l3, w, lf])) 0 0 (fm_A μ sz) := by
  refine cl_of (by decide +kernel) (Nat.le_of_ble_eq_true rfl) (fun p e s m below meth c S hr hlocks hnm hsz hw hK hZ hA ls hl => ?_)
  subst hsz
  replace S : CallFix p m c c_AF_give 7 s _ wA "ArithmeticForms" := S
  obtain ⟨hx, hb, hml, hown, hts⟩ := id S
  have hzc := hZc _ _ _ hZ
  have hO0 : fm_O μ μ [x, r, b1, l1, b2, l2, b3, l3, w, lf] := fm_O.rf
  have hl : lv_has ls 7 [(0, .ref x), (1, .ref r), (2, .int (iN (kind))), (3, .ref gx), (4, .int (iN (ph)))] := hl
  have hsc : 0 ≤ q6.2.1 := hq6.2.2.1
  have hsd : q6.2.1 ≤ q6.1 := hq6.2.2.2.1
  have hdi1 : 1 ≤ q6.1 := hq6.1
  have hdi2 : q6.1 ≤ 18 := hq6.2.1
  have hhe := hq6.2.2.2.2.2.2.1
  have hjp := Nat.pow_le_pow_right (n := 10) (by decide) (show q6.1.toNat ≤ 18 by omega)
  have h18 : (10 : Nat) ^ 18 = 1000000000000000000 := by decide
  have hb01 : 0 ≤ bad0 := hnx.1
  have hb02 : bad0 ≤ 2 := hnx.2.1
  have hnW := stW_nd (q6 := q6) hP hkd hnx
  have hnW1 := hnW.1
  have hnW2 := hnW.2.1
  refine lv_aload_n hx hb d_AF_give_0 rfl (lv_at hl 0 rfl) ?_
  refine fm_get S hK hw c_x i_AF rfl 6 (by decide) (hts _ k118) (fun _ h => h) rfl d_AF_give_1 ?_
  refine lv_aload_n hx hb d_AF_give_4 rfl (lv_at hl 1 rfl) ?_
  refine fm_get S hK hw c_r i_Re rfl 3 (by decide) (hts _ k284) (fun _ h => h) rfl d_AF_give_5 ?_
  refine lv_aload_n hx hb d_AF_give_8 rfl (lv_at hl 1 rfl) ?_
  refine fm_get S hK hw c_r i_Re rfl 0 (by decide) (hts _ k281) (fun _ h => h) rfl d_AF_give_9 ?_
  refine fm_callv (va_runV (As := [.long (jN (q6.2.2.2.1)), .int (iN (q6.2.1))]) (rest := []) S (t_De_load l D cs Z hZo tT hZc μ _ b1 l1 co1 sg1 tq1 ct1 E1 (q6.2.2.2.1) (q6.2.1) (by omega) (by omega) c_b1 c_l1) (cwV 2 hts (gV k144 k73 k74 k2 k75) rfl rfl rfl (by decide +kernel) (by decide)) (fm_preV hZo hK hw hZ hA c_b1 rfl _) rfl rfl hl.1 rfl (lv_room (Nat.le_of_ble_eq_true rfl)) d_AF_give_12 ⟨Nat.le_of_ble_eq_true rfl, Nat.le_of_ble_eq_true rfl⟩) hw hA (fun μ2 H locs q1 hw => ?_)
  obtain ⟨⟨F3, hq, hq2, hdF3, hvF3⟩, hO⟩ := q1
  have k_x : μ2 x = some (oE 0 [.ref k, .ref kn, .int (iN (n1)), .ref kr, .int (iN (n2)), .int (iN (n3)), .ref b1, .ref b2, .ref b3]) := hO.at (nmc (fm_kn c_x c_b1 rfl) (nmc (fm_kn c_x c_l1 rfl) nm0)) c_x
  have k_k : μ2 k = some (oE 1 [.int (iN ((P : Int))), .ref w, .ref lf, .ref on]) := hO.at (nmc (fm_kn c_k c_b1 rfl) (nmc (fm_kn c_k c_l1 rfl) nm0)) c_k
  have k_w : μ2 w = some (lE cs 30 G) := hO.at (nmc (fm_kn c_w c_b1 rfl) (nmc (fm_kn c_w c_l1 rfl) nm0)) c_w
  have k_lf : μ2 lf = some (lE cs 5 X) := hO.at (nmc (fm_kn c_lf c_b1 rfl) (nmc (fm_kn c_lf c_l1 rfl) nm0)) c_lf
  have k_r : μ2 r = some (oE 3 [.int (iN (q6.2.1)), .int (iN (q6.1)), .int (iN (q6.2.2.1)), .long (jN (q6.2.2.2.1)), .long (jN (q6.2.2.2.2.1)), .int (iN (q6.2.2.2.2.2))]) := hO.at (nmc (fm_kn c_r c_b1 rfl) (nmc (fm_kn c_r c_l1 rfl) nm0)) c_r
  have k_b2 : μ2 b2 = some (oE 2 [.int (iN (co2)), .int (iN (sg2)), .int (iN (tq2)), .int (iN (ct2)), .ref l2]) := hO.at (nmc (Ne.symm hb12) (nmc (fm_kn c_b2 c_l1 rfl) nm0)) c_b2
  have k_l2 : μ2 l2 = some (lE cs 4 E2) := hO.at (nmc (fm_kn c_l2 c_b1 rfl) (nmc (Ne.symm hl12) nm0)) c_l2
  have k_b3 : μ2 b3 = some (oE 2 [.int (iN (co3)), .int (iN (sg3)), .int (iN (tq3)), .int (iN (ct3)), .ref l3]) := hO.at (nmc (Ne.symm hb13) (nmc (fm_kn c_b3 c_l1 rfl) nm0)) c_b3
  have k_l3 : μ2 l3 = some (lE cs 4 E3) := hO.at (nmc (fm_kn c_l3 c_b1 rfl) (nmc (Ne.symm hl13) nm0)) c_l3
  have k_gx : μ2 gx = some (oE 2 [.int (iN (bad0)), .int (iN ((sgn xv))), .int (iN ((tp xv))), .int (iN ((nd (cN xv) : Int))), .ref lx]) := hO.at (nmc hx1 (nmc (fm_kn c_gx c_l1 rfl) nm0)) c_gx
  have k_lx : μ2 lx = some (lE cs 4 FX) := hO.at (nmc (fm_kn c_lx c_b1 rfl) (nmc hy1 nm0)) c_lx
  have k_b1 : μ2 b1 = some (oE 2 [.int (iN (0)), .int (iN ((sgn (hV (q6.2.2.2.1) (q6.2.1))))), .int (iN ((tp (hV (q6.2.2.2.1) (q6.2.1))))), .int (iN ((nd (cN (hV (q6.2.2.2.1) (q6.2.1))) : Int))), .ref l1]) := hq
  have k_l1 : μ2 l1 = some (lE cs 4 F3) := hq2
  have hO0 := hO0.tr1 hO (by simp)
  clear c_x c_k c_w c_lf c_r c_b1 c_l1 c_b2 c_l2 c_b3 c_l3 c_gx c_lx
  have c_x := k_x; clear k_x
  have c_k := k_k; clear k_k
  have c_w := k_w; clear k_w
  have c_lf := k_lf; clear k_lf
  have c_r := k_r; clear k_r
  have c_b2 := k_b2; clear k_b2
  have c_l2 := k_l2; clear k_l2
  have c_b3 := k_b3; clear k_b3
  have c_l3 := k_l3; clear k_l3
  have c_gx := k_gx; clear k_gx
  have c_lx := k_lx; clear k_lx
  have c_b1 := k_b1; clear k_b1
  have c_l1 := k_l1; clear k_l1
  clear hq hq2 hO
  refine lv_iload_n hx hb d_AF_give_15 rfl (lv_at hl 2 rfl) ?_
  refine fm_if_ne (tgt := 30) S (by omega) d_AF_give_16 (by decide) (fun c4 => ?_) (fun c4 => ?_)
  · refine lv_aload_n hx hb d_AF_give_30 rfl (lv_at hl 0 rfl) ?_
    refine lv_iload_n hx hb d_AF_give_31 rfl (lv_at hl 2 rfl) ?_
    refine fm_iconst S d_AF_give_32 ?_
    refine fm_isub S d_AF_give_33 ?_
    refine lv_aload_n hx hb d_AF_give_34 rfl (lv_at hl 0 rfl) ?_
    refine fm_get S hK hw c_x i_AF rfl 7 (by decide) (hts _ k119) (fun _ h => h) rfl d_AF_give_35 ?_
    refine lv_aload_n hx hb d_AF_give_38 rfl (lv_at hl 0 rfl) ?_
    refine fm_get S hK hw c_x i_AF rfl 6 (by decide) (hts _ k118) (fun _ h => h) rfl d_AF_give_39 ?_
    refine lv_aload_n hx hb d_AF_give_42 rfl (lv_at hl 3 rfl) ?_
    refine fm_callv (va_runV (As := [.int (iN ((kind - 1))), .ref b2, .ref b1, .ref gx]) (rest := []) S (t_AF_calculate l D cs Z hZo tT hZc μ2 _ x kn kr b1 b2 b3 n1 n2 n3 k w lf on P G X b2 l2 co2 sg2 tq2 ct2 E2 b1 l1 0 (hV q6.2.2.2.1 q6.2.1) F3 gx lx bad0 xv FX (kind - 1) (by omega) (by omega) hdF3 hvF3 hdx hvx hP (by omega) c_x c_k c_w c_b2 c_l2 c_b1 c_l1 c_gx c_lx c_lf) (cwV 4 hts (gV k247 k249 ks9 k1 k250) rfl rfl rfl (by decide +kernel) (by decide)) (fm_preV hZo hK hw hZ hA c_x rfl _) rfl rfl hl.1 rfl (lv_room (Nat.le_of_ble_eq_true rfl)) d_AF_give_43 ⟨Nat.le_of_ble_eq_true rfl, Nat.le_of_ble_eq_true rfl⟩) hw hA (fun μ6 H locs q5 hw => ?_)
    obtain ⟨⟨F7, hq, hq2, hdF7, hvF7⟩, ⟨G8, hq3⟩, ⟨X9, hq4⟩, hO⟩ := q5
    have k_x : μ6 x = some (oE 0 [.ref k, .ref kn, .int (iN (n1)), .ref kr, .int (iN (n2)), .int (iN (n3)), .ref b1, .ref b2, .ref b3]) := hO.at (nmc (fm_kn c_x c_b2 rfl) (nmc (fm_kn c_x c_l2 rfl) (nmc (fm_kn c_x c_w rfl) (nmc (fm_kn c_x c_lf rfl) nm0)))) c_x
    have k_k : μ6 k = some (oE 1 [.int (iN ((P : Int))), .ref w, .ref lf, .ref on]) := hO.at (nmc (fm_kn c_k c_b2 rfl) (nmc (fm_kn c_k c_l2 rfl) (nmc (fm_kn c_k c_w rfl) (nmc (fm_kn c_k c_lf rfl) nm0)))) c_k
    have k_r : μ6 r = some (oE 3 [.int (iN (q6.2.1)), .int (iN (q6.1)), .int (iN (q6.2.2.1)), .long (jN (q6.2.2.2.1)), .long (jN (q6.2.2.2.2.1)), .int (iN (q6.2.2.2.2.2))]) := hO.at (nmc (fm_kn c_r c_b2 rfl) (nmc (fm_kn c_r c_l2 rfl) (nmc (fm_kn c_r c_w rfl) (nmc (fm_kn c_r c_lf rfl) nm0)))) c_r
    have k_b3 : μ6 b3 = some (oE 2 [.int (iN (co3)), .int (iN (sg3)), .int (iN (tq3)), .int (iN (ct3)), .ref l3]) := hO.at (nmc (Ne.symm hb23) (nmc (fm_kn c_b3 c_l2 rfl) (nmc (fm_kn c_b3 c_w rfl) (nmc (fm_kn c_b3 c_lf rfl) nm0)))) c_b3
    have k_l3 : μ6 l3 = some (lE cs 4 E3) := hO.at (nmc (fm_kn c_l3 c_b2 rfl) (nmc (Ne.symm hl23) (nmc (fm_kn c_l3 c_w rfl) (nmc (fm_kn c_l3 c_lf rfl) nm0)))) c_l3
    have k_gx : μ6 gx = some (oE 2 [.int (iN (bad0)), .int (iN ((sgn xv))), .int (iN ((tp xv))), .int (iN ((nd (cN xv) : Int))), .ref lx]) := hO.at (nmc hx2 (nmc (fm_kn c_gx c_l2 rfl) (nmc (fm_kn c_gx c_w rfl) (nmc (fm_kn c_gx c_lf rfl) nm0)))) c_gx
    have k_lx : μ6 lx = some (lE cs 4 FX) := hO.at (nmc (fm_kn c_lx c_b2 rfl) (nmc hy2 (nmc (fm_kn c_lx c_w rfl) (nmc (fm_kn c_lx c_lf rfl) nm0)))) c_lx
    have k_b1 : μ6 b1 = some (oE 2 [.int (iN (0)), .int (iN ((sgn (hV (q6.2.2.2.1) (q6.2.1))))), .int (iN ((tp (hV (q6.2.2.2.1) (q6.2.1))))), .int (iN ((nd (cN (hV (q6.2.2.2.1) (q6.2.1))) : Int))), .ref l1]) := hO.at (nmc hb12 (nmc (fm_kn c_b1 c_l2 rfl) (nmc (fm_kn c_b1 c_w rfl) (nmc (fm_kn c_b1 c_lf rfl) nm0)))) c_b1
    have k_l1 : μ6 l1 = some (lE cs 4 F3) := hO.at (nmc (fm_kn c_l1 c_b2 rfl) (nmc hl12 (nmc (fm_kn c_l1 c_w rfl) (nmc (fm_kn c_l1 c_lf rfl) nm0)))) c_l1
    have k_b2 : μ6 b2 = some (oE 2 [.int (iN ((opW 0 bad0 (sOp P (kind - 1) (hV q6.2.2.2.1 q6.2.1) xv)).1)), .int (iN ((sgn (opW 0 bad0 (sOp P (kind - 1) (hV q6.2.2.2.1 q6.2.1) xv)).2))), .int (iN ((tp (opW 0 bad0 (sOp P (kind - 1) (hV q6.2.2.2.1 q6.2.1) xv)).2))), .int (iN ((nd (cN (opW 0 bad0 (sOp P (kind - 1) (hV q6.2.2.2.1 q6.2.1) xv)).2) : Int))), .ref l2]) := hq
    have k_l2 : μ6 l2 = some (lE cs 4 F7) := hq2
    have k_w : μ6 w = some (lE cs 30 G8) := hq3
    have k_lf : μ6 lf = some (lE cs 5 X9) := hq4
    have hO0 := hO0.tr1 hO (by simp)
    clear c_x c_k c_w c_lf c_r c_b2 c_l2 c_b3 c_l3 c_gx c_lx c_b1 c_l1
    have c_x := k_x; clear k_x
    have c_k := k_k; clear k_k
    have c_r := k_r; clear k_r
    have c_b3 := k_b3; clear k_b3
    have c_l3 := k_l3; clear k_l3
    have c_gx := k_gx; clear k_gx
    have c_lx := k_lx; clear k_lx
    have c_b1 := k_b1; clear k_b1
    have c_l1 := k_l1; clear k_l1
    have c_b2 := k_b2; clear k_b2
    have c_l2 := k_l2; clear k_l2
    have c_w := k_w; clear k_w
    have c_lf := k_lf; clear k_lf
    clear hq hq2 hq3 hq4 hO
    rw [stW_k (by assumption)] at c_b2 hdF7 hvF7
    exact K_g46 (Z := Z) S hK hZo tT hZc hZ hA μ x kn kr b1 b2 b3 n1 n2 n3 k w lf on P G8 X9 r q6 l1 (hV q6.2.2.2.1 q6.2.1) F3 l2 (stW P kind q6 bad0 xv).1 (stW P kind q6 bad0 xv).2 F7 l3 co3 sg3 tq3 ct3 E3 gx lx bad0 xv FX kind ph hP hq6 rfl hdF3 hvF3 hdF7 hvF7 hdx hvx rfl rfl ⟨hnW1, hnW2⟩ hkd hph hb12 hb13 hb23 hl12 hl13 hl23 hx1 hx2 hx3 hy1 hy2 hy3 hlocks hr rfl rfl 1 μ6 _ _ _ (by decide) c_x c_k c_w c_lf c_r c_b1 c_l1 c_b2 c_l2 c_b3 c_l3 c_gx c_lx hO0 (lv_sub hl [0, 1, 2, 3, 4] rfl) hw
  · refine lv_aload_n hx hb d_AF_give_19 rfl (lv_at hl 0 rfl) ?_
    refine fm_get S hK hw c_x i_AF rfl 7 (by decide) (hts _ k119) (fun _ h => h) rfl d_AF_give_20 ?_
    refine lv_aload_n hx hb d_AF_give_23 rfl (lv_at hl 3 rfl) ?_
    refine fm_callv (va_runV (As := [.ref gx]) (rest := []) S (t_De_copy l D cs Z hZo tT hZc μ2 _ b2 l2 co2 sg2 tq2 ct2 E2 gx lx bad0 (sgn xv) (tp xv) (nd (cN xv) : Int) FX (hx2) (hy2) c_b2 c_l2 c_gx c_lx) (cwV 1 hts (gV k246 k193 k194 k2 k195) rfl rfl rfl (by decide +kernel) (by decide)) (fm_preV hZo hK hw hZ hA c_b2 rfl _) rfl rfl hl.1 rfl (lv_room (Nat.le_of_ble_eq_true rfl)) d_AF_give_24 ⟨Nat.le_of_ble_eq_true rfl, Nat.le_of_ble_eq_true rfl⟩) hw hA (fun μ11 H locs q10 hw => ?_)
    obtain ⟨F12, hq, hq2, eF12, hO⟩ := q10
    have k_x : μ11 x = some (oE 0 [.ref k, .ref kn, .int (iN (n1)), .ref kr, .int (iN (n2)), .int (iN (n3)), .ref b1, .ref b2, .ref b3]) := hO.at (nmc (fm_kn c_x c_b2 rfl) (nmc (fm_kn c_x c_l2 rfl) nm0)) c_x
    have k_k : μ11 k = some (oE 1 [.int (iN ((P : Int))), .ref w, .ref lf, .ref on]) := hO.at (nmc (fm_kn c_k c_b2 rfl) (nmc (fm_kn c_k c_l2 rfl) nm0)) c_k
    have k_w : μ11 w = some (lE cs 30 G) := hO.at (nmc (fm_kn c_w c_b2 rfl) (nmc (fm_kn c_w c_l2 rfl) nm0)) c_w
    have k_lf : μ11 lf = some (lE cs 5 X) := hO.at (nmc (fm_kn c_lf c_b2 rfl) (nmc (fm_kn c_lf c_l2 rfl) nm0)) c_lf
    have k_r : μ11 r = some (oE 3 [.int (iN (q6.2.1)), .int (iN (q6.1)), .int (iN (q6.2.2.1)), .long (jN (q6.2.2.2.1)), .long (jN (q6.2.2.2.2.1)), .int (iN (q6.2.2.2.2.2))]) := hO.at (nmc (fm_kn c_r c_b2 rfl) (nmc (fm_kn c_r c_l2 rfl) nm0)) c_r
    have k_b3 : μ11 b3 = some (oE 2 [.int (iN (co3)), .int (iN (sg3)), .int (iN (tq3)), .int (iN (ct3)), .ref l3]) := hO.at (nmc (Ne.symm hb23) (nmc (fm_kn c_b3 c_l2 rfl) nm0)) c_b3
    have k_l3 : μ11 l3 = some (lE cs 4 E3) := hO.at (nmc (fm_kn c_l3 c_b2 rfl) (nmc (Ne.symm hl23) nm0)) c_l3
    have k_gx : μ11 gx = some (oE 2 [.int (iN (bad0)), .int (iN ((sgn xv))), .int (iN ((tp xv))), .int (iN ((nd (cN xv) : Int))), .ref lx]) := hO.at (nmc hx2 (nmc (fm_kn c_gx c_l2 rfl) nm0)) c_gx
    have k_lx : μ11 lx = some (lE cs 4 FX) := hO.at (nmc (fm_kn c_lx c_b2 rfl) (nmc hy2 nm0)) c_lx
    have k_b1 : μ11 b1 = some (oE 2 [.int (iN (0)), .int (iN ((sgn (hV (q6.2.2.2.1) (q6.2.1))))), .int (iN ((tp (hV (q6.2.2.2.1) (q6.2.1))))), .int (iN ((nd (cN (hV (q6.2.2.2.1) (q6.2.1))) : Int))), .ref l1]) := hO.at (nmc hb12 (nmc (fm_kn c_b1 c_l2 rfl) nm0)) c_b1
    have k_l1 : μ11 l1 = some (lE cs 4 F3) := hO.at (nmc (fm_kn c_l1 c_b2 rfl) (nmc hl12 nm0)) c_l1
    have k_b2 : μ11 b2 = some (oE 2 [.int (iN (bad0)), .int (iN ((sgn xv))), .int (iN ((tp xv))), .int (iN ((nd (cN xv) : Int))), .ref l2]) := hq
    have k_l2 : μ11 l2 = some (lE cs 4 F12) := hq2
    have hO0 := hO0.tr1 hO (by simp)
    clear c_x c_k c_w c_lf c_r c_b2 c_l2 c_b3 c_l3 c_gx c_lx c_b1 c_l1
    have c_x := k_x; clear k_x
    have c_k := k_k; clear k_k
    have c_w := k_w; clear k_w
    have c_lf := k_lf; clear k_lf
    have c_r := k_r; clear k_r
    have c_b3 := k_b3; clear k_b3
    have c_l3 := k_l3; clear k_l3
    have c_gx := k_gx; clear k_gx
    have c_lx := k_lx; clear k_lx
    have c_b1 := k_b1; clear k_b1
    have c_l1 := k_l1; clear k_l1
    have c_b2 := k_b2; clear k_b2
    have c_l2 := k_l2; clear k_l2
    clear hq hq2 hO
    refine lv_goto (tgt := 46) hx hb d_AF_give_27 (by decide) ?_
    have hk0 : kind = 0 := by assumption
    subst hk0
    have hsw := stW_0 (P := P) (q6 := q6) hnx.2.2.2
    exact K_g46 (Z := Z) S hK hZo tT hZc hZ hA μ x kn kr b1 b2 b3 n1 n2 n3 k w lf on P G X r q6 l1 (hV q6.2.2.2.1 q6.2.1) F3 l2 bad0 xv F12 l3 co3 sg3 tq3 ct3 E3 gx lx bad0 xv FX 0 ph hP hq6 rfl hdF3 hvF3 (hdx.eq eF12) hvx hdx hvx (by rw [hsw]) (by rw [hsw]) (by omega) hkd hph hb12 hb13 hb23 hl12 hl13 hl23 hx1 hx2 hx3 hy1 hy2 hy3 hlocks hr rfl rfl 1 μ11 _ _ _ (by decide) c_x c_k c_w c_lf c_r c_b1 c_l1 c_b2 c_l2 c_b3 c_l3 c_gx c_lx hO0 (lv_sub hl [0, 1, 2, 3, 4] rfl) hw
