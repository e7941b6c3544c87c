set_option maxHeartbeats 4000000 in
set_option maxRecDepth 100000 in
/-- K_rn -/
theorem K_rn {p : Program} {l : Launch} {e : Env} {s : State} {m : MethodId} {args : Array Value} {below : List Frame} {meth : Method} {c : Code} {Q : State → Prop} {D : va_G} {cs : Nat → ClassId} {Z : (Nat → Prop) → State → Heap → Prop} {A : Nat → Prop}  (S : CallFix p m c c_AF_run 8 s args wA "ArithmeticForms") (hK : va_K D clsA (tysA cs) s) (hZo : fm_Zok Z) (tT : Nat) (hZc : ∀ A U H, Z A U H → Zc tT A U H) (hZ : Z A s s.heap) (hA : ∀ q, s.heap.size ≤ q → A q) (μ0 : fm_Mu) (x kc kn kr wd lf : Nat) (da dl ra : Nat → Nat) (σ0 : Sg) (kind ph : Int) (j : Nat) (bad0 xv : Int) (hjC : j < sC σ0) (hbx : sN σ0 (j + 1) = (bad0, xv)) (hkd : 0 ≤ kind ∧ kind ≤ 4) (hph : ph = 0 ∨ ph = 1) (kk82 : ∀ (μ1 : fm_Mu) (i : Int) (gd : Int) (n : Nat) (σ : Sg) (H : Heap) (locs : List Loc) (ls : Array Slot), (n = sR σ0) → (afS cs μ1 x kc kn kr wd lf da dl ra σ) → (σ = (runN σ0 kind bad0 xv ph n).1) → (gd = (runN σ0 kind bad0 xv ph n).2) → (kpR μ0 μ1) → lv_has ls 8 [(6, .int (iN (i))), (5, .int (iN (gd))), (0, .ref x), (1, .int (iN (kind))), (3, .int (iN (ph))), (4, .ref (da (4 + j)))] → fm_W D clsA A s.heap μ1 H locs → W p l e ({ frames := 7, cells := 0, slots := 0, locals := 174 }) s m args below meth c H locs 0 0 Q (F0 m 82 ls [])) : ∀ (fu : Nat) (μ1 : fm_Mu) (i : Int) (gd : Int) (n : Nat) (σ : Sg) (H : Heap) (locs : List Loc) (ls : Array Slot), (sR σ0 : Int) + 5 - i < (fu : Int) → (i = (n : Int) + 1 ∧ n ≤ sR σ0) → (afS cs μ1 x kc kn kr wd lf da dl ra σ) → (σ = (runN σ0 kind bad0 xv ph n).1) → (gd = (runN σ0 kind bad0 xv ph n).2) → (kpR μ0 μ1) → lv_has ls 8 [(6, .int (iN (i))), (5, .int (iN (gd))), (0, .ref x), (1, .int (iN (kind))), (3, .int (iN (ph))), (4, .ref (da (4 + j)))] → fm_W D clsA A s.heap μ1 H locs → W p l e ({ frames := 7, cells := 0, slots := 0, locals := 174 }) s m args below meth c H locs 0 0 Q (F0 m 38 ls []) := by
  obtain ⟨hx, hb, hml, hown, hts⟩ := id S
  have hzc := hZc _ _ _ hZ
  intro fu
  induction fu with
  | zero =>
    intro μ1 i gd n σ H locs ls hn hi hS hσ hg hkp  hl hw
    exfalso; omega
  | succ fu ih =>
    intro μ1 i gd n σ H locs ls hn hi hS hσ hg hkp  hl hw
    have c_x := hS.cx
    have c_kc := hS.ck
    obtain ⟨G0, c_wd⟩ := hS.cw
    obtain ⟨X0, c_lf⟩ := hS.cl
    obtain ⟨fn, c_kn, hfn⟩ := hS.cn
    obtain ⟨fr, c_kr, hfr⟩ := hS.cr
    have hok := hS.ok
    have hokC := hok.2.2.1
    have hokR := hok.2.2.2.1
    have hP : 1 ≤ sP σ ∧ sP σ ≤ 31 := ⟨hok.1, hok.2.1⟩
    have j_x := c_x
    have j_kc := c_kc
    have j_wd := c_wd
    have j_lf := c_lf
    have j_kn := c_kn
    have j_kr := c_kr
    have hrs := runN_same σ0 kind bad0 xv ph n
    rw [← hσ] at hrs
    obtain ⟨hrP, hrC, hrN, hrR⟩ := hrs
    obtain ⟨FX, c_da_4_j, c_dl_4_j, hdx, hvx⟩ := hS.dN j (by omega)
    obtain ⟨co1, sg1, tq1, ct1, E1, c_da_1, c_dl_1⟩ := hS.d1
    obtain ⟨co2, sg2, tq2, ct2, E2, c_da_2, c_dl_2⟩ := hS.d2
    obtain ⟨co3, sg3, tq3, ct3, E3, c_da_3, c_dl_3⟩ := hS.d3
    have hnx := hS.ok.2.2.2.2.2.2.1 (j + 1) (by omega) (by omega)
    have ebx : sN σ (j + 1) = (bad0, xv) := by rw [hrN]; exact hbx
    rw [ebx] at hdx hvx hnx c_da_4_j
    have j_da_1 := c_da_1
    have j_dl_1 := c_dl_1
    have j_da_2 := c_da_2
    have j_dl_2 := c_dl_2
    have j_da_3 := c_da_3
    have j_dl_3 := c_dl_3
    refine lv_iload hx hb d_AF_run_38 (lv_at hl 0 rfl) ?_
    refine lv_aload_n hx hb d_AF_run_40 rfl (lv_at hl 2 rfl) ?_
    refine fm_get S hK hw c_x i_AF rfl 4 (by decide) (hts _ k116) (fun _ h => h) rfl d_AF_run_41 ?_
    refine fm_icmp_gt (tgt := 82) S (by omega) (by omega) d_AF_run_44 (by decide) (fun c1 => ?_) (fun c1 => ?_)
    · exact kk82 μ1 i gd n σ _ _ _ (by omega) (hS) (hσ) (hg) (hkp)  (lv_sub hl [0, 1, 2, 3, 4, 5] rfl) hw
    · refine lv_aload_n hx hb d_AF_run_47 rfl (lv_at hl 2 rfl) ?_
      refine lv_iload hx hb d_AF_run_48 (lv_at hl 0 rfl) ?_
      refine fm_callSq (va_runV (As := [.int (iN (i))]) (rest := []) S (t_AF_receiverAt l D cs Z hZo tT hZc μ1 _ x kc kn kr wd lf da dl ra σ i hS (by omega)) (cwV 1 hts (gV k304 k306 ks11 k1 k307) rfl rfl rfl (by decide +kernel) (by decide)) (fm_preV hZo hK hw hZ hA c_x rfl _) rfl rfl hl.1 rfl (lv_room (Nat.le_of_ble_eq_true rfl)) d_AF_run_50 ⟨Nat.le_of_ble_eq_true rfl, Nat.le_of_ble_eq_true rfl⟩) (fun x3 q2 => ?_)
      by_cases hki4 : 0 < i ∧ i ≤ (sR σ : Int)
      · rw [if_pos hki4] at q2
        obtain ⟨i4, hii4⟩ : ∃ i4 : Nat, i = (i4 : Int) + 1 := ⟨(i - 1).toNat, by omega⟩
        rw [show (i - 1).toNat = i4 by omega] at q2
        subst q2
        show W p l e _ s m _ below meth c _ _ _ _ _ (F0 m 53 ls [.ref (ra i4)])
        have c_ra_i4 := hS.rc i4 (by omega)
        have j_ra_i4 := hS.rc i4 (by omega)
        have hrc := hok.2.2.2.2.2.2.2 (i4 + 1) (by omega) (by omega)
        have hrn : i4 = n := by omega
        subst hrn
        refine lv_astore (lv' := [(7, .ref (ra i4)), (6, .int (iN (i))), (5, .int (iN (gd))), (0, .ref x), (1, .int (iN (kind))), (3, .int (iN (ph))), (4, .ref (da (4 + j)))]) hx hb d_AF_run_53 hl (by decide) rfl (fun ls hl => ?_)
        refine lv_aload hx hb d_AF_run_55 (lv_at hl 0 rfl) ?_
        refine lv_ifnull hx hb d_AF_run_57 ?_
        refine lv_aload_n hx hb d_AF_run_60 rfl (lv_at hl 3 rfl) ?_
        refine lv_aload hx hb d_AF_run_61 (lv_at hl 0 rfl) ?_
        refine lv_iload_n hx hb d_AF_run_63 rfl (lv_at hl 4 rfl) ?_
        refine lv_aload hx hb d_AF_run_64 (lv_at hl 6 rfl) ?_
        refine lv_iload_n hx hb d_AF_run_66 rfl (lv_at hl 5 rfl) ?_
        refine fm_calli (va_runV (As := [.ref (ra i4), .int (iN (kind)), .ref (da (4 + j)), .int (iN (ph))]) (rest := []) S (t_AF_give l D cs Z hZo tT hZc μ1 _ x kn kr (da 1) (da 2) (da 3) (sC σ : Int) (sR σ : Int) (sL σ) kc wd lf (da 0) (sP σ) G0 X0 (ra i4) (sQ σ (i4 + 1)) (dl 1) co1 sg1 tq1 ct1 E1 (dl 2) co2 sg2 tq2 ct2 E2 (dl 3) co3 sg3 tq3 ct3 E3 (da (4 + j)) (dl (4 + j)) bad0 xv FX kind ph hP hrc hdx hvx hnx (by omega) (by omega) (fun e => absurd (hS.ia 1 2 (by omega) (by omega) e) (by omega)) (fun e => absurd (hS.ia 1 3 (by omega) (by omega) e) (by omega)) (fun e => absurd (hS.ia 2 3 (by omega) (by omega) e) (by omega)) (fun e => absurd (hS.il 1 2 (by omega) (by omega) e) (by omega)) (fun e => absurd (hS.il 1 3 (by omega) (by omega) e) (by omega)) (fun e => absurd (hS.il 2 3 (by omega) (by omega) e) (by omega)) (fun e => absurd (hS.ia (4 + j) 1 (by omega) (by omega) e) (by omega)) (fun e => absurd (hS.ia (4 + j) 2 (by omega) (by omega) e) (by omega)) (fun e => absurd (hS.ia (4 + j) 3 (by omega) (by omega) e) (by omega)) (fun e => absurd (hS.il (4 + j) 1 (by omega) (by omega) e) (by omega)) (fun e => absurd (hS.il (4 + j) 2 (by omega) (by omega) e) (by omega)) (fun e => absurd (hS.il (4 + j) 3 (by omega) (by omega) e) (by omega)) c_x c_kc c_wd c_lf c_ra_i4 c_da_1 c_dl_1 c_da_2 c_dl_2 c_da_3 c_dl_3 c_da_4_j c_dl_4_j) (cwV 4 hts (gV k308 k310 ks12 k1 k311) rfl rfl rfl (by decide +kernel) (by decide)) (fm_preV hZo hK hw hZ hA c_x rfl _) rfl rfl hl.1 rfl (lv_room (Nat.le_of_ble_eq_true rfl)) d_AF_run_67 ⟨Nat.le_of_ble_eq_true rfl, Nat.le_of_ble_eq_true rfl⟩) hw hA (fun x6 μ7 H locs q5 hw => ?_)
        obtain ⟨hzx6, hgx, hgr, hgw, hgl, hg1, hg2, hg3, hgO⟩ := q5
        clear c_x c_kc c_wd c_lf c_kn c_kr c_da_4_j c_dl_4_j c_da_1 c_dl_1 c_da_2 c_dl_2 c_da_3 c_dl_3 c_ra_i4
        have hst01 := (st_e (P := sP σ) (kind := kind) (bad0 := bad0) (xv := xv) (q6 := sQ σ (i4 + 1))).1
        have hS2 := hS.give (i := i4) (by omega) (stRec_ok hrc) (stLat_in hP hkd hnx.2.2.1 ⟨hnx.1, hnx.2.1⟩ ⟨hok.2.2.2.2.1, hok.2.2.2.2.2.1⟩) hgO hgx hgr hgw hgl hg1 hg2 hg3
        have hk2 := hkp.tr (kpR.of hgO (okL.c j_x rfl (okL.c j_ra_i4 rfl (okL.c j_da_1 rfl (okL.c j_dl_1 rfl (okL.c j_da_2 rfl (okL.c j_dl_2 rfl (okL.c j_da_3 rfl (okL.c j_dl_3 rfl (okL.c j_wd rfl (okL.c j_lf rfl okL.n)))))))))))
        refine fm_if_eq (tgt := 76) S (by omega) d_AF_run_70 (by decide) (fun c8 => ?_) (fun c8 => ?_)
        · refine lv_iinc (v := iN ((i + 1))) (lv' := [(6, .int (iN ((i + 1)))), (7, .ref (ra i4)), (5, .int (iN (gd))), (0, .ref x), (1, .int (iN (kind))), (3, .int (iN (ph))), (4, .ref (da (4 + j)))]) hx hb d_AF_run_76 hl (k := 1) rfl (iN_add _ _) (by decide) rfl (fun ls hl => ?_)
          refine lv_goto (tgt := 38) hx hb d_AF_run_79 (by decide) ?_
          exact ih μ7 (i + 1) gd (i4 + 1) (setRL σ (i4 + 1) (stRec (sP σ) kind (sQ σ (i4 + 1)) bad0 xv ph) (stLat (sP σ) kind (sQ σ (i4 + 1)) bad0 xv (sL σ))) _ _ _ (by omega) (by omega) (hS2) (by rw [hrP, hσ]; rfl) (by show _ = (runN σ0 kind bad0 xv ph i4).2 + (1 - stErr (sP σ0) kind (sQ (runN σ0 kind bad0 xv ph i4).1 (i4 + 1)) bad0 xv); rw [← hσ, ← hg, ← hrP]; omega) (hk2)  (lv_sub hl [0, 2, 3, 4, 5, 6] rfl) hw
        · refine lv_iinc (v := iN ((gd + 1))) (lv' := [(5, .int (iN ((gd + 1)))), (7, .ref (ra i4)), (6, .int (iN (i))), (0, .ref x), (1, .int (iN (kind))), (3, .int (iN (ph))), (4, .ref (da (4 + j)))]) hx hb d_AF_run_73 hl (k := 2) rfl (iN_add _ _) (by decide) rfl (fun ls hl => ?_)
          refine lv_iinc (v := iN ((i + 1))) (lv' := [(6, .int (iN ((i + 1)))), (5, .int (iN ((gd + 1)))), (7, .ref (ra i4)), (0, .ref x), (1, .int (iN (kind))), (3, .int (iN (ph))), (4, .ref (da (4 + j)))]) hx hb d_AF_run_76 hl (k := 2) rfl (iN_add _ _) (by decide) rfl (fun ls hl => ?_)
          refine lv_goto (tgt := 38) hx hb d_AF_run_79 (by decide) ?_
          exact ih μ7 (i + 1) (gd + 1) (i4 + 1) (setRL σ (i4 + 1) (stRec (sP σ) kind (sQ σ (i4 + 1)) bad0 xv ph) (stLat (sP σ) kind (sQ σ (i4 + 1)) bad0 xv (sL σ))) _ _ _ (by omega) (by omega) (hS2) (by rw [hrP, hσ]; rfl) (by show _ = (runN σ0 kind bad0 xv ph i4).2 + (1 - stErr (sP σ0) kind (sQ (runN σ0 kind bad0 xv ph i4).1 (i4 + 1)) bad0 xv); rw [← hσ, ← hg, ← hrP]; omega) (hk2)  (lv_sub hl [0, 1, 3, 4, 5, 6] rfl) hw
      · rw [if_neg hki4] at q2
        subst q2
        show W p l e _ s m _ below meth c _ _ _ _ _ (F0 m 53 ls [.null])
        exfalso; omega

set_option maxHeartbeats 4000000 in
set_option maxRecDepth 100000 in
/-- run(kind, root, phrase) -/
theorem t_AF_run (l : Launch) (D : va_G) (cs : Nat → ClassId) (Z : (Nat → Prop) → State → Heap → Prop) (hZo : fm_Zok Z) (tT : Nat) (hZc : ∀ A U H, Z A U H → Zc tT A U H) (μ : fm_Mu) (sz : Nat) (x : Nat) (kc : Nat) (kn : Nat) (kr : Nat) (wd : Nat) (lf : Nat) (da : Nat → Nat) (dl : Nat → Nat) (ra : Nat → Nat) (σ : Sg) (kind : Int) (root : Int) (ph : Int) (hS : afS cs μ x kc kn kr wd lf da dl ra σ) (hik : inI kind) (hir : inI root) (hph : ph = 0 ∨ ph = 1)  : Met l y_AF_run (Cond.code y_AF_run c_AF_run 8 (some .int) :: wA) ({ frames := 7, cells := 0, slots := 0, locals := 174 }) (fm_Pc D clsA (tysA cs) Z μ sz [.ref x, .int (iN (kind)), .int (iN (root)), .int (iN (ph))]) (fm_Qi D clsA (tysA cs) μ sz (fun z μ' => z = (sp_run σ kind root ph).1 ∧ (∃ da' dl' ra' : Nat → Nat, afS cs μ' x kc kn kr wd lf da' dl' ra' (sp_run σ kind root ph).2) ∧ kpR μ μ')) 0 0 (fm_A μ sz) := by
  refine cl_of (by decide +kernel) (Nat.le_of_ble_eq_true rfl) (fun p e s m below meth c S hr hlocks hnm hsz hw hK hZ hA ls hl => ?_)
  subst hsz
  replace S : CallFix p m c c_AF_run 8 s _ wA "ArithmeticForms" := S
  obtain ⟨hx, hb, hml, hown, hts⟩ := id S
  have hzc := hZc _ _ _ hZ
  have hO0 : fm_O μ μ [] := fm_O.rf
  have hl : lv_has ls 8 [(0, .ref x), (1, .int (iN (kind))), (2, .int (iN (root))), (3, .int (iN (ph)))] := hl
  have c_x := hS.cx
  have c_kc := hS.ck
  obtain ⟨G0, c_wd⟩ := hS.cw
  obtain ⟨X0, c_lf⟩ := hS.cl
  obtain ⟨fn, c_kn, hfn⟩ := hS.cn
  obtain ⟨fr, c_kr, hfr⟩ := hS.cr
  have hok := hS.ok
  have hokC := hok.2.2.1
  have hokR := hok.2.2.2.1
  have hP : 1 ≤ sP σ ∧ sP σ ≤ 31 := ⟨hok.1, hok.2.1⟩
  have j_x := c_x
  have j_kc := c_kc
  have j_wd := c_wd
  have j_lf := c_lf
  have j_kn := c_kn
  have j_kr := c_kr
  refine lv_iload_n hx hb d_AF_run_0 rfl (lv_at hl 1 rfl) ?_
  refine fm_if_lt (tgt := 9) S (by omega) d_AF_run_1 (by decide) (fun c1 => ?_) (fun c1 => ?_)
  · refine fm_bipush S d_AF_run_9 (by decide) ?_
    refine fm_iret S hr hlocks hK hw d_AF_run_11 ?_
    unfold sp_run
    rw [if_pos (by omega)]
    exact ⟨rfl, ⟨da, dl, ra, hS⟩, kpR.rf⟩
  · refine lv_iload_n hx hb d_AF_run_4 rfl (lv_at hl 1 rfl) ?_
    refine fm_iconst S d_AF_run_5 ?_
    refine fm_icmp_le (tgt := 12) S (by omega) (by omega) d_AF_run_6 (by decide) (fun c2 => ?_) (fun c2 => ?_)
    · refine lv_aload_n hx hb d_AF_run_12 rfl (lv_at hl 0 rfl) ?_
      refine lv_iload_n hx hb d_AF_run_13 rfl (lv_at hl 2 rfl) ?_
      refine fm_callSq (va_runV (As := [.int (iN (root))]) (rest := []) S (t_AF_nodeAt l D cs Z hZo tT hZc μ _ x kc kn kr wd lf da dl ra σ root hS (by omega)) (cwV 1 hts (gV k154 k156 ks1 k1 k157) rfl rfl rfl (by decide +kernel) (by decide)) (fm_preV hZo hK hw hZ hA c_x rfl _) rfl rfl hl.1 rfl (lv_room (Nat.le_of_ble_eq_true rfl)) d_AF_run_14 ⟨Nat.le_of_ble_eq_true rfl, Nat.le_of_ble_eq_true rfl⟩) (fun x4 q3 => ?_)
      by_cases hki5 : 0 < root ∧ root ≤ (sC σ : Int)
      · rw [if_pos hki5] at q3
        obtain ⟨i5, hii5⟩ : ∃ i5 : Nat, root = (i5 : Int) + 1 := ⟨(root - 1).toNat, by omega⟩
        rw [show (root - 1).toNat = i5 by omega] at q3
        subst q3
        show W p l e _ s m _ below meth c _ _ _ _ _ (F0 m 17 ls [.ref (da (4 + i5))])
        obtain ⟨F6, c_da_4_i5, c_dl_4_i5, hdF6, hvF6⟩ := hS.dN i5 (by omega)
        have hoki5 := hok.2.2.2.2.2.2.1 (i5 + 1) (by omega) (by omega)
        refine lv_astore (lv' := [(4, .ref (da (4 + i5))), (0, .ref x), (1, .int (iN (kind))), (2, .int (iN (root))), (3, .int (iN (ph)))]) hx hb d_AF_run_17 hl (by decide) rfl (fun ls hl => ?_)
        refine lv_aload hx hb d_AF_run_19 (lv_at hl 0 rfl) ?_
        refine lv_ifnonnull (tgt := 27) hx hb d_AF_run_21 (by decide) ?_
        refine lv_aload_n hx hb d_AF_run_27 rfl (lv_at hl 1 rfl) ?_
        refine fm_iconst S d_AF_run_28 ?_
        refine fm_put S hK hw c_x i_AF rfl t_AF t_AF_ok n_AF 5 (by decide) (hts _ k117) (fun _ h => h) rfl (ty := .int) (by decide +kernel) rfl rfl (Nat.le_of_ble_eq_true rfl) d_AF_run_29 (fun μ7 H locs hw hq hO => ?_)
        have k_kc : μ7 kc = some (oE 1 [.int (iN ((sP σ : Int))), .ref wd, .ref lf, .ref (da 0)]) := hO.at (nmc (fm_kn c_kc c_x rfl) nm0) c_kc
        have k_wd : μ7 wd = some (lE cs 30 G0) := hO.at (nmc (fm_kn c_wd c_x rfl) nm0) c_wd
        have k_lf : μ7 lf = some (lE cs 5 X0) := hO.at (nmc (fm_kn c_lf c_x rfl) nm0) c_lf
        have k_kn : μ7 kn = some (qE (cs 3) 100 fn) := hO.at (nmc (fm_kn c_kn c_x rfl) nm0) c_kn
        have k_kr : μ7 kr = some (qE (cs 4) 20 fr) := hO.at (nmc (fm_kn c_kr c_x rfl) nm0) c_kr
        have k_da_4_i5 : μ7 (da (4 + i5)) = some (oE 2 [.int (iN ((sN σ (i5 + 1)).1)), .int (iN ((sgn (sN σ (i5 + 1)).2))), .int (iN ((tp (sN σ (i5 + 1)).2))), .int (iN ((nd (cN (sN σ (i5 + 1)).2) : Int))), .ref (dl (4 + i5))]) := hO.at (nmc (fm_kn c_da_4_i5 c_x rfl) nm0) c_da_4_i5
        have k_dl_4_i5 : μ7 (dl (4 + i5)) = some (lE cs 4 F6) := hO.at (nmc (fm_kn c_dl_4_i5 c_x rfl) nm0) c_dl_4_i5
        have k_x : μ7 x = some (oE 0 [.ref kc, .ref kn, .int (iN ((sC σ : Int))), .ref kr, .int (iN ((sR σ : Int))), .int (iN (0)), .ref (da 1), .ref (da 2), .ref (da 3)]) := hq
        have hO0 := hO0.mono (l' := [x]) (fun _ h => List.mem_cons_of_mem _ (h))
        have hO0 := hO0.tr1 hO (by simp)
        clear c_x c_kc c_wd c_lf c_kn c_kr c_da_4_i5 c_dl_4_i5
        have c_kc := k_kc; clear k_kc
        have c_wd := k_wd; clear k_wd
        have c_lf := k_lf; clear k_lf
        have c_kn := k_kn; clear k_kn
        have c_kr := k_kr; clear k_kr
        have c_da_4_i5 := k_da_4_i5; clear k_da_4_i5
        have c_dl_4_i5 := k_dl_4_i5; clear k_dl_4_i5
        have c_x := k_x; clear k_x
        clear hq hO
        refine fm_iconst S d_AF_run_32 ?_
        refine lv_istore (lv' := [(5, .int (iN (0))), (4, .ref (da (4 + i5))), (0, .ref x), (1, .int (iN (kind))), (2, .int (iN (root))), (3, .int (iN (ph)))]) hx hb d_AF_run_33 hl (by decide) rfl (fun ls hl => ?_)
        refine fm_iconst S d_AF_run_35 ?_
        refine lv_istore (lv' := [(6, .int (iN (1))), (5, .int (iN (0))), (4, .ref (da (4 + i5))), (0, .ref x), (1, .int (iN (kind))), (2, .int (iN (root))), (3, .int (iN (ph)))]) hx hb d_AF_run_36 hl (by decide) rfl (fun ls hl => ?_)
        have hS2 := hS.lat (lat := 0) (by decide) (hO0.mono (by intro q hq; simp at hq ⊢; try omega)) c_x
        have hk2 : kpR μ μ7 := (kpR.of hO0 (okL.c j_x rfl okL.n))
        obtain ⟨bad0, xv, hbx⟩ : ∃ bad0 xv : Int, sN σ (i5 + 1) = (bad0, xv) := ⟨_, _, rfl⟩
        clear c_kc c_wd c_lf c_kn c_kr c_da_4_i5 c_dl_4_i5 c_x
        refine K_rn (Z := Z) S hK hZo tT hZc hZ hA μ x kc kn kr wd lf da dl ra σ kind ph i5 bad0 xv (by omega) hbx (by omega) hph (fun μ8 i gd n σ2 H locs ls hn hS3 hσ hg hkp  hl hw => ?_) (200) μ7 1 0 0 (sP σ, sC σ, sN σ, sR σ, sQ σ, 0) _ _ _ (by omega) (by omega) (hS2) (rfl) (rfl) (hk2)  (lv_sub hl [0, 1, 3, 4, 6, 2] rfl) hw
        subst hn
        refine lv_iload hx hb d_AF_run_82 (lv_at hl 1 rfl) ?_
        refine fm_iret S hr hlocks hK hw d_AF_run_84 ?_
        unfold sp_run
        rw [if_neg (by omega), if_neg (fun q => q hki5), show root.toNat = i5 + 1 by omega, hbx]
        exact ⟨hg, ⟨da, dl, ra, by rw [← hσ]; exact hS3⟩, hkp⟩
      · rw [if_neg hki5] at q3
        subst q3
        show W p l e _ s m _ below meth c _ _ _ _ _ (F0 m 17 ls [.null])
        refine lv_astoreN (lv' := [(4, .null), (0, .ref x), (1, .int (iN (kind))), (2, .int (iN (root))), (3, .int (iN (ph)))]) hx hb d_AF_run_17 hl (by decide) rfl (fun ls hl => ?_)
        refine lv_aloadN hx hb d_AF_run_19 (lv_at hl 0 rfl) ?_
        refine lv_ifnonnullN hx hb d_AF_run_21 ?_
        refine fm_bipush S d_AF_run_24 (by decide) ?_
        refine fm_iret S hr hlocks hK hw d_AF_run_26 ?_
        unfold sp_run
        rw [if_neg (by omega), if_pos hki5]
        exact ⟨rfl, ⟨da, dl, ra, hS⟩, kpR.rf⟩
    · refine fm_bipush S d_AF_run_9 (by decide) ?_
      refine fm_iret S hr hlocks hK hw d_AF_run_11 ?_
      unfold sp_run
      rw [if_pos (by omega)]
      exact ⟨rfl, ⟨da, dl, ra, hS⟩, kpR.rf⟩
