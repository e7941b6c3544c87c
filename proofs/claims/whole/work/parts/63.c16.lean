theorem nodeW_nd2 {σ : Sg} {op a b : Int} (hP : 1 ≤ sP σ ∧ sP σ ≤ 31) (ha : ndOk (sN σ a.toNat)) (hb : op < 5 → ndOk (sN σ b.toNat)) : ndOk (nodeW σ op a b) := by
  unfold nodeW
  split
  · exact ⟨ha.1, ha.2.1, vB_0, fun _ => rfl⟩
  · split
    · rename_i h; exact ⟨(hb h.1).1, (hb h.1).2.1, vB_0, fun _ => rfl⟩
    · exact sOp_nd hP ha.2.2.1
theorem nodeW_5 {σ : Sg} {a b : Int} {i : Nat} (hi : a = (i : Int) + 1) (h : ndOk (sN σ (i + 1))) : opR (sP σ) 5 (sN σ (i + 1)).1 (sN σ (i + 1)).1 (sN σ (i + 1)).2 (sN σ (i + 1)).2 = nodeW σ 5 a b := by
  have e : nodeW σ 5 a b = opR (sP σ) 5 (sN σ (i + 1)).1 (sN σ b.toNat).1 (sN σ (i + 1)).2 (sN σ b.toNat).2 := by
    unfold nodeW opR; rw [show a.toNat = i + 1 by omega]
  rw [e, opR_5 h.2.2.2, opR_5 h.2.2.2]
theorem nodeW_2 {σ : Sg} {op a b : Int} {i j : Nat} (hi : a = (i : Int) + 1) (hj : b = (j : Int) + 1) : opR (sP σ) op (sN σ (i + 1)).1 (sN σ (j + 1)).1 (sN σ (i + 1)).2 (sN σ (j + 1)).2 = nodeW σ op a b := by
  unfold nodeW opR; rw [show a.toNat = i + 1 by omega, show b.toNat = j + 1 by omega]

set_option maxHeartbeats 4000000 in
set_option maxRecDepth 100000 in
/-- node(op, a, b) -/
theorem t_AF_node (l : Launch) (D : va_G) (cs : Nat → ClassId) (Z : (Nat → Prop) → State → Heap → Prop) (hZo : fm_Zok Z) (tT : Nat) (hZc : ∀ A U H, Z A U H → Zc tT A U H) (μ : fm_Mu) (sz : Nat) (x : Nat) (kc : Nat) (kn : Nat) (kr : Nat) (wd : Nat) (lf : Nat) (da : Nat → Nat) (dl : Nat → Nat) (ra : Nat → Nat) (σ : Sg) (op : Int) (na : Int) (nb : Int) (hS : afS cs μ x kc kn kr wd lf da dl ra σ) (hio : inI op) (hia : inI na) (hib : inI nb)  : Met l y_AF_node (Cond.code y_AF_node c_AF_node 7 (some .int) :: wA) ({ frames := 7, cells := 2, slots := 9, locals := 172 }) (fm_Pc D clsA (tysA cs) Z μ sz [.ref x, .int (iN (op)), .int (iN (na)), .int (iN (nb))]) (fm_Qi D clsA (tysA cs) μ sz (fun z μ' => z = (sp_node σ op na nb).1 ∧ (∃ da' dl' ra' : Nat → Nat, afS cs μ' x kc kn kr wd lf da' dl' ra' (sp_node σ op na nb).2) ∧ kpR μ μ')) 2 9 (fm_A μ sz) := by
  refine cl_of (by decide +kernel) (Nat.le_of_ble_eq_true rfl) (fun p e s m below meth c S hr hlocks hnm hsz hw hK hZ hA ls hl => ?_)
  subst hsz
  replace S : CallFix p m c c_AF_node 7 s _ wA "ArithmeticForms" := S
  obtain ⟨hx, hb, hml, hown, hts⟩ := id S
  have hzc := hZc _ _ _ hZ
  have hO0 : fm_O μ μ [] := fm_O.rf
  have hl : lv_has ls 7 [(0, .ref x), (1, .int (iN (op))), (2, .int (iN (na))), (3, .int (iN (nb)))] := hl
  have c_x := hS.cx
  have c_kc := hS.ck
  obtain ⟨G0, c_wd⟩ := hS.cw
  obtain ⟨X0, c_lf⟩ := hS.cl
  obtain ⟨fn, c_kn, hfn⟩ := hS.cn
  obtain ⟨fr, c_kr, hfr⟩ := hS.cr
  have hok := hS.ok
  have hokC := hok.2.2.1
  have hokR := hok.2.2.2.1
  have hP : 1 ≤ sP σ ∧ sP σ ≤ 31 := ⟨hok.1, hok.2.1⟩
  have j_x := c_x
  have j_kc := c_kc
  have j_wd := c_wd
  have j_lf := c_lf
  have j_kn := c_kn
  have j_kr := c_kr
  obtain ⟨FO, c_da_0, c_dl_0, hdFO, hvFO⟩ := hS.d0
  refine lv_iload_n hx hb d_AF_node_0 rfl (lv_at hl 1 rfl) ?_
  refine fm_if_lt (tgt := 9) S (by omega) d_AF_node_1 (by decide) (fun c1 => ?_) (fun c1 => ?_)
  · refine fm_bipush S d_AF_node_9 (by decide) ?_
    refine W.widen (k := 2) (n := 9) (Nat.le_of_ble_eq_true rfl) (Nat.le_of_ble_eq_true rfl) ?_
    refine fm_iret S hr hlocks hK hw d_AF_node_11 ?_
    unfold sp_node
    rw [if_pos (by omega)]
    exact ⟨rfl, ⟨da, dl, ra, hS⟩, kpR.rf⟩
  · refine lv_iload_n hx hb d_AF_node_4 rfl (lv_at hl 1 rfl) ?_
    refine fm_iconst S d_AF_node_5 ?_
    refine fm_icmp_le (tgt := 12) S (by omega) (by omega) d_AF_node_6 (by decide) (fun c2 => ?_) (fun c2 => ?_)
    · refine lv_aload_n hx hb d_AF_node_12 rfl (lv_at hl 0 rfl) ?_
      refine lv_iload_n hx hb d_AF_node_13 rfl (lv_at hl 2 rfl) ?_
      refine fm_callSq (va_runV (As := [.int (iN (na))]) (rest := []) S (t_AF_nodeAt l D cs Z hZo tT hZc μ _ x kc kn kr wd lf da dl ra σ na hS (by omega)) (cwV 1 hts (gV k154 k156 ks1 k1 k157) rfl rfl rfl (by decide +kernel) (by decide)) (fm_preV hZo hK hw hZ hA c_x rfl _) rfl rfl hl.1 rfl (lv_room (Nat.le_of_ble_eq_true rfl)) d_AF_node_14 ⟨Nat.le_of_ble_eq_true rfl, Nat.le_of_ble_eq_true rfl⟩) (fun x4 q3 => ?_)
      by_cases hki5 : 0 < na ∧ na ≤ (sC σ : Int)
      · rw [if_pos hki5] at q3
        obtain ⟨i5, hii5⟩ : ∃ i5 : Nat, na = (i5 : Int) + 1 := ⟨(na - 1).toNat, by omega⟩
        rw [show (na - 1).toNat = i5 by omega] at q3
        subst q3
        show W p l e _ s m _ below meth c _ _ _ _ _ (F0 m 17 ls [.ref (da (4 + i5))])
        obtain ⟨F6, c_da_4_i5, c_dl_4_i5, hdF6, hvF6⟩ := hS.dN i5 (by omega)
        have hoki5 := hok.2.2.2.2.2.2.1 (i5 + 1) (by omega) (by omega)
        refine lv_astore (lv' := [(4, .ref (da (4 + i5))), (0, .ref x), (1, .int (iN (op))), (2, .int (iN (na))), (3, .int (iN (nb)))]) hx hb d_AF_node_17 hl (by decide) rfl (fun ls hl => ?_)
        refine lv_iload_n hx hb d_AF_node_19 rfl (lv_at hl 2 rfl) ?_
        refine fm_iconst S d_AF_node_20 ?_
        refine fm_icmp_ne (tgt := 29) S (by omega) (by omega) d_AF_node_21 (by decide) (fun c7 => ?_) (fun c7 => ?_)
        · refine lv_aload_n hx hb d_AF_node_29 rfl (lv_at hl 1 rfl) ?_
          refine lv_iload_n hx hb d_AF_node_30 rfl (lv_at hl 4 rfl) ?_
          refine fm_callSq (va_runV (As := [.int (iN (nb))]) (rest := []) S (t_AF_nodeAt l D cs Z hZo tT hZc μ _ x kc kn kr wd lf da dl ra σ nb hS (by omega)) (cwV 1 hts (gV k154 k156 ks1 k1 k157) rfl rfl rfl (by decide +kernel) (by decide)) (fm_preV hZo hK hw hZ hA c_x rfl _) rfl rfl hl.1 rfl (lv_room (Nat.le_of_ble_eq_true rfl)) d_AF_node_31 ⟨Nat.le_of_ble_eq_true rfl, Nat.le_of_ble_eq_true rfl⟩) (fun x9 q8 => ?_)
          by_cases hki10 : 0 < nb ∧ nb ≤ (sC σ : Int)
          · rw [if_pos hki10] at q8
            obtain ⟨i10, hii10⟩ : ∃ i10 : Nat, nb = (i10 : Int) + 1 := ⟨(nb - 1).toNat, by omega⟩
            rw [show (nb - 1).toNat = i10 by omega] at q8
            subst q8
            show W p l e _ s m _ below meth c _ _ _ _ _ (F0 m 34 ls [.ref (da (4 + i10))])
            obtain ⟨F11, c_da_4_i10, c_dl_4_i10, hdF11, hvF11⟩ := hS.dN i10 (by omega)
            have hoki10 := hok.2.2.2.2.2.2.1 (i10 + 1) (by omega) (by omega)
            refine lv_astore (lv' := [(5, .ref (da (4 + i10))), (4, .ref (da (4 + i5))), (0, .ref x), (1, .int (iN (op))), (2, .int (iN (na))), (3, .int (iN (nb)))]) hx hb d_AF_node_34 hl (by decide) rfl (fun ls hl => ?_)
            refine lv_aload hx hb d_AF_node_36 (lv_at hl 1 rfl) ?_
            refine lv_ifnull hx hb d_AF_node_38 ?_
            refine lv_aload hx hb d_AF_node_41 (lv_at hl 0 rfl) ?_
            refine lv_ifnonnull (tgt := 49) hx hb d_AF_node_43 (by decide) ?_
            refine lv_aload_n hx hb d_AF_node_49 rfl (lv_at hl 2 rfl) ?_
            refine fm_get S hK hw c_x i_AF rfl 2 (by decide) (hts _ k114) (fun _ h => h) rfl d_AF_node_50 ?_
            refine fm_bipush S d_AF_node_53 (by decide) ?_
            refine fm_icmp_lt (tgt := 60) S (by omega) (by omega) d_AF_node_55 (by decide) (fun c12 => ?_) (fun c12 => ?_)
            · have hn100 : sC σ < 100 := by omega
              refine fm_new (ci := 2) (fs := [.int (iN (0)), .int (iN (0)), .int (iN (0)), .int (iN (0)), .null]) S hK hw hA i_De rfl t_De t_De_ok (hts _ k23) (hts _ k27) (hts _ k2) z_De (Nat.le_of_ble_eq_true rfl) (Nat.le_of_ble_eq_true rfl) d_AF_node_60 (fun a13 μ14 H hw hn hq hO => ?_)
              have ne_x_a13 := nn_ne c_x hn
              have ne_kc_a13 := nn_ne c_kc hn
              have ne_wd_a13 := nn_ne c_wd hn
              have ne_lf_a13 := nn_ne c_lf hn
              have ne_kn_a13 := nn_ne c_kn hn
              have ne_kr_a13 := nn_ne c_kr hn
              have ne_da_0_a13 := nn_ne c_da_0 hn
              have ne_dl_0_a13 := nn_ne c_dl_0 hn
              have ne_da_4_i5_a13 := nn_ne c_da_4_i5 hn
              have ne_dl_4_i5_a13 := nn_ne c_dl_4_i5 hn
              have ne_da_4_i10_a13 := nn_ne c_da_4_i10 hn
              have ne_dl_4_i10_a13 := nn_ne c_dl_4_i10 hn
              have hf_a13 := hO0.fr hn nm0
              have hO0 := hO0.mono (l' := [a13]) (fun _ h => List.mem_cons_of_mem _ h)
              have k_x : μ14 x = some (oE 0 [.ref kc, .ref kn, .int (iN ((sC σ : Int))), .ref kr, .int (iN ((sR σ : Int))), .int (iN ((sL σ))), .ref (da 1), .ref (da 2), .ref (da 3)]) := hO.at (nmc ne_x_a13 nm0) c_x
              have k_kc : μ14 kc = some (oE 1 [.int (iN ((sP σ : Int))), .ref wd, .ref lf, .ref (da 0)]) := hO.at (nmc ne_kc_a13 nm0) c_kc
              have k_wd : μ14 wd = some (lE cs 30 G0) := hO.at (nmc ne_wd_a13 nm0) c_wd
              have k_lf : μ14 lf = some (lE cs 5 X0) := hO.at (nmc ne_lf_a13 nm0) c_lf
              have k_kn : μ14 kn = some (qE (cs 3) 100 fn) := hO.at (nmc ne_kn_a13 nm0) c_kn
              have k_kr : μ14 kr = some (qE (cs 4) 20 fr) := hO.at (nmc ne_kr_a13 nm0) c_kr
              have k_da_0 : μ14 (da 0) = some (oE 2 [.int (iN (0)), .int (iN ((sgn one300))), .int (iN ((tp one300))), .int (iN ((nd (cN one300) : Int))), .ref (dl 0)]) := hO.at (nmc ne_da_0_a13 nm0) c_da_0
              have k_dl_0 : μ14 (dl 0) = some (lE cs 4 FO) := hO.at (nmc ne_dl_0_a13 nm0) c_dl_0
              have k_da_4_i5 : μ14 (da (4 + i5)) = some (oE 2 [.int (iN ((sN σ (i5 + 1)).1)), .int (iN ((sgn (sN σ (i5 + 1)).2))), .int (iN ((tp (sN σ (i5 + 1)).2))), .int (iN ((nd (cN (sN σ (i5 + 1)).2) : Int))), .ref (dl (4 + i5))]) := hO.at (nmc ne_da_4_i5_a13 nm0) c_da_4_i5
              have k_dl_4_i5 : μ14 (dl (4 + i5)) = some (lE cs 4 F6) := hO.at (nmc ne_dl_4_i5_a13 nm0) c_dl_4_i5
              have k_da_4_i10 : μ14 (da (4 + i10)) = some (oE 2 [.int (iN ((sN σ (i10 + 1)).1)), .int (iN ((sgn (sN σ (i10 + 1)).2))), .int (iN ((tp (sN σ (i10 + 1)).2))), .int (iN ((nd (cN (sN σ (i10 + 1)).2) : Int))), .ref (dl (4 + i10))]) := hO.at (nmc ne_da_4_i10_a13 nm0) c_da_4_i10
              have k_dl_4_i10 : μ14 (dl (4 + i10)) = some (lE cs 4 F11) := hO.at (nmc ne_dl_4_i10_a13 nm0) c_dl_4_i10
              have k_a13 : μ14 a13 = some (oE 2 [.int (iN (0)), .int (iN (0)), .int (iN (0)), .int (iN (0)), .null]) := hq
              have hO0 := hO0.tr1 hO (by simp)
              clear c_x c_kc c_wd c_lf c_kn c_kr c_da_0 c_dl_0 c_da_4_i5 c_dl_4_i5 c_da_4_i10 c_dl_4_i10
              have c_x := k_x; clear k_x
              have c_kc := k_kc; clear k_kc
              have c_wd := k_wd; clear k_wd
              have c_lf := k_lf; clear k_lf
              have c_kn := k_kn; clear k_kn
              have c_kr := k_kr; clear k_kr
              have c_da_0 := k_da_0; clear k_da_0
              have c_dl_0 := k_dl_0; clear k_dl_0
              have c_da_4_i5 := k_da_4_i5; clear k_da_4_i5
              have c_dl_4_i5 := k_dl_4_i5; clear k_dl_4_i5
              have c_da_4_i10 := k_da_4_i10; clear k_da_4_i10
              have c_dl_4_i10 := k_dl_4_i10; clear k_dl_4_i10
              have c_a13 := k_a13; clear k_a13
              clear hn hq hO
              refine lv_dup hx hb d_AF_node_63 rfl ?_
              refine fm_callv (va_runIN (As := []) (rest := [.ref a13]) S (t_De_init l D cs Z hZo tT hZc μ14 _ a13 c_a13) ⟨cwNA 0 hts k30 rfl rfl hzc.2.2.1.1 k2 (by decide +kernel) (by decide), rfl, hts _ k29⟩ (fm_pre hZo hK hw hZ hA _) rfl rfl hl.1 rfl (lv_room (Nat.le_of_ble_eq_true rfl)) d_AF_node_64 ⟨Nat.le_of_ble_eq_true rfl, Nat.le_of_ble_eq_true rfl⟩) hw hA (fun μ16 H locs q15 hw => ?_)
              obtain ⟨a17, hn, hq, hq2, hO⟩ := q15
              have ne_x_a17 := nn_ne c_x hn
              have ne_kc_a17 := nn_ne c_kc hn
              have ne_wd_a17 := nn_ne c_wd hn
              have ne_lf_a17 := nn_ne c_lf hn
              have ne_kn_a17 := nn_ne c_kn hn
              have ne_kr_a17 := nn_ne c_kr hn
              have ne_da_0_a17 := nn_ne c_da_0 hn
              have ne_dl_0_a17 := nn_ne c_dl_0 hn
              have ne_da_4_i5_a17 := nn_ne c_da_4_i5 hn
              have ne_dl_4_i5_a17 := nn_ne c_dl_4_i5 hn
              have ne_da_4_i10_a17 := nn_ne c_da_4_i10 hn
              have ne_dl_4_i10_a17 := nn_ne c_dl_4_i10 hn
              have ne_a13_a17 := nn_ne c_a13 hn
              have hf_a17 := hO0.fr hn (nmc (Ne.symm ne_a13_a17) nm0)
              have hO0 := hO0.mono (l' := [a17, a13]) (fun _ h => List.mem_cons_of_mem _ h)
              have k_x : μ16 x = some (oE 0 [.ref kc, .ref kn, .int (iN ((sC σ : Int))), .ref kr, .int (iN ((sR σ : Int))), .int (iN ((sL σ))), .ref (da 1), .ref (da 2), .ref (da 3)]) := hO.at (nmc ne_x_a13 (nmc ne_x_a17 nm0)) c_x
              have k_kc : μ16 kc = some (oE 1 [.int (iN ((sP σ : Int))), .ref wd, .ref lf, .ref (da 0)]) := hO.at (nmc ne_kc_a13 (nmc ne_kc_a17 nm0)) c_kc
              have k_wd : μ16 wd = some (lE cs 30 G0) := hO.at (nmc ne_wd_a13 (nmc ne_wd_a17 nm0)) c_wd
              have k_lf : μ16 lf = some (lE cs 5 X0) := hO.at (nmc ne_lf_a13 (nmc ne_lf_a17 nm0)) c_lf
              have k_kn : μ16 kn = some (qE (cs 3) 100 fn) := hO.at (nmc ne_kn_a13 (nmc ne_kn_a17 nm0)) c_kn
              have k_kr : μ16 kr = some (qE (cs 4) 20 fr) := hO.at (nmc ne_kr_a13 (nmc ne_kr_a17 nm0)) c_kr
              have k_da_0 : μ16 (da 0) = some (oE 2 [.int (iN (0)), .int (iN ((sgn one300))), .int (iN ((tp one300))), .int (iN ((nd (cN one300) : Int))), .ref (dl 0)]) := hO.at (nmc ne_da_0_a13 (nmc ne_da_0_a17 nm0)) c_da_0
              have k_dl_0 : μ16 (dl 0) = some (lE cs 4 FO) := hO.at (nmc ne_dl_0_a13 (nmc ne_dl_0_a17 nm0)) c_dl_0
              have k_da_4_i5 : μ16 (da (4 + i5)) = some (oE 2 [.int (iN ((sN σ (i5 + 1)).1)), .int (iN ((sgn (sN σ (i5 + 1)).2))), .int (iN ((tp (sN σ (i5 + 1)).2))), .int (iN ((nd (cN (sN σ (i5 + 1)).2) : Int))), .ref (dl (4 + i5))]) := hO.at (nmc ne_da_4_i5_a13 (nmc ne_da_4_i5_a17 nm0)) c_da_4_i5
              have k_dl_4_i5 : μ16 (dl (4 + i5)) = some (lE cs 4 F6) := hO.at (nmc ne_dl_4_i5_a13 (nmc ne_dl_4_i5_a17 nm0)) c_dl_4_i5
              have k_da_4_i10 : μ16 (da (4 + i10)) = some (oE 2 [.int (iN ((sN σ (i10 + 1)).1)), .int (iN ((sgn (sN σ (i10 + 1)).2))), .int (iN ((tp (sN σ (i10 + 1)).2))), .int (iN ((nd (cN (sN σ (i10 + 1)).2) : Int))), .ref (dl (4 + i10))]) := hO.at (nmc ne_da_4_i10_a13 (nmc ne_da_4_i10_a17 nm0)) c_da_4_i10
              have k_dl_4_i10 : μ16 (dl (4 + i10)) = some (lE cs 4 F11) := hO.at (nmc ne_dl_4_i10_a13 (nmc ne_dl_4_i10_a17 nm0)) c_dl_4_i10
              have k_a13 : μ16 a13 = some (oE 2 [.int (iN (0)), .int (iN (0)), .int (iN (0)), .int (iN (0)), .ref a17]) := hq
              have k_a17 : μ16 a17 = some (lE cs 4 (fun _ => 0)) := hq2
              have hO0 := hO0.tr1 hO (by simp)
              clear c_x c_kc c_wd c_lf c_kn c_kr c_da_0 c_dl_0 c_da_4_i5 c_dl_4_i5 c_da_4_i10 c_dl_4_i10 c_a13
              have c_x := k_x; clear k_x
              have c_kc := k_kc; clear k_kc
              have c_wd := k_wd; clear k_wd
              have c_lf := k_lf; clear k_lf
              have c_kn := k_kn; clear k_kn
              have c_kr := k_kr; clear k_kr
              have c_da_0 := k_da_0; clear k_da_0
              have c_dl_0 := k_dl_0; clear k_dl_0
              have c_da_4_i5 := k_da_4_i5; clear k_da_4_i5
              have c_dl_4_i5 := k_dl_4_i5; clear k_dl_4_i5
              have c_da_4_i10 := k_da_4_i10; clear k_da_4_i10
              have c_dl_4_i10 := k_dl_4_i10; clear k_dl_4_i10
              have c_a13 := k_a13; clear k_a13
              have c_a17 := k_a17; clear k_a17
              clear hn hq hq2 hO
              refine lv_astore (lv' := [(6, .ref a13), (5, .ref (da (4 + i10))), (4, .ref (da (4 + i5))), (0, .ref x), (1, .int (iN (op))), (2, .int (iN (na))), (3, .int (iN (nb)))]) hx hb d_AF_node_67 hl (by decide) rfl (fun ls hl => ?_)
              refine lv_aload_n hx hb d_AF_node_69 rfl (lv_at hl 3 rfl) ?_
              refine lv_iload_n hx hb d_AF_node_70 rfl (lv_at hl 4 rfl) ?_
              refine lv_aload hx hb d_AF_node_71 (lv_at hl 0 rfl) ?_
              refine lv_aload hx hb d_AF_node_73 (lv_at hl 2 rfl) ?_
              refine lv_aload hx hb d_AF_node_75 (lv_at hl 1 rfl) ?_
              have h1i10 := hoki10.1
              have h2i10 := hoki10.2.1
              have h1i5 := hoki5.1
              have h2i5 := hoki5.2.1
              refine fm_callv (va_runV (As := [.int (iN (op)), .ref a13, .ref (da (4 + i5)), .ref (da (4 + i10))]) (rest := []) S (t_AF_operate l D cs Z hZo tT hZc μ16 _ x kn kr (da 1) (da 2) (da 3) (sC σ : Int) (sR σ : Int) (sL σ) kc wd lf (da 0) (sP σ) G0 X0 a13 a17 0 0 0 0 (fun _ => 0) (da (4 + i5)) (dl (4 + i5)) ((sN σ (i5 + 1)).1) ((sN σ (i5 + 1)).2) F6 (da (4 + i10)) (dl (4 + i10)) ((sN σ (i10 + 1)).1) ((sN σ (i10 + 1)).2) F11 (dl 0) FO op (by omega) (by omega) hdF6 hvF6 hdF11 hvF11 hP hdFO (ne_da_4_i5_a13) (ne_dl_4_i5_a17) (ne_da_0_a13) (ne_dl_0_a17) (by omega) (hoki5.2.2.2) c_x c_kc c_wd c_a13 c_a17 c_da_4_i5 c_dl_4_i5 c_da_4_i10 c_dl_4_i10 c_lf c_da_0 c_dl_0) (cwV 4 hts (gV k158 k160 ks2 k1 k161) rfl rfl rfl (by decide +kernel) (by decide)) (fm_preV hZo hK hw hZ hA c_x rfl _) rfl rfl hl.1 rfl (lv_room (Nat.le_of_ble_eq_true rfl)) d_AF_node_77 ⟨Nat.le_of_ble_eq_true rfl, Nat.le_of_ble_eq_true rfl⟩) hw hA (fun μ19 H locs q18 hw => ?_)
              obtain ⟨⟨F20, hq, hq2, hdF20, hvF20⟩, ⟨G21, hq3⟩, ⟨X22, hq4⟩, hO⟩ := q18
              have k_x : μ19 x = some (oE 0 [.ref kc, .ref kn, .int (iN ((sC σ : Int))), .ref kr, .int (iN ((sR σ : Int))), .int (iN ((sL σ))), .ref (da 1), .ref (da 2), .ref (da 3)]) := hO.at (nmc ne_x_a13 (nmc ne_x_a17 (nmc (fm_kn c_x c_wd rfl) (nmc (fm_kn c_x c_lf rfl) nm0)))) c_x
              have k_kc : μ19 kc = some (oE 1 [.int (iN ((sP σ : Int))), .ref wd, .ref lf, .ref (da 0)]) := hO.at (nmc ne_kc_a13 (nmc ne_kc_a17 (nmc (fm_kn c_kc c_wd rfl) (nmc (fm_kn c_kc c_lf rfl) nm0)))) c_kc
              have k_kn : μ19 kn = some (qE (cs 3) 100 fn) := hO.at (nmc ne_kn_a13 (nmc ne_kn_a17 (nmc (fm_kn c_kn c_wd rfl) (nmc (fm_kn c_kn c_lf rfl) nm0)))) c_kn
              have k_kr : μ19 kr = some (qE (cs 4) 20 fr) := hO.at (nmc ne_kr_a13 (nmc ne_kr_a17 (nmc (fm_kn c_kr c_wd rfl) (nmc (fm_kn c_kr c_lf rfl) nm0)))) c_kr
              have k_da_0 : μ19 (da 0) = some (oE 2 [.int (iN (0)), .int (iN ((sgn one300))), .int (iN ((tp one300))), .int (iN ((nd (cN one300) : Int))), .ref (dl 0)]) := hO.at (nmc ne_da_0_a13 (nmc ne_da_0_a17 (nmc (fm_kn c_da_0 c_wd rfl) (nmc (fm_kn c_da_0 c_lf rfl) nm0)))) c_da_0
              have k_dl_0 : μ19 (dl 0) = some (lE cs 4 FO) := hO.at (nmc ne_dl_0_a13 (nmc ne_dl_0_a17 (nmc (fm_kn c_dl_0 c_wd rfl) (nmc (fm_kn c_dl_0 c_lf rfl) nm0)))) c_dl_0
              have k_da_4_i5 : μ19 (da (4 + i5)) = some (oE 2 [.int (iN ((sN σ (i5 + 1)).1)), .int (iN ((sgn (sN σ (i5 + 1)).2))), .int (iN ((tp (sN σ (i5 + 1)).2))), .int (iN ((nd (cN (sN σ (i5 + 1)).2) : Int))), .ref (dl (4 + i5))]) := hO.at (nmc ne_da_4_i5_a13 (nmc ne_da_4_i5_a17 (nmc (fm_kn c_da_4_i5 c_wd rfl) (nmc (fm_kn c_da_4_i5 c_lf rfl) nm0)))) c_da_4_i5
              have k_dl_4_i5 : μ19 (dl (4 + i5)) = some (lE cs 4 F6) := hO.at (nmc ne_dl_4_i5_a13 (nmc ne_dl_4_i5_a17 (nmc (fm_kn c_dl_4_i5 c_wd rfl) (nmc (fm_kn c_dl_4_i5 c_lf rfl) nm0)))) c_dl_4_i5
              have k_da_4_i10 : μ19 (da (4 + i10)) = some (oE 2 [.int (iN ((sN σ (i10 + 1)).1)), .int (iN ((sgn (sN σ (i10 + 1)).2))), .int (iN ((tp (sN σ (i10 + 1)).2))), .int (iN ((nd (cN (sN σ (i10 + 1)).2) : Int))), .ref (dl (4 + i10))]) := hO.at (nmc ne_da_4_i10_a13 (nmc ne_da_4_i10_a17 (nmc (fm_kn c_da_4_i10 c_wd rfl) (nmc (fm_kn c_da_4_i10 c_lf rfl) nm0)))) c_da_4_i10
              have k_dl_4_i10 : μ19 (dl (4 + i10)) = some (lE cs 4 F11) := hO.at (nmc ne_dl_4_i10_a13 (nmc ne_dl_4_i10_a17 (nmc (fm_kn c_dl_4_i10 c_wd rfl) (nmc (fm_kn c_dl_4_i10 c_lf rfl) nm0)))) c_dl_4_i10
              have k_a13 : μ19 a13 = some (oE 2 [.int (iN ((opR (sP σ) op ((sN σ (i5 + 1)).1) ((sN σ (i10 + 1)).1) ((sN σ (i5 + 1)).2) ((sN σ (i10 + 1)).2)).1)), .int (iN ((sgn (opR (sP σ) op ((sN σ (i5 + 1)).1) ((sN σ (i10 + 1)).1) ((sN σ (i5 + 1)).2) ((sN σ (i10 + 1)).2)).2))), .int (iN ((tp (opR (sP σ) op ((sN σ (i5 + 1)).1) ((sN σ (i10 + 1)).1) ((sN σ (i5 + 1)).2) ((sN σ (i10 + 1)).2)).2))), .int (iN ((nd (cN (opR (sP σ) op ((sN σ (i5 + 1)).1) ((sN σ (i10 + 1)).1) ((sN σ (i5 + 1)).2) ((sN σ (i10 + 1)).2)).2) : Int))), .ref a17]) := hq
              have k_a17 : μ19 a17 = some (lE cs 4 F20) := hq2
              have k_wd : μ19 wd = some (lE cs 30 G21) := hq3
              have k_lf : μ19 lf = some (lE cs 5 X22) := hq4
              have hO0 := hO0.mono (l' := [wd, lf, a17, a13]) (fun _ h => List.mem_cons_of_mem _ (List.mem_cons_of_mem _ (h)))
              have hO0 := hO0.tr1 hO (by simp)
              clear c_x c_kc c_wd c_lf c_kn c_kr c_da_0 c_dl_0 c_da_4_i5 c_dl_4_i5 c_da_4_i10 c_dl_4_i10 c_a13 c_a17
              have c_x := k_x; clear k_x
              have c_kc := k_kc; clear k_kc
              have c_kn := k_kn; clear k_kn
              have c_kr := k_kr; clear k_kr
              have c_da_0 := k_da_0; clear k_da_0
              have c_dl_0 := k_dl_0; clear k_dl_0
              have c_da_4_i5 := k_da_4_i5; clear k_da_4_i5
              have c_dl_4_i5 := k_dl_4_i5; clear k_dl_4_i5
              have c_da_4_i10 := k_da_4_i10; clear k_da_4_i10
              have c_dl_4_i10 := k_dl_4_i10; clear k_dl_4_i10
              have c_a13 := k_a13; clear k_a13
              have c_a17 := k_a17; clear k_a17
              have c_wd := k_wd; clear k_wd
              have c_lf := k_lf; clear k_lf
              clear hq hq2 hq3 hq4 hO
              refine lv_aload_n hx hb d_AF_node_80 rfl (lv_at hl 3 rfl) ?_
              refine lv_aload hx hb d_AF_node_81 (lv_at hl 0 rfl) ?_
              refine fm_calli (va_runV (As := [.ref a13]) (rest := []) S (t_AF_keepNode l D cs Z hZo tT hZc μ19 _ x kn kr (da 1) (da 2) (da 3) (sC σ : Int) (sR σ : Int) (sL σ) kc fn a13 a17 ((opR (sP σ) op ((sN σ (i5 + 1)).1) ((sN σ (i10 + 1)).1) ((sN σ (i5 + 1)).2) ((sN σ (i10 + 1)).2)).1) (sgn (opR (sP σ) op ((sN σ (i5 + 1)).1) ((sN σ (i10 + 1)).1) ((sN σ (i5 + 1)).2) ((sN σ (i10 + 1)).2)).2) (tp (opR (sP σ) op ((sN σ (i5 + 1)).1) ((sN σ (i10 + 1)).1) ((sN σ (i5 + 1)).2) ((sN σ (i10 + 1)).2)).2) (nd (cN (opR (sP σ) op ((sN σ (i5 + 1)).1) ((sN σ (i10 + 1)).1) ((sN σ (i5 + 1)).2) ((sN σ (i10 + 1)).2)).2) : Int) (by omega) c_x c_kn c_a13) (cwV 1 hts (gV k146 k148 ks0 k1 k149) rfl rfl rfl (by decide +kernel) (by decide)) (fm_preV hZo hK hw hZ hA c_x rfl _) rfl rfl hl.1 rfl (lv_room (Nat.le_of_ble_eq_true rfl)) d_AF_node_83 ⟨Nat.le_of_ble_eq_true rfl, Nat.le_of_ble_eq_true rfl⟩) hw hA (fun x24 μ25 H locs q23 hw => ?_)
              obtain ⟨hzx24, hq, hq2, hO⟩ := q23
              have k_kc : μ25 kc = some (oE 1 [.int (iN ((sP σ : Int))), .ref wd, .ref lf, .ref (da 0)]) := hO.at (nmc (fm_kn c_kc c_x rfl) (nmc (fm_kn c_kc c_kn rfl) nm0)) c_kc
              have k_kr : μ25 kr = some (qE (cs 4) 20 fr) := hO.at (nmc (fm_kn c_kr c_x rfl) (nmc (fm_kn c_kr c_kn rfl) nm0)) c_kr
              have k_da_0 : μ25 (da 0) = some (oE 2 [.int (iN (0)), .int (iN ((sgn one300))), .int (iN ((tp one300))), .int (iN ((nd (cN one300) : Int))), .ref (dl 0)]) := hO.at (nmc (fm_kn c_da_0 c_x rfl) (nmc (fm_kn c_da_0 c_kn rfl) nm0)) c_da_0
              have k_dl_0 : μ25 (dl 0) = some (lE cs 4 FO) := hO.at (nmc (fm_kn c_dl_0 c_x rfl) (nmc (fm_kn c_dl_0 c_kn rfl) nm0)) c_dl_0
              have k_da_4_i5 : μ25 (da (4 + i5)) = some (oE 2 [.int (iN ((sN σ (i5 + 1)).1)), .int (iN ((sgn (sN σ (i5 + 1)).2))), .int (iN ((tp (sN σ (i5 + 1)).2))), .int (iN ((nd (cN (sN σ (i5 + 1)).2) : Int))), .ref (dl (4 + i5))]) := hO.at (nmc (fm_kn c_da_4_i5 c_x rfl) (nmc (fm_kn c_da_4_i5 c_kn rfl) nm0)) c_da_4_i5
              have k_dl_4_i5 : μ25 (dl (4 + i5)) = some (lE cs 4 F6) := hO.at (nmc (fm_kn c_dl_4_i5 c_x rfl) (nmc (fm_kn c_dl_4_i5 c_kn rfl) nm0)) c_dl_4_i5
              have k_da_4_i10 : μ25 (da (4 + i10)) = some (oE 2 [.int (iN ((sN σ (i10 + 1)).1)), .int (iN ((sgn (sN σ (i10 + 1)).2))), .int (iN ((tp (sN σ (i10 + 1)).2))), .int (iN ((nd (cN (sN σ (i10 + 1)).2) : Int))), .ref (dl (4 + i10))]) := hO.at (nmc (fm_kn c_da_4_i10 c_x rfl) (nmc (fm_kn c_da_4_i10 c_kn rfl) nm0)) c_da_4_i10
              have k_dl_4_i10 : μ25 (dl (4 + i10)) = some (lE cs 4 F11) := hO.at (nmc (fm_kn c_dl_4_i10 c_x rfl) (nmc (fm_kn c_dl_4_i10 c_kn rfl) nm0)) c_dl_4_i10
              have k_a13 : μ25 a13 = some (oE 2 [.int (iN ((opR (sP σ) op ((sN σ (i5 + 1)).1) ((sN σ (i10 + 1)).1) ((sN σ (i5 + 1)).2) ((sN σ (i10 + 1)).2)).1)), .int (iN ((sgn (opR (sP σ) op ((sN σ (i5 + 1)).1) ((sN σ (i10 + 1)).1) ((sN σ (i5 + 1)).2) ((sN σ (i10 + 1)).2)).2))), .int (iN ((tp (opR (sP σ) op ((sN σ (i5 + 1)).1) ((sN σ (i10 + 1)).1) ((sN σ (i5 + 1)).2) ((sN σ (i10 + 1)).2)).2))), .int (iN ((nd (cN (opR (sP σ) op ((sN σ (i5 + 1)).1) ((sN σ (i10 + 1)).1) ((sN σ (i5 + 1)).2) ((sN σ (i10 + 1)).2)).2) : Int))), .ref a17]) := hO.at (nmc (Ne.symm ne_x_a13) (nmc (Ne.symm ne_kn_a13) nm0)) c_a13
              have k_a17 : μ25 a17 = some (lE cs 4 F20) := hO.at (nmc (Ne.symm ne_x_a17) (nmc (Ne.symm ne_kn_a17) nm0)) c_a17
              have k_wd : μ25 wd = some (lE cs 30 G21) := hO.at (nmc (fm_kn c_wd c_x rfl) (nmc (fm_kn c_wd c_kn rfl) nm0)) c_wd
              have k_lf : μ25 lf = some (lE cs 5 X22) := hO.at (nmc (fm_kn c_lf c_x rfl) (nmc (fm_kn c_lf c_kn rfl) nm0)) c_lf
              have k_x : μ25 x = some (oE 0 [.ref kc, .ref kn, .int (iN (((sC σ : Int) + 1))), .ref kr, .int (iN ((sR σ : Int))), .int (iN ((sL σ))), .ref (da 1), .ref (da 2), .ref (da 3)]) := hq
              have k_kn : μ25 kn = some (qE (cs 3) 100 (uF fn ((sC σ : Int)).toNat (some a13))) := hq2
              have hO0 := hO0.mono (l' := [x, kn, wd, lf, a17, a13]) (fun _ h => List.mem_cons_of_mem _ (List.mem_cons_of_mem _ (h)))
              have hO0 := hO0.tr1 hO (by simp)
              clear c_x c_kc c_kn c_kr c_da_0 c_dl_0 c_da_4_i5 c_dl_4_i5 c_da_4_i10 c_dl_4_i10 c_a13 c_a17 c_wd c_lf
              have c_kc := k_kc; clear k_kc
              have c_kr := k_kr; clear k_kr
              have c_da_0 := k_da_0; clear k_da_0
              have c_dl_0 := k_dl_0; clear k_dl_0
              have c_da_4_i5 := k_da_4_i5; clear k_da_4_i5
              have c_dl_4_i5 := k_dl_4_i5; clear k_dl_4_i5
              have c_da_4_i10 := k_da_4_i10; clear k_da_4_i10
              have c_dl_4_i10 := k_dl_4_i10; clear k_dl_4_i10
              have c_a13 := k_a13; clear k_a13
              have c_a17 := k_a17; clear k_a17
              have c_wd := k_wd; clear k_wd
              have c_lf := k_lf; clear k_lf
              have c_x := k_x; clear k_x
              have c_kn := k_kn; clear k_kn
              clear hq hq2 hO
              refine W.widen (k := 2) (n := 9) (Nat.le_of_ble_eq_true rfl) (Nat.le_of_ble_eq_true rfl) ?_
              refine fm_iret S hr hlocks hK hw d_AF_node_86 ?_
              rw [nodeW_2 hii5 hii10] at c_a13 hdF20 hvF20
              have hnw := nodeW_nd2 (σ := σ) (op := op) (a := na) (b := nb) hP (by rw [show na.toNat = i5 + 1 by omega]; exact hoki5) (fun _ => by rw [show nb.toNat = i10 + 1 by omega]; exact hoki10)
              have hq9 := hS.addN (a1 := a13) (a2 := a17) (w := nodeW σ op na nb) (f1 := (uF fn ((sC σ : Int)).toNat (some a13))) (fun f hf => by rw [j_kn] at hf; cases hf; rfl) hn100 hnw hf_a13 hf_a17 (hO0.mono (by intro q hq; simp at hq ⊢; omega)) c_x c_kn ⟨_, c_wd⟩ ⟨_, c_lf⟩ ⟨F20, c_a13, c_a17, hdF20, hvF20⟩
              unfold sp_node
              rw [if_neg (by omega), if_neg (fun q => q.elim (fun q => q hki5) (fun q => q.2 hki10)), if_neg (by omega)]
              exact ⟨hzx24, ⟨_, _, ra, hq9⟩, (kpR.of hO0 (okL.c j_x rfl (okL.c j_kn rfl (okL.c j_wd rfl (okL.c j_lf rfl (okL.f hf_a17 (okL.f hf_a13 okL.n)))))))⟩
            · refine fm_iconst S d_AF_node_58 ?_
              refine W.widen (k := 2) (n := 9) (Nat.le_of_ble_eq_true rfl) (Nat.le_of_ble_eq_true rfl) ?_
              refine fm_iret S hr hlocks hK hw d_AF_node_59 ?_
              unfold sp_node
              rw [if_neg (by omega), if_neg (fun q => q.elim (fun q => q hki5) (fun q => q.2 hki10)), if_pos (by omega)]
              exact ⟨rfl, ⟨da, dl, ra, hS⟩, kpR.rf⟩
          · rw [if_neg hki10] at q8
            subst q8
            show W p l e _ s m _ below meth c _ _ _ _ _ (F0 m 34 ls [.null])
            refine lv_astoreN (lv' := [(5, .null), (4, .ref (da (4 + i5))), (0, .ref x), (1, .int (iN (op))), (2, .int (iN (na))), (3, .int (iN (nb)))]) hx hb d_AF_node_34 hl (by decide) rfl (fun ls hl => ?_)
            refine lv_aload hx hb d_AF_node_36 (lv_at hl 1 rfl) ?_
            refine lv_ifnull hx hb d_AF_node_38 ?_
            refine lv_aloadN hx hb d_AF_node_41 (lv_at hl 0 rfl) ?_
            refine lv_ifnonnullN hx hb d_AF_node_43 ?_
            refine fm_bipush S d_AF_node_46 (by decide) ?_
            refine W.widen (k := 2) (n := 9) (Nat.le_of_ble_eq_true rfl) (Nat.le_of_ble_eq_true rfl) ?_
            refine fm_iret S hr hlocks hK hw d_AF_node_48 ?_
            unfold sp_node
            rw [if_neg (by omega), if_pos (Or.inr ⟨by omega, hki10⟩)]
            exact ⟨rfl, ⟨da, dl, ra, hS⟩, kpR.rf⟩
        · refine lv_aload hx hb d_AF_node_24 (lv_at hl 0 rfl) ?_
          refine lv_goto (tgt := 34) hx hb d_AF_node_26 (by decide) ?_
          refine lv_astore (lv' := [(5, .ref (da (4 + i5))), (4, .ref (da (4 + i5))), (0, .ref x), (1, .int (iN (op))), (2, .int (iN (na))), (3, .int (iN (nb)))]) hx hb d_AF_node_34 hl (by decide) rfl (fun ls hl => ?_)
          refine lv_aload hx hb d_AF_node_36 (lv_at hl 1 rfl) ?_
          refine lv_ifnull hx hb d_AF_node_38 ?_
          refine lv_aload hx hb d_AF_node_41 (lv_at hl 0 rfl) ?_
          refine lv_ifnonnull (tgt := 49) hx hb d_AF_node_43 (by decide) ?_
          refine lv_aload_n hx hb d_AF_node_49 rfl (lv_at hl 2 rfl) ?_
          refine fm_get S hK hw c_x i_AF rfl 2 (by decide) (hts _ k114) (fun _ h => h) rfl d_AF_node_50 ?_
          refine fm_bipush S d_AF_node_53 (by decide) ?_
          refine fm_icmp_lt (tgt := 60) S (by omega) (by omega) d_AF_node_55 (by decide) (fun c26 => ?_) (fun c26 => ?_)
          · have hn100 : sC σ < 100 := by omega
            refine fm_new (ci := 2) (fs := [.int (iN (0)), .int (iN (0)), .int (iN (0)), .int (iN (0)), .null]) S hK hw hA i_De rfl t_De t_De_ok (hts _ k23) (hts _ k27) (hts _ k2) z_De (Nat.le_of_ble_eq_true rfl) (Nat.le_of_ble_eq_true rfl) d_AF_node_60 (fun a27 μ28 H hw hn hq hO => ?_)
            have ne_x_a27 := nn_ne c_x hn
            have ne_kc_a27 := nn_ne c_kc hn
            have ne_wd_a27 := nn_ne c_wd hn
            have ne_lf_a27 := nn_ne c_lf hn
            have ne_kn_a27 := nn_ne c_kn hn
            have ne_kr_a27 := nn_ne c_kr hn
            have ne_da_0_a27 := nn_ne c_da_0 hn
            have ne_dl_0_a27 := nn_ne c_dl_0 hn
            have ne_da_4_i5_a27 := nn_ne c_da_4_i5 hn
            have ne_dl_4_i5_a27 := nn_ne c_dl_4_i5 hn
            have hf_a27 := hO0.fr hn nm0
            have hO0 := hO0.mono (l' := [a27]) (fun _ h => List.mem_cons_of_mem _ h)
            have k_x : μ28 x = some (oE 0 [.ref kc, .ref kn, .int (iN ((sC σ : Int))), .ref kr, .int (iN ((sR σ : Int))), .int (iN ((sL σ))), .ref (da 1), .ref (da 2), .ref (da 3)]) := hO.at (nmc ne_x_a27 nm0) c_x
            have k_kc : μ28 kc = some (oE 1 [.int (iN ((sP σ : Int))), .ref wd, .ref lf, .ref (da 0)]) := hO.at (nmc ne_kc_a27 nm0) c_kc
            have k_wd : μ28 wd = some (lE cs 30 G0) := hO.at (nmc ne_wd_a27 nm0) c_wd
            have k_lf : μ28 lf = some (lE cs 5 X0) := hO.at (nmc ne_lf_a27 nm0) c_lf
            have k_kn : μ28 kn = some (qE (cs 3) 100 fn) := hO.at (nmc ne_kn_a27 nm0) c_kn
            have k_kr : μ28 kr = some (qE (cs 4) 20 fr) := hO.at (nmc ne_kr_a27 nm0) c_kr
            have k_da_0 : μ28 (da 0) = some (oE 2 [.int (iN (0)), .int (iN ((sgn one300))), .int (iN ((tp one300))), .int (iN ((nd (cN one300) : Int))), .ref (dl 0)]) := hO.at (nmc ne_da_0_a27 nm0) c_da_0
            have k_dl_0 : μ28 (dl 0) = some (lE cs 4 FO) := hO.at (nmc ne_dl_0_a27 nm0) c_dl_0
            have k_da_4_i5 : μ28 (da (4 + i5)) = some (oE 2 [.int (iN ((sN σ (i5 + 1)).1)), .int (iN ((sgn (sN σ (i5 + 1)).2))), .int (iN ((tp (sN σ (i5 + 1)).2))), .int (iN ((nd (cN (sN σ (i5 + 1)).2) : Int))), .ref (dl (4 + i5))]) := hO.at (nmc ne_da_4_i5_a27 nm0) c_da_4_i5
            have k_dl_4_i5 : μ28 (dl (4 + i5)) = some (lE cs 4 F6) := hO.at (nmc ne_dl_4_i5_a27 nm0) c_dl_4_i5
            have k_a27 : μ28 a27 = some (oE 2 [.int (iN (0)), .int (iN (0)), .int (iN (0)), .int (iN (0)), .null]) := hq
            have hO0 := hO0.tr1 hO (by simp)
            clear c_x c_kc c_wd c_lf c_kn c_kr c_da_0 c_dl_0 c_da_4_i5 c_dl_4_i5
            have c_x := k_x; clear k_x
            have c_kc := k_kc; clear k_kc
            have c_wd := k_wd; clear k_wd
            have c_lf := k_lf; clear k_lf
            have c_kn := k_kn; clear k_kn
            have c_kr := k_kr; clear k_kr
            have c_da_0 := k_da_0; clear k_da_0
            have c_dl_0 := k_dl_0; clear k_dl_0
            have c_da_4_i5 := k_da_4_i5; clear k_da_4_i5
            have c_dl_4_i5 := k_dl_4_i5; clear k_dl_4_i5
            have c_a27 := k_a27; clear k_a27
            clear hn hq hO
            refine lv_dup hx hb d_AF_node_63 rfl ?_
            refine fm_callv (va_runIN (As := []) (rest := [.ref a27]) S (t_De_init l D cs Z hZo tT hZc μ28 _ a27 c_a27) ⟨cwNA 0 hts k30 rfl rfl hzc.2.2.1.1 k2 (by decide +kernel) (by decide), rfl, hts _ k29⟩ (fm_pre hZo hK hw hZ hA _) rfl rfl hl.1 rfl (lv_room (Nat.le_of_ble_eq_true rfl)) d_AF_node_64 ⟨Nat.le_of_ble_eq_true rfl, Nat.le_of_ble_eq_true rfl⟩) hw hA (fun μ30 H locs q29 hw => ?_)
            obtain ⟨a31, hn, hq, hq2, hO⟩ := q29
            have ne_x_a31 := nn_ne c_x hn
            have ne_kc_a31 := nn_ne c_kc hn
            have ne_wd_a31 := nn_ne c_wd hn
            have ne_lf_a31 := nn_ne c_lf hn
            have ne_kn_a31 := nn_ne c_kn hn
            have ne_kr_a31 := nn_ne c_kr hn
            have ne_da_0_a31 := nn_ne c_da_0 hn
            have ne_dl_0_a31 := nn_ne c_dl_0 hn
            have ne_da_4_i5_a31 := nn_ne c_da_4_i5 hn
            have ne_dl_4_i5_a31 := nn_ne c_dl_4_i5 hn
            have ne_a27_a31 := nn_ne c_a27 hn
            have hf_a31 := hO0.fr hn (nmc (Ne.symm ne_a27_a31) nm0)
            have hO0 := hO0.mono (l' := [a31, a27]) (fun _ h => List.mem_cons_of_mem _ h)
            have k_x : μ30 x = some (oE 0 [.ref kc, .ref kn, .int (iN ((sC σ : Int))), .ref kr, .int (iN ((sR σ : Int))), .int (iN ((sL σ))), .ref (da 1), .ref (da 2), .ref (da 3)]) := hO.at (nmc ne_x_a27 (nmc ne_x_a31 nm0)) c_x
            have k_kc : μ30 kc = some (oE 1 [.int (iN ((sP σ : Int))), .ref wd, .ref lf, .ref (da 0)]) := hO.at (nmc ne_kc_a27 (nmc ne_kc_a31 nm0)) c_kc
            have k_wd : μ30 wd = some (lE cs 30 G0) := hO.at (nmc ne_wd_a27 (nmc ne_wd_a31 nm0)) c_wd
            have k_lf : μ30 lf = some (lE cs 5 X0) := hO.at (nmc ne_lf_a27 (nmc ne_lf_a31 nm0)) c_lf
            have k_kn : μ30 kn = some (qE (cs 3) 100 fn) := hO.at (nmc ne_kn_a27 (nmc ne_kn_a31 nm0)) c_kn
            have k_kr : μ30 kr = some (qE (cs 4) 20 fr) := hO.at (nmc ne_kr_a27 (nmc ne_kr_a31 nm0)) c_kr
            have k_da_0 : μ30 (da 0) = some (oE 2 [.int (iN (0)), .int (iN ((sgn one300))), .int (iN ((tp one300))), .int (iN ((nd (cN one300) : Int))), .ref (dl 0)]) := hO.at (nmc ne_da_0_a27 (nmc ne_da_0_a31 nm0)) c_da_0
            have k_dl_0 : μ30 (dl 0) = some (lE cs 4 FO) := hO.at (nmc ne_dl_0_a27 (nmc ne_dl_0_a31 nm0)) c_dl_0
            have k_da_4_i5 : μ30 (da (4 + i5)) = some (oE 2 [.int (iN ((sN σ (i5 + 1)).1)), .int (iN ((sgn (sN σ (i5 + 1)).2))), .int (iN ((tp (sN σ (i5 + 1)).2))), .int (iN ((nd (cN (sN σ (i5 + 1)).2) : Int))), .ref (dl (4 + i5))]) := hO.at (nmc ne_da_4_i5_a27 (nmc ne_da_4_i5_a31 nm0)) c_da_4_i5
            have k_dl_4_i5 : μ30 (dl (4 + i5)) = some (lE cs 4 F6) := hO.at (nmc ne_dl_4_i5_a27 (nmc ne_dl_4_i5_a31 nm0)) c_dl_4_i5
            have k_a27 : μ30 a27 = some (oE 2 [.int (iN (0)), .int (iN (0)), .int (iN (0)), .int (iN (0)), .ref a31]) := hq
            have k_a31 : μ30 a31 = some (lE cs 4 (fun _ => 0)) := hq2
            have hO0 := hO0.tr1 hO (by simp)
            clear c_x c_kc c_wd c_lf c_kn c_kr c_da_0 c_dl_0 c_da_4_i5 c_dl_4_i5 c_a27
            have c_x := k_x; clear k_x
            have c_kc := k_kc; clear k_kc
            have c_wd := k_wd; clear k_wd
            have c_lf := k_lf; clear k_lf
            have c_kn := k_kn; clear k_kn
            have c_kr := k_kr; clear k_kr
            have c_da_0 := k_da_0; clear k_da_0
            have c_dl_0 := k_dl_0; clear k_dl_0
            have c_da_4_i5 := k_da_4_i5; clear k_da_4_i5
            have c_dl_4_i5 := k_dl_4_i5; clear k_dl_4_i5
            have c_a27 := k_a27; clear k_a27
            have c_a31 := k_a31; clear k_a31
            clear hn hq hq2 hO
            refine lv_astore (lv' := [(6, .ref a27), (5, .ref (da (4 + i5))), (4, .ref (da (4 + i5))), (0, .ref x), (1, .int (iN (op))), (2, .int (iN (na))), (3, .int (iN (nb)))]) hx hb d_AF_node_67 hl (by decide) rfl (fun ls hl => ?_)
            refine lv_aload_n hx hb d_AF_node_69 rfl (lv_at hl 3 rfl) ?_
            refine lv_iload_n hx hb d_AF_node_70 rfl (lv_at hl 4 rfl) ?_
            refine lv_aload hx hb d_AF_node_71 (lv_at hl 0 rfl) ?_
            refine lv_aload hx hb d_AF_node_73 (lv_at hl 2 rfl) ?_
            refine lv_aload hx hb d_AF_node_75 (lv_at hl 1 rfl) ?_
            have h1i5 := hoki5.1
            have h2i5 := hoki5.2.1
            refine fm_callv (va_runV (As := [.int (iN (op)), .ref a27, .ref (da (4 + i5)), .ref (da (4 + i5))]) (rest := []) S (t_AF_operate l D cs Z hZo tT hZc μ30 _ x kn kr (da 1) (da 2) (da 3) (sC σ : Int) (sR σ : Int) (sL σ) kc wd lf (da 0) (sP σ) G0 X0 a27 a31 0 0 0 0 (fun _ => 0) (da (4 + i5)) (dl (4 + i5)) ((sN σ (i5 + 1)).1) ((sN σ (i5 + 1)).2) F6 (da (4 + i5)) (dl (4 + i5)) ((sN σ (i5 + 1)).1) ((sN σ (i5 + 1)).2) F6 (dl 0) FO op (by omega) (by omega) hdF6 hvF6 hdF6 hvF6 hP hdFO (ne_da_4_i5_a27) (ne_dl_4_i5_a31) (ne_da_0_a27) (ne_dl_0_a31) (by omega) (hoki5.2.2.2) c_x c_kc c_wd c_a27 c_a31 c_da_4_i5 c_dl_4_i5 c_da_4_i5 c_dl_4_i5 c_lf c_da_0 c_dl_0) (cwV 4 hts (gV k158 k160 ks2 k1 k161) rfl rfl rfl (by decide +kernel) (by decide)) (fm_preV hZo hK hw hZ hA c_x rfl _) rfl rfl hl.1 rfl (lv_room (Nat.le_of_ble_eq_true rfl)) d_AF_node_77 ⟨Nat.le_of_ble_eq_true rfl, Nat.le_of_ble_eq_true rfl⟩) hw hA (fun μ33 H locs q32 hw => ?_)
            obtain ⟨⟨F34, hq, hq2, hdF34, hvF34⟩, ⟨G35, hq3⟩, ⟨X36, hq4⟩, hO⟩ := q32
            have k_x : μ33 x = some (oE 0 [.ref kc, .ref kn, .int (iN ((sC σ : Int))), .ref kr, .int (iN ((sR σ : Int))), .int (iN ((sL σ))), .ref (da 1), .ref (da 2), .ref (da 3)]) := hO.at (nmc ne_x_a27 (nmc ne_x_a31 (nmc (fm_kn c_x c_wd rfl) (nmc (fm_kn c_x c_lf rfl) nm0)))) c_x
            have k_kc : μ33 kc = some (oE 1 [.int (iN ((sP σ : Int))), .ref wd, .ref lf, .ref (da 0)]) := hO.at (nmc ne_kc_a27 (nmc ne_kc_a31 (nmc (fm_kn c_kc c_wd rfl) (nmc (fm_kn c_kc c_lf rfl) nm0)))) c_kc
            have k_kn : μ33 kn = some (qE (cs 3) 100 fn) := hO.at (nmc ne_kn_a27 (nmc ne_kn_a31 (nmc (fm_kn c_kn c_wd rfl) (nmc (fm_kn c_kn c_lf rfl) nm0)))) c_kn
            have k_kr : μ33 kr = some (qE (cs 4) 20 fr) := hO.at (nmc ne_kr_a27 (nmc ne_kr_a31 (nmc (fm_kn c_kr c_wd rfl) (nmc (fm_kn c_kr c_lf rfl) nm0)))) c_kr
            have k_da_0 : μ33 (da 0) = some (oE 2 [.int (iN (0)), .int (iN ((sgn one300))), .int (iN ((tp one300))), .int (iN ((nd (cN one300) : Int))), .ref (dl 0)]) := hO.at (nmc ne_da_0_a27 (nmc ne_da_0_a31 (nmc (fm_kn c_da_0 c_wd rfl) (nmc (fm_kn c_da_0 c_lf rfl) nm0)))) c_da_0
            have k_dl_0 : μ33 (dl 0) = some (lE cs 4 FO) := hO.at (nmc ne_dl_0_a27 (nmc ne_dl_0_a31 (nmc (fm_kn c_dl_0 c_wd rfl) (nmc (fm_kn c_dl_0 c_lf rfl) nm0)))) c_dl_0
            have k_da_4_i5 : μ33 (da (4 + i5)) = some (oE 2 [.int (iN ((sN σ (i5 + 1)).1)), .int (iN ((sgn (sN σ (i5 + 1)).2))), .int (iN ((tp (sN σ (i5 + 1)).2))), .int (iN ((nd (cN (sN σ (i5 + 1)).2) : Int))), .ref (dl (4 + i5))]) := hO.at (nmc ne_da_4_i5_a27 (nmc ne_da_4_i5_a31 (nmc (fm_kn c_da_4_i5 c_wd rfl) (nmc (fm_kn c_da_4_i5 c_lf rfl) nm0)))) c_da_4_i5
            have k_dl_4_i5 : μ33 (dl (4 + i5)) = some (lE cs 4 F6) := hO.at (nmc ne_dl_4_i5_a27 (nmc ne_dl_4_i5_a31 (nmc (fm_kn c_dl_4_i5 c_wd rfl) (nmc (fm_kn c_dl_4_i5 c_lf rfl) nm0)))) c_dl_4_i5
            have k_a27 : μ33 a27 = some (oE 2 [.int (iN ((opR (sP σ) op ((sN σ (i5 + 1)).1) ((sN σ (i5 + 1)).1) ((sN σ (i5 + 1)).2) ((sN σ (i5 + 1)).2)).1)), .int (iN ((sgn (opR (sP σ) op ((sN σ (i5 + 1)).1) ((sN σ (i5 + 1)).1) ((sN σ (i5 + 1)).2) ((sN σ (i5 + 1)).2)).2))), .int (iN ((tp (opR (sP σ) op ((sN σ (i5 + 1)).1) ((sN σ (i5 + 1)).1) ((sN σ (i5 + 1)).2) ((sN σ (i5 + 1)).2)).2))), .int (iN ((nd (cN (opR (sP σ) op ((sN σ (i5 + 1)).1) ((sN σ (i5 + 1)).1) ((sN σ (i5 + 1)).2) ((sN σ (i5 + 1)).2)).2) : Int))), .ref a31]) := hq
            have k_a31 : μ33 a31 = some (lE cs 4 F34) := hq2
            have k_wd : μ33 wd = some (lE cs 30 G35) := hq3
            have k_lf : μ33 lf = some (lE cs 5 X36) := hq4
            have hO0 := hO0.mono (l' := [wd, lf, a31, a27]) (fun _ h => List.mem_cons_of_mem _ (List.mem_cons_of_mem _ (h)))
            have hO0 := hO0.tr1 hO (by simp)
            clear c_x c_kc c_wd c_lf c_kn c_kr c_da_0 c_dl_0 c_da_4_i5 c_dl_4_i5 c_a27 c_a31
            have c_x := k_x; clear k_x
            have c_kc := k_kc; clear k_kc
            have c_kn := k_kn; clear k_kn
            have c_kr := k_kr; clear k_kr
            have c_da_0 := k_da_0; clear k_da_0
            have c_dl_0 := k_dl_0; clear k_dl_0
            have c_da_4_i5 := k_da_4_i5; clear k_da_4_i5
            have c_dl_4_i5 := k_dl_4_i5; clear k_dl_4_i5
            have c_a27 := k_a27; clear k_a27
            have c_a31 := k_a31; clear k_a31
            have c_wd := k_wd; clear k_wd
            have c_lf := k_lf; clear k_lf
            clear hq hq2 hq3 hq4 hO
            refine lv_aload_n hx hb d_AF_node_80 rfl (lv_at hl 3 rfl) ?_
            refine lv_aload hx hb d_AF_node_81 (lv_at hl 0 rfl) ?_
            refine fm_calli (va_runV (As := [.ref a27]) (rest := []) S (t_AF_keepNode l D cs Z hZo tT hZc μ33 _ x kn kr (da 1) (da 2) (da 3) (sC σ : Int) (sR σ : Int) (sL σ) kc fn a27 a31 ((opR (sP σ) op ((sN σ (i5 + 1)).1) ((sN σ (i5 + 1)).1) ((sN σ (i5 + 1)).2) ((sN σ (i5 + 1)).2)).1) (sgn (opR (sP σ) op ((sN σ (i5 + 1)).1) ((sN σ (i5 + 1)).1) ((sN σ (i5 + 1)).2) ((sN σ (i5 + 1)).2)).2) (tp (opR (sP σ) op ((sN σ (i5 + 1)).1) ((sN σ (i5 + 1)).1) ((sN σ (i5 + 1)).2) ((sN σ (i5 + 1)).2)).2) (nd (cN (opR (sP σ) op ((sN σ (i5 + 1)).1) ((sN σ (i5 + 1)).1) ((sN σ (i5 + 1)).2) ((sN σ (i5 + 1)).2)).2) : Int) (by omega) c_x c_kn c_a27) (cwV 1 hts (gV k146 k148 ks0 k1 k149) rfl rfl rfl (by decide +kernel) (by decide)) (fm_preV hZo hK hw hZ hA c_x rfl _) rfl rfl hl.1 rfl (lv_room (Nat.le_of_ble_eq_true rfl)) d_AF_node_83 ⟨Nat.le_of_ble_eq_true rfl, Nat.le_of_ble_eq_true rfl⟩) hw hA (fun x38 μ39 H locs q37 hw => ?_)
            obtain ⟨hzx38, hq, hq2, hO⟩ := q37
            have k_kc : μ39 kc = some (oE 1 [.int (iN ((sP σ : Int))), .ref wd, .ref lf, .ref (da 0)]) := hO.at (nmc (fm_kn c_kc c_x rfl) (nmc (fm_kn c_kc c_kn rfl) nm0)) c_kc
            have k_kr : μ39 kr = some (qE (cs 4) 20 fr) := hO.at (nmc (fm_kn c_kr c_x rfl) (nmc (fm_kn c_kr c_kn rfl) nm0)) c_kr
            have k_da_0 : μ39 (da 0) = some (oE 2 [.int (iN (0)), .int (iN ((sgn one300))), .int (iN ((tp one300))), .int (iN ((nd (cN one300) : Int))), .ref (dl 0)]) := hO.at (nmc (fm_kn c_da_0 c_x rfl) (nmc (fm_kn c_da_0 c_kn rfl) nm0)) c_da_0
            have k_dl_0 : μ39 (dl 0) = some (lE cs 4 FO) := hO.at (nmc (fm_kn c_dl_0 c_x rfl) (nmc (fm_kn c_dl_0 c_kn rfl) nm0)) c_dl_0
            have k_da_4_i5 : μ39 (da (4 + i5)) = some (oE 2 [.int (iN ((sN σ (i5 + 1)).1)), .int (iN ((sgn (sN σ (i5 + 1)).2))), .int (iN ((tp (sN σ (i5 + 1)).2))), .int (iN ((nd (cN (sN σ (i5 + 1)).2) : Int))), .ref (dl (4 + i5))]) := hO.at (nmc (fm_kn c_da_4_i5 c_x rfl) (nmc (fm_kn c_da_4_i5 c_kn rfl) nm0)) c_da_4_i5
            have k_dl_4_i5 : μ39 (dl (4 + i5)) = some (lE cs 4 F6) := hO.at (nmc (fm_kn c_dl_4_i5 c_x rfl) (nmc (fm_kn c_dl_4_i5 c_kn rfl) nm0)) c_dl_4_i5
            have k_a27 : μ39 a27 = some (oE 2 [.int (iN ((opR (sP σ) op ((sN σ (i5 + 1)).1) ((sN σ (i5 + 1)).1) ((sN σ (i5 + 1)).2) ((sN σ (i5 + 1)).2)).1)), .int (iN ((sgn (opR (sP σ) op ((sN σ (i5 + 1)).1) ((sN σ (i5 + 1)).1) ((sN σ (i5 + 1)).2) ((sN σ (i5 + 1)).2)).2))), .int (iN ((tp (opR (sP σ) op ((sN σ (i5 + 1)).1) ((sN σ (i5 + 1)).1) ((sN σ (i5 + 1)).2) ((sN σ (i5 + 1)).2)).2))), .int (iN ((nd (cN (opR (sP σ) op ((sN σ (i5 + 1)).1) ((sN σ (i5 + 1)).1) ((sN σ (i5 + 1)).2) ((sN σ (i5 + 1)).2)).2) : Int))), .ref a31]) := hO.at (nmc (Ne.symm ne_x_a27) (nmc (Ne.symm ne_kn_a27) nm0)) c_a27
            have k_a31 : μ39 a31 = some (lE cs 4 F34) := hO.at (nmc (Ne.symm ne_x_a31) (nmc (Ne.symm ne_kn_a31) nm0)) c_a31
            have k_wd : μ39 wd = some (lE cs 30 G35) := hO.at (nmc (fm_kn c_wd c_x rfl) (nmc (fm_kn c_wd c_kn rfl) nm0)) c_wd
            have k_lf : μ39 lf = some (lE cs 5 X36) := hO.at (nmc (fm_kn c_lf c_x rfl) (nmc (fm_kn c_lf c_kn rfl) nm0)) c_lf
            have k_x : μ39 x = some (oE 0 [.ref kc, .ref kn, .int (iN (((sC σ : Int) + 1))), .ref kr, .int (iN ((sR σ : Int))), .int (iN ((sL σ))), .ref (da 1), .ref (da 2), .ref (da 3)]) := hq
            have k_kn : μ39 kn = some (qE (cs 3) 100 (uF fn ((sC σ : Int)).toNat (some a27))) := hq2
            have hO0 := hO0.mono (l' := [x, kn, wd, lf, a31, a27]) (fun _ h => List.mem_cons_of_mem _ (List.mem_cons_of_mem _ (h)))
            have hO0 := hO0.tr1 hO (by simp)
            clear c_x c_kc c_kn c_kr c_da_0 c_dl_0 c_da_4_i5 c_dl_4_i5 c_a27 c_a31 c_wd c_lf
            have c_kc := k_kc; clear k_kc
            have c_kr := k_kr; clear k_kr
            have c_da_0 := k_da_0; clear k_da_0
            have c_dl_0 := k_dl_0; clear k_dl_0
            have c_da_4_i5 := k_da_4_i5; clear k_da_4_i5
            have c_dl_4_i5 := k_dl_4_i5; clear k_dl_4_i5
            have c_a27 := k_a27; clear k_a27
            have c_a31 := k_a31; clear k_a31
            have c_wd := k_wd; clear k_wd
            have c_lf := k_lf; clear k_lf
            have c_x := k_x; clear k_x
            have c_kn := k_kn; clear k_kn
            clear hq hq2 hO
            refine W.widen (k := 2) (n := 9) (Nat.le_of_ble_eq_true rfl) (Nat.le_of_ble_eq_true rfl) ?_
            refine fm_iret S hr hlocks hK hw d_AF_node_86 ?_
            have h5c : op = 5 := by omega
            subst h5c
            rw [nodeW_5 (b := nb) hii5 hoki5] at c_a27 hdF34 hvF34
            have hnw := nodeW_nd2 (σ := σ) (op := 5) (a := na) (b := nb) hP (by rw [show na.toNat = i5 + 1 by omega]; exact hoki5) (fun q => absurd q (by decide))
            have hq9 := hS.addN (a1 := a27) (a2 := a31) (w := nodeW σ 5 na nb) (f1 := (uF fn ((sC σ : Int)).toNat (some a27))) (fun f hf => by rw [j_kn] at hf; cases hf; rfl) hn100 hnw hf_a27 hf_a31 (hO0.mono (by intro q hq; simp at hq ⊢; omega)) c_x c_kn ⟨_, c_wd⟩ ⟨_, c_lf⟩ ⟨F34, c_a27, c_a31, hdF34, hvF34⟩
            unfold sp_node
            rw [if_neg (by omega), if_neg (fun q => q.elim (fun q => q hki5) (fun q => absurd q.1 (by omega))), if_neg (by omega)]
            exact ⟨hzx38, ⟨_, _, ra, hq9⟩, (kpR.of hO0 (okL.c j_x rfl (okL.c j_kn rfl (okL.c j_wd rfl (okL.c j_lf rfl (okL.f hf_a31 (okL.f hf_a27 okL.n)))))))⟩
          · refine fm_iconst S d_AF_node_58 ?_
            refine W.widen (k := 2) (n := 9) (Nat.le_of_ble_eq_true rfl) (Nat.le_of_ble_eq_true rfl) ?_
            refine fm_iret S hr hlocks hK hw d_AF_node_59 ?_
            unfold sp_node
            rw [if_neg (by omega), if_neg (fun q => q.elim (fun q => q hki5) (fun q => absurd q.1 (by omega))), if_pos (by omega)]
            exact ⟨rfl, ⟨da, dl, ra, hS⟩, kpR.rf⟩
      · rw [if_neg hki5] at q3
        subst q3
        show W p l e _ s m _ below meth c _ _ _ _ _ (F0 m 17 ls [.null])
        refine lv_astoreN (lv' := [(4, .null), (0, .ref x), (1, .int (iN (op))), (2, .int (iN (na))), (3, .int (iN (nb)))]) hx hb d_AF_node_17 hl (by decide) rfl (fun ls hl => ?_)
        refine lv_iload_n hx hb d_AF_node_19 rfl (lv_at hl 2 rfl) ?_
        refine fm_iconst S d_AF_node_20 ?_
        refine fm_icmp_ne (tgt := 29) S (by omega) (by omega) d_AF_node_21 (by decide) (fun c40 => ?_) (fun c40 => ?_)
        · refine lv_aload_n hx hb d_AF_node_29 rfl (lv_at hl 1 rfl) ?_
          refine lv_iload_n hx hb d_AF_node_30 rfl (lv_at hl 4 rfl) ?_
          refine fm_callSq (va_runV (As := [.int (iN (nb))]) (rest := []) S (t_AF_nodeAt l D cs Z hZo tT hZc μ _ x kc kn kr wd lf da dl ra σ nb hS (by omega)) (cwV 1 hts (gV k154 k156 ks1 k1 k157) rfl rfl rfl (by decide +kernel) (by decide)) (fm_preV hZo hK hw hZ hA c_x rfl _) rfl rfl hl.1 rfl (lv_room (Nat.le_of_ble_eq_true rfl)) d_AF_node_31 ⟨Nat.le_of_ble_eq_true rfl, Nat.le_of_ble_eq_true rfl⟩) (fun x42 q41 => ?_)
          by_cases hki43 : 0 < nb ∧ nb ≤ (sC σ : Int)
          · rw [if_pos hki43] at q41
            obtain ⟨i43, hii43⟩ : ∃ i43 : Nat, nb = (i43 : Int) + 1 := ⟨(nb - 1).toNat, by omega⟩
            rw [show (nb - 1).toNat = i43 by omega] at q41
            subst q41
            show W p l e _ s m _ below meth c _ _ _ _ _ (F0 m 34 ls [.ref (da (4 + i43))])
            obtain ⟨F44, c_da_4_i43, c_dl_4_i43, hdF44, hvF44⟩ := hS.dN i43 (by omega)
            have hoki43 := hok.2.2.2.2.2.2.1 (i43 + 1) (by omega) (by omega)
            refine lv_astore (lv' := [(5, .ref (da (4 + i43))), (4, .null), (0, .ref x), (1, .int (iN (op))), (2, .int (iN (na))), (3, .int (iN (nb)))]) hx hb d_AF_node_34 hl (by decide) rfl (fun ls hl => ?_)
            refine lv_aloadN hx hb d_AF_node_36 (lv_at hl 1 rfl) ?_
            refine lv_ifnullN (tgt := 46) hx hb d_AF_node_38 (by decide) ?_
            refine fm_bipush S d_AF_node_46 (by decide) ?_
            refine W.widen (k := 2) (n := 9) (Nat.le_of_ble_eq_true rfl) (Nat.le_of_ble_eq_true rfl) ?_
            refine fm_iret S hr hlocks hK hw d_AF_node_48 ?_
            unfold sp_node
            rw [if_neg (by omega), if_pos (Or.inl hki5)]
            exact ⟨rfl, ⟨da, dl, ra, hS⟩, kpR.rf⟩
          · rw [if_neg hki43] at q41
            subst q41
            show W p l e _ s m _ below meth c _ _ _ _ _ (F0 m 34 ls [.null])
            refine lv_astoreN (lv' := [(5, .null), (4, .null), (0, .ref x), (1, .int (iN (op))), (2, .int (iN (na))), (3, .int (iN (nb)))]) hx hb d_AF_node_34 hl (by decide) rfl (fun ls hl => ?_)
            refine lv_aloadN hx hb d_AF_node_36 (lv_at hl 1 rfl) ?_
            refine lv_ifnullN (tgt := 46) hx hb d_AF_node_38 (by decide) ?_
            refine fm_bipush S d_AF_node_46 (by decide) ?_
            refine W.widen (k := 2) (n := 9) (Nat.le_of_ble_eq_true rfl) (Nat.le_of_ble_eq_true rfl) ?_
            refine fm_iret S hr hlocks hK hw d_AF_node_48 ?_
            unfold sp_node
            rw [if_neg (by omega), if_pos (Or.inl hki5)]
            exact ⟨rfl, ⟨da, dl, ra, hS⟩, kpR.rf⟩
        · refine lv_aloadN hx hb d_AF_node_24 (lv_at hl 0 rfl) ?_
          refine lv_goto (tgt := 34) hx hb d_AF_node_26 (by decide) ?_
          refine lv_astoreN (lv' := [(5, .null), (4, .null), (0, .ref x), (1, .int (iN (op))), (2, .int (iN (na))), (3, .int (iN (nb)))]) hx hb d_AF_node_34 hl (by decide) rfl (fun ls hl => ?_)
          refine lv_aloadN hx hb d_AF_node_36 (lv_at hl 1 rfl) ?_
          refine lv_ifnullN (tgt := 46) hx hb d_AF_node_38 (by decide) ?_
          refine fm_bipush S d_AF_node_46 (by decide) ?_
          refine W.widen (k := 2) (n := 9) (Nat.le_of_ble_eq_true rfl) (Nat.le_of_ble_eq_true rfl) ?_
          refine fm_iret S hr hlocks hK hw d_AF_node_48 ?_
          unfold sp_node
          rw [if_neg (by omega), if_pos (Or.inl hki5)]
          exact ⟨rfl, ⟨da, dl, ra, hS⟩, kpR.rf⟩
    · refine fm_bipush S d_AF_node_9 (by decide) ?_
      refine W.widen (k := 2) (n := 9) (Nat.le_of_ble_eq_true rfl) (Nat.le_of_ble_eq_true rfl) ?_
      refine fm_iret S hr hlocks hK hw d_AF_node_11 ?_
      unfold sp_node
      rw [if_pos (by omega)]
      exact ⟨rfl, ⟨da, dl, ra, hS⟩, kpR.rf⟩
