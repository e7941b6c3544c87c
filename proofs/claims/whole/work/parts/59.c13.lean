/-- the answer of an operation on nodes that may be raised -/
def opR (P : Nat) (op ca cb va vb : Int) : Int × Int := if ca ≠ 0 then (ca, 0) else if op < 5 ∧ cb ≠ 0 then (cb, 0) else sOp P op va vb
theorem opR_W {P : Nat} {op ca cb va vb : Int} (h : op < 5) : opW ca cb (sOp P op va vb) = opR P op ca cb va vb := by
  unfold opW opR
  by_cases h1 : ca = 0
  · subst h1
    by_cases h2 : cb = 0
    · subst h2; simp
    · simp [h2, h]
  · rw [if_pos h1, if_pos h1]
theorem opR_5 {P : Nat} {ca cb va vb : Int} (h : ca ≠ 0 → va = 0) : opR P 5 ca cb va vb = (ca, -va) := by
  unfold opR
  by_cases h1 : ca = 0
  · rw [if_neg (by omega), if_neg (by omega), h1]; rfl
  · rw [if_pos h1, h h1]; rfl
theorem neg_l {v : Int} : sgn (-v) = - sgn v ∧ tp (-v) = tp v ∧ cN (-v) = cN v ∧ mN (-v) = mN v := by
  have h1 : cN (-v) = cN v := by unfold cN; rw [Int.natAbs_neg]
  have h2 : cX (-v) = cX v := by unfold cX; rw [Int.natAbs_neg]; by_cases h : v = 0 <;> simp [h]
  have h3 : sgn (-v) = - sgn v := by unfold sgn; (repeat' split) <;> omega
  refine ⟨h3, ?_, h1, by unfold mN; rw [h1]⟩
  unfold tp
  rw [h1, h2]
  by_cases h : v = 0 <;> simp [h]
theorem neg_dB {v : Int} (h : dB v) : dB (-v) := by
  unfold dB at h ⊢
  rw [neg_l.2.2.1, neg_l.2.1]
  exact ⟨h.1, h.2.elim (fun e => Or.inl (by omega)) Or.inr⟩
theorem neg_dF {F : Int → Int} {v : Int} (h : dF F v) : dF F (-v) := ⟨h.1, by rw [neg_l.2.2.2]; exact h.2⟩
theorem sOp_0 {P : Nat} {a b : Int} : sAdd P a (1 * b) = sOp P 0 a b := by unfold sOp; rw [if_pos rfl, Int.one_mul]
theorem sOp_1 {P : Nat} {a b : Int} : sAdd P a (-1 * b) = sOp P 1 a b := by unfold sOp; rw [if_neg (by decide), if_pos rfl]; congr 1; omega
theorem sOp_2 {P : Nat} {a b : Int} : sMul P a b = sOp P 2 a b := by unfold sOp; rw [if_neg (by decide), if_neg (by decide), if_pos rfl]
theorem sOp_3 {P : Nat} {a b : Int} : sDiv P a b = sOp P 3 a b := by unfold sOp; rw [if_neg (by decide), if_neg (by decide), if_neg (by decide), if_pos rfl]
theorem sOp_4 {P : Nat} {a b : Int} : sPow P a b = sOp P 4 a b := by unfold sOp; rw [if_neg (by decide), if_neg (by decide), if_neg (by decide), if_neg (by decide), if_pos rfl]

set_option maxHeartbeats 4000000 in
set_option maxRecDepth 100000 in
/-- calculate(op, into, a, b) -/
theorem t_AF_calculate (l : Launch) (D : va_G) (cs : Nat → ClassId) (Z : (Nat → Prop) → State → Heap → Prop) (hZo : fm_Zok Z) (tT : Nat) (hZc : ∀ A U H, Z A U H → Zc tT A U H) (μ : fm_Mu) (sz : Nat) (x : Nat) (kn : Nat) (kr : Nat) (b1 : Nat) (b2 : Nat) (b3 : Nat) (n1 : Int) (n2 : Int) (n3 : Int) (k : Nat) (w : Nat) (lf : Nat) (on : Nat) (P : Nat) (G : Int → Int) (X : Int → Int) (h : Nat) (a : Nat) (co : Int) (sg : Int) (tq : Int) (ct : Int) (F : Int → Int) (ga : Nat) (la : Nat) (ca : Int) (va : Int) (FA : Int → Int) (gb : Nat) (lb : Nat) (cb : Int) (vb : Int) (FB : Int → Int) (op : Int) (hca : inI ca) (hcb : inI cb) (hda : dF FA va) (hva : dB va) (hdb : dF FB vb) (hvb : dB vb) (hP : 1 ≤ P ∧ P ≤ 31) (hop : 0 ≤ op ∧ op ≤ 3) (c_x : μ x = some (oE 0 [.ref k, .ref kn, .int (iN (n1)), .ref kr, .int (iN (n2)), .int (iN (n3)), .ref b1, .ref b2, .ref b3])) (c_k : μ k = some (oE 1 [.int (iN ((P : Int))), .ref w, .ref lf, .ref on])) (c_w : μ w = some (lE cs 30 G)) (c_h : μ h = some (oE 2 [.int (iN (co)), .int (iN (sg)), .int (iN (tq)), .int (iN (ct)), .ref a])) (c_a : μ a = some (lE cs 4 F)) (c_ga : μ ga = some (oE 2 [.int (iN (ca)), .int (iN ((sgn va))), .int (iN ((tp va))), .int (iN ((nd (cN va) : Int))), .ref la])) (c_la : μ la = some (lE cs 4 FA)) (c_gb : μ gb = some (oE 2 [.int (iN (cb)), .int (iN ((sgn vb))), .int (iN ((tp vb))), .int (iN ((nd (cN vb) : Int))), .ref lb])) (c_lb : μ lb = some (lE cs 4 FB)) (c_lf : μ lf = some (lE cs 5 X)) : Met l y_AF_calculate (Cond.code y_AF_calculate c_AF_calculate 5 none :: wA) ({ frames := 5, cells := 0, slots := 0, locals := 124 }) (fm_Pc D clsA (tysA cs) Z μ sz [.ref x, .int (iN (op)), .ref h, .ref ga, .ref gb]) (fm_Qv D clsA (tysA cs) μ sz (fun μ' => Dc cs μ' h a (opW ca cb (sOp P op va vb)).1 (opW ca cb (sOp P op va vb)).2 ∧ (∃ G' : Int → Int, μ' w = some (lE cs 30 G')) ∧ (∃ X' : Int → Int, μ' lf = some (lE cs 5 X')) ∧ fm_O μ μ' [h, a, w, lf])) 0 0 (fm_A μ sz) := by
  refine cl_of (by decide +kernel) (Nat.le_of_ble_eq_true rfl) (fun p e s m below meth c S hr hlocks hnm hsz hw hK hZ hA ls hl => ?_)
  subst hsz
  replace S : CallFix p m c c_AF_calculate 5 s _ wA "ArithmeticForms" := S
  obtain ⟨hx, hb, hml, hown, hts⟩ := id S
  have hzc := hZc _ _ _ hZ
  have hO0 : fm_O μ μ [h, a, w, lf] := fm_O.rf
  have hl : lv_has ls 5 [(0, .ref x), (1, .int (iN (op))), (2, .ref h), (3, .ref ga), (4, .ref gb)] := hl
  refine lv_iload_n hx hb d_AF_calculate_0 rfl (lv_at hl 1 rfl) ?_
  rcases (show op = 0 ∨ op = 1 ∨ op = 2 ∨ (op < 0 ∨ 2 < op) by omega) with c1 | c1 | c1 | c1
  · refine lv_tableIn (tgt := 28) hx hb d_AF_calculate_1 (by rw [iN_toInt (by omega)]; omega) (by rw [iN_toInt (by omega)]; omega) (by rw [iN_toInt (by omega), c1]; rfl) (by decide) ?_
    refine lv_aload_n hx hb d_AF_calculate_28 rfl (lv_at hl 0 rfl) ?_
    refine fm_get S hK hw c_x i_AF rfl 0 (by decide) (hts _ k112) (fun _ h => h) rfl d_AF_calculate_29 ?_
    refine lv_aload_n hx hb d_AF_calculate_32 rfl (lv_at hl 2 rfl) ?_
    refine lv_aload_n hx hb d_AF_calculate_33 rfl (lv_at hl 3 rfl) ?_
    refine lv_aload hx hb d_AF_calculate_34 (lv_at hl 4 rfl) ?_
    refine fm_iconst S d_AF_calculate_36 ?_
    refine fm_callv (va_runV (As := [.ref h, .ref ga, .ref gb, .int (iN (1))]) (rest := []) S (t_Ca_add l D cs Z hZo tT hZc μ _ k w lf on P G h a co sg tq ct F ga la ca va FA gb lb cb vb FB 1 (by omega) (by omega) hda hva hdb hvb hP (Or.inl rfl) c_k c_w c_h c_a c_ga c_la c_gb c_lb) (cwV 4 hts (gV k251 k252 k253 k3 k254) rfl rfl rfl (by decide +kernel) (by decide)) (fm_preV hZo hK hw hZ hA c_k rfl _) rfl rfl hl.1 rfl (lv_room (Nat.le_of_ble_eq_true rfl)) d_AF_calculate_37 ⟨Nat.le_of_ble_eq_true rfl, Nat.le_of_ble_eq_true rfl⟩) hw hA (fun μ3 H locs q2 hw => ?_)
    obtain ⟨⟨F4, hq, hq2, hdF4, hvF4⟩, ⟨G5, hq3⟩, hO⟩ := q2
    have k_x : μ3 x = some (oE 0 [.ref k, .ref kn, .int (iN (n1)), .ref kr, .int (iN (n2)), .int (iN (n3)), .ref b1, .ref b2, .ref b3]) := hO.at (nmc (fm_kn c_x c_h rfl) (nmc (fm_kn c_x c_a rfl) (nmc (fm_kn c_x c_w rfl) nm0))) c_x
    have k_k : μ3 k = some (oE 1 [.int (iN ((P : Int))), .ref w, .ref lf, .ref on]) := hO.at (nmc (fm_kn c_k c_h rfl) (nmc (fm_kn c_k c_a rfl) (nmc (fm_kn c_k c_w rfl) nm0))) c_k
    have k_lf : μ3 lf = some (lE cs 5 X) := hO.at (nmc (fm_kn c_lf c_h rfl) (nmc (fm_kn c_lf c_a rfl) (nmc (fm_kn c_lf c_w rfl) nm0))) c_lf
    have k_h : μ3 h = some (oE 2 [.int (iN ((opW ca cb (sAdd P va (1 * vb))).1)), .int (iN ((sgn (opW ca cb (sAdd P va (1 * vb))).2))), .int (iN ((tp (opW ca cb (sAdd P va (1 * vb))).2))), .int (iN ((nd (cN (opW ca cb (sAdd P va (1 * vb))).2) : Int))), .ref a]) := hq
    have k_a : μ3 a = some (lE cs 4 F4) := hq2
    have k_w : μ3 w = some (lE cs 30 G5) := hq3
    have hO0 := hO0.tr1 hO (by simp)
    clear c_x c_k c_w c_h c_a c_ga c_la c_gb c_lb c_lf
    have c_x := k_x; clear k_x
    have c_k := k_k; clear k_k
    have c_lf := k_lf; clear k_lf
    have c_h := k_h; clear k_h
    have c_a := k_a; clear k_a
    have c_w := k_w; clear k_w
    clear hq hq2 hq3 hO
    refine lv_goto (tgt := 83) hx hb d_AF_calculate_40 (by decide) ?_
    refine fm_vret S hr hlocks hK hw d_AF_calculate_83 ?_
    have hop : op = 0 := by omega
    subst hop
    rw [sOp_0] at c_h hdF4 hvF4
    exact ⟨⟨F4, c_h, c_a, hdF4, hvF4⟩, ⟨_, c_w⟩, ⟨_, c_lf⟩, hO0⟩
  · refine lv_tableIn (tgt := 43) hx hb d_AF_calculate_1 (by rw [iN_toInt (by omega)]; omega) (by rw [iN_toInt (by omega)]; omega) (by rw [iN_toInt (by omega), c1]; rfl) (by decide) ?_
    refine lv_aload_n hx hb d_AF_calculate_43 rfl (lv_at hl 0 rfl) ?_
    refine fm_get S hK hw c_x i_AF rfl 0 (by decide) (hts _ k112) (fun _ h => h) rfl d_AF_calculate_44 ?_
    refine lv_aload_n hx hb d_AF_calculate_47 rfl (lv_at hl 2 rfl) ?_
    refine lv_aload_n hx hb d_AF_calculate_48 rfl (lv_at hl 3 rfl) ?_
    refine lv_aload hx hb d_AF_calculate_49 (lv_at hl 4 rfl) ?_
    refine fm_iconst S d_AF_calculate_51 ?_
    refine fm_callv (va_runV (As := [.ref h, .ref ga, .ref gb, .int (iN ((-1)))]) (rest := []) S (t_Ca_add l D cs Z hZo tT hZc μ _ k w lf on P G h a co sg tq ct F ga la ca va FA gb lb cb vb FB (-1) (by omega) (by omega) hda hva hdb hvb hP (Or.inr rfl) c_k c_w c_h c_a c_ga c_la c_gb c_lb) (cwV 4 hts (gV k251 k252 k253 k3 k254) rfl rfl rfl (by decide +kernel) (by decide)) (fm_preV hZo hK hw hZ hA c_k rfl _) rfl rfl hl.1 rfl (lv_room (Nat.le_of_ble_eq_true rfl)) d_AF_calculate_52 ⟨Nat.le_of_ble_eq_true rfl, Nat.le_of_ble_eq_true rfl⟩) hw hA (fun μ7 H locs q6 hw => ?_)
    obtain ⟨⟨F8, hq, hq2, hdF8, hvF8⟩, ⟨G9, hq3⟩, hO⟩ := q6
    have k_x : μ7 x = some (oE 0 [.ref k, .ref kn, .int (iN (n1)), .ref kr, .int (iN (n2)), .int (iN (n3)), .ref b1, .ref b2, .ref b3]) := hO.at (nmc (fm_kn c_x c_h rfl) (nmc (fm_kn c_x c_a rfl) (nmc (fm_kn c_x c_w rfl) nm0))) c_x
    have k_k : μ7 k = some (oE 1 [.int (iN ((P : Int))), .ref w, .ref lf, .ref on]) := hO.at (nmc (fm_kn c_k c_h rfl) (nmc (fm_kn c_k c_a rfl) (nmc (fm_kn c_k c_w rfl) nm0))) c_k
    have k_lf : μ7 lf = some (lE cs 5 X) := hO.at (nmc (fm_kn c_lf c_h rfl) (nmc (fm_kn c_lf c_a rfl) (nmc (fm_kn c_lf c_w rfl) nm0))) c_lf
    have k_h : μ7 h = some (oE 2 [.int (iN ((opW ca cb (sAdd P va ((-1) * vb))).1)), .int (iN ((sgn (opW ca cb (sAdd P va ((-1) * vb))).2))), .int (iN ((tp (opW ca cb (sAdd P va ((-1) * vb))).2))), .int (iN ((nd (cN (opW ca cb (sAdd P va ((-1) * vb))).2) : Int))), .ref a]) := hq
    have k_a : μ7 a = some (lE cs 4 F8) := hq2
    have k_w : μ7 w = some (lE cs 30 G9) := hq3
    have hO0 := hO0.tr1 hO (by simp)
    clear c_x c_k c_w c_h c_a c_ga c_la c_gb c_lb c_lf
    have c_x := k_x; clear k_x
    have c_k := k_k; clear k_k
    have c_lf := k_lf; clear k_lf
    have c_h := k_h; clear k_h
    have c_a := k_a; clear k_a
    have c_w := k_w; clear k_w
    clear hq hq2 hq3 hO
    refine lv_goto (tgt := 83) hx hb d_AF_calculate_55 (by decide) ?_
    refine fm_vret S hr hlocks hK hw d_AF_calculate_83 ?_
    have hop : op = 1 := by omega
    subst hop
    rw [sOp_1] at c_h hdF8 hvF8
    exact ⟨⟨F8, c_h, c_a, hdF8, hvF8⟩, ⟨_, c_w⟩, ⟨_, c_lf⟩, hO0⟩
  · refine lv_tableIn (tgt := 58) hx hb d_AF_calculate_1 (by rw [iN_toInt (by omega)]; omega) (by rw [iN_toInt (by omega)]; omega) (by rw [iN_toInt (by omega), c1]; rfl) (by decide) ?_
    refine lv_aload_n hx hb d_AF_calculate_58 rfl (lv_at hl 0 rfl) ?_
    refine fm_get S hK hw c_x i_AF rfl 0 (by decide) (hts _ k112) (fun _ h => h) rfl d_AF_calculate_59 ?_
    refine lv_aload_n hx hb d_AF_calculate_62 rfl (lv_at hl 2 rfl) ?_
    refine lv_aload_n hx hb d_AF_calculate_63 rfl (lv_at hl 3 rfl) ?_
    refine lv_aload hx hb d_AF_calculate_64 (lv_at hl 4 rfl) ?_
    refine fm_callv (va_runV (As := [.ref h, .ref ga, .ref gb]) (rest := []) S (t_Ca_multiply l D cs Z hZo tT hZc μ _ k w lf on P G h a co sg tq ct F ga la ca va FA gb lb cb vb FB  (by omega) (by omega) hda hva hdb hvb hP  c_k c_w c_h c_a c_ga c_la c_gb c_lb) (cwV 3 hts (gV k269 k203 k204 k3 k205) rfl rfl rfl (by decide +kernel) (by decide)) (fm_preV hZo hK hw hZ hA c_k rfl _) rfl rfl hl.1 rfl (lv_room (Nat.le_of_ble_eq_true rfl)) d_AF_calculate_66 ⟨Nat.le_of_ble_eq_true rfl, Nat.le_of_ble_eq_true rfl⟩) hw hA (fun μ11 H locs q10 hw => ?_)
    obtain ⟨⟨F12, hq, hq2, hdF12, hvF12⟩, ⟨G13, hq3⟩, hO⟩ := q10
    have k_x : μ11 x = some (oE 0 [.ref k, .ref kn, .int (iN (n1)), .ref kr, .int (iN (n2)), .int (iN (n3)), .ref b1, .ref b2, .ref b3]) := hO.at (nmc (fm_kn c_x c_h rfl) (nmc (fm_kn c_x c_a rfl) (nmc (fm_kn c_x c_w rfl) nm0))) c_x
    have k_k : μ11 k = some (oE 1 [.int (iN ((P : Int))), .ref w, .ref lf, .ref on]) := hO.at (nmc (fm_kn c_k c_h rfl) (nmc (fm_kn c_k c_a rfl) (nmc (fm_kn c_k c_w rfl) nm0))) c_k
    have k_lf : μ11 lf = some (lE cs 5 X) := hO.at (nmc (fm_kn c_lf c_h rfl) (nmc (fm_kn c_lf c_a rfl) (nmc (fm_kn c_lf c_w rfl) nm0))) c_lf
    have k_h : μ11 h = some (oE 2 [.int (iN ((opW ca cb (sMul P va vb)).1)), .int (iN ((sgn (opW ca cb (sMul P va vb)).2))), .int (iN ((tp (opW ca cb (sMul P va vb)).2))), .int (iN ((nd (cN (opW ca cb (sMul P va vb)).2) : Int))), .ref a]) := hq
    have k_a : μ11 a = some (lE cs 4 F12) := hq2
    have k_w : μ11 w = some (lE cs 30 G13) := hq3
    have hO0 := hO0.tr1 hO (by simp)
    clear c_x c_k c_w c_h c_a c_ga c_la c_gb c_lb c_lf
    have c_x := k_x; clear k_x
    have c_k := k_k; clear k_k
    have c_lf := k_lf; clear k_lf
    have c_h := k_h; clear k_h
    have c_a := k_a; clear k_a
    have c_w := k_w; clear k_w
    clear hq hq2 hq3 hO
    refine lv_goto (tgt := 83) hx hb d_AF_calculate_69 (by decide) ?_
    refine fm_vret S hr hlocks hK hw d_AF_calculate_83 ?_
    have hop : op = 2 := by omega
    subst hop
    rw [sOp_2] at c_h hdF12 hvF12
    exact ⟨⟨F12, c_h, c_a, hdF12, hvF12⟩, ⟨_, c_w⟩, ⟨_, c_lf⟩, hO0⟩
  · refine lv_tableOut (tgt := 72) hx hb d_AF_calculate_1 (by rw [iN_toInt (by omega)]; omega) (by decide) ?_
    refine lv_aload_n hx hb d_AF_calculate_72 rfl (lv_at hl 0 rfl) ?_
    refine fm_get S hK hw c_x i_AF rfl 0 (by decide) (hts _ k112) (fun _ h => h) rfl d_AF_calculate_73 ?_
    refine lv_aload_n hx hb d_AF_calculate_76 rfl (lv_at hl 2 rfl) ?_
    refine lv_aload_n hx hb d_AF_calculate_77 rfl (lv_at hl 3 rfl) ?_
    refine lv_aload hx hb d_AF_calculate_78 (lv_at hl 4 rfl) ?_
    refine fm_callv (va_runV (As := [.ref h, .ref ga, .ref gb]) (rest := []) S (t_Ca_divide l D cs Z hZo tT hZc μ _ k w lf on P G X h a co sg tq ct F ga la ca va FA gb lb cb vb FB (by omega) (by omega) hda hva hdb hvb hP c_k c_w c_h c_a c_ga c_la c_gb c_lb c_lf) (cwV 3 hts (gV k270 k227 k228 k3 k229) rfl rfl rfl (by decide +kernel) (by decide)) (fm_preV hZo hK hw hZ hA c_k rfl _) rfl rfl hl.1 rfl (lv_room (Nat.le_of_ble_eq_true rfl)) d_AF_calculate_80 ⟨Nat.le_of_ble_eq_true rfl, Nat.le_of_ble_eq_true rfl⟩) hw hA (fun μ15 H locs q14 hw => ?_)
    obtain ⟨⟨F16, hq, hq2, hdF16, hvF16⟩, ⟨G17, hq3⟩, ⟨X18, hq4⟩, hO⟩ := q14
    have k_x : μ15 x = some (oE 0 [.ref k, .ref kn, .int (iN (n1)), .ref kr, .int (iN (n2)), .int (iN (n3)), .ref b1, .ref b2, .ref b3]) := hO.at (nmc (fm_kn c_x c_h rfl) (nmc (fm_kn c_x c_a rfl) (nmc (fm_kn c_x c_w rfl) (nmc (fm_kn c_x c_lf rfl) nm0)))) c_x
    have k_k : μ15 k = some (oE 1 [.int (iN ((P : Int))), .ref w, .ref lf, .ref on]) := hO.at (nmc (fm_kn c_k c_h rfl) (nmc (fm_kn c_k c_a rfl) (nmc (fm_kn c_k c_w rfl) (nmc (fm_kn c_k c_lf rfl) nm0)))) c_k
    have k_h : μ15 h = some (oE 2 [.int (iN ((opW ca cb (sDiv P va vb)).1)), .int (iN ((sgn (opW ca cb (sDiv P va vb)).2))), .int (iN ((tp (opW ca cb (sDiv P va vb)).2))), .int (iN ((nd (cN (opW ca cb (sDiv P va vb)).2) : Int))), .ref a]) := hq
    have k_a : μ15 a = some (lE cs 4 F16) := hq2
    have k_w : μ15 w = some (lE cs 30 G17) := hq3
    have k_lf : μ15 lf = some (lE cs 5 X18) := hq4
    have hO0 := hO0.tr1 hO (by simp)
    clear c_x c_k c_w c_h c_a c_ga c_la c_gb c_lb c_lf
    have c_x := k_x; clear k_x
    have c_k := k_k; clear k_k
    have c_h := k_h; clear k_h
    have c_a := k_a; clear k_a
    have c_w := k_w; clear k_w
    have c_lf := k_lf; clear k_lf
    clear hq hq2 hq3 hq4 hO
    refine fm_vret S hr hlocks hK hw d_AF_calculate_83 ?_
    have hop : op = 3 := by omega
    subst hop
    rw [sOp_3] at c_h hdF16 hvF16
    exact ⟨⟨F16, c_h, c_a, hdF16, hvF16⟩, ⟨_, c_w⟩, ⟨_, c_lf⟩, hO0⟩

set_option maxHeartbeats 4000000 in
set_option maxRecDepth 100000 in
/-- operate(op, into, a, b) -/
theorem t_AF_operate (l : Launch) (D : va_G) (cs : Nat → ClassId) (Z : (Nat → Prop) → State → Heap → Prop) (hZo : fm_Zok Z) (tT : Nat) (hZc : ∀ A U H, Z A U H → Zc tT A U H) (μ : fm_Mu) (sz : Nat) (x : Nat) (kn : Nat) (kr : Nat) (b1 : Nat) (b2 : Nat) (b3 : Nat) (n1 : Int) (n2 : Int) (n3 : Int) (k : Nat) (w : Nat) (lf : Nat) (on : Nat) (P : Nat) (G : Int → Int) (X : Int → Int) (h : Nat) (a : Nat) (co : Int) (sg : Int) (tq : Int) (ct : Int) (F : Int → Int) (ga : Nat) (la : Nat) (ca : Int) (va : Int) (FA : Int → Int) (gb : Nat) (lb : Nat) (cb : Int) (vb : Int) (FB : Int → Int) (lo : Nat) (FO : Int → Int) (op : Int) (hca : inI ca) (hcb : inI cb) (hda : dF FA va) (hva : dB va) (hdb : dF FB vb) (hvb : dB vb) (hP : 1 ≤ P ∧ P ≤ 31) (hdo : dF FO one300) (hn1 : ga ≠ h) (hn2 : la ≠ a) (hn3 : on ≠ h) (hn4 : lo ≠ a) (hop : 0 ≤ op ∧ op ≤ 5) (hcz : ca ≠ 0 → va = 0) (c_x : μ x = some (oE 0 [.ref k, .ref kn, .int (iN (n1)), .ref kr, .int (iN (n2)), .int (iN (n3)), .ref b1, .ref b2, .ref b3])) (c_k : μ k = some (oE 1 [.int (iN ((P : Int))), .ref w, .ref lf, .ref on])) (c_w : μ w = some (lE cs 30 G)) (c_h : μ h = some (oE 2 [.int (iN (co)), .int (iN (sg)), .int (iN (tq)), .int (iN (ct)), .ref a])) (c_a : μ a = some (lE cs 4 F)) (c_ga : μ ga = some (oE 2 [.int (iN (ca)), .int (iN ((sgn va))), .int (iN ((tp va))), .int (iN ((nd (cN va) : Int))), .ref la])) (c_la : μ la = some (lE cs 4 FA)) (c_gb : μ gb = some (oE 2 [.int (iN (cb)), .int (iN ((sgn vb))), .int (iN ((tp vb))), .int (iN ((nd (cN vb) : Int))), .ref lb])) (c_lb : μ lb = some (lE cs 4 FB)) (c_lf : μ lf = some (lE cs 5 X)) (c_on : μ on = some (oE 2 [.int (iN (0)), .int (iN ((sgn one300))), .int (iN ((tp one300))), .int (iN ((nd (cN one300) : Int))), .ref lo])) (c_lo : μ lo = some (lE cs 4 FO)) : Met l y_AF_operate (Cond.code y_AF_operate c_AF_operate 5 none :: wA) ({ frames := 6, cells := 0, slots := 0, locals := 148 }) (fm_Pc D clsA (tysA cs) Z μ sz [.ref x, .int (iN (op)), .ref h, .ref ga, .ref gb]) (fm_Qv D clsA (tysA cs) μ sz (fun μ' => Dc cs μ' h a (opR P op ca cb va vb).1 (opR P op ca cb va vb).2 ∧ (∃ G' : Int → Int, μ' w = some (lE cs 30 G')) ∧ (∃ X' : Int → Int, μ' lf = some (lE cs 5 X')) ∧ fm_O μ μ' [h, a, w, lf])) 0 0 (fm_A μ sz) := by
  refine cl_of (by decide +kernel) (Nat.le_of_ble_eq_true rfl) (fun p e s m below meth c S hr hlocks hnm hsz hw hK hZ hA ls hl => ?_)
  subst hsz
  replace S : CallFix p m c c_AF_operate 5 s _ wA "ArithmeticForms" := S
  obtain ⟨hx, hb, hml, hown, hts⟩ := id S
  have hzc := hZc _ _ _ hZ
  have hO0 : fm_O μ μ [h, a, w, lf] := fm_O.rf
  have hl : lv_has ls 5 [(0, .ref x), (1, .int (iN (op))), (2, .ref h), (3, .ref ga), (4, .ref gb)] := hl
  refine lv_iload_n hx hb d_AF_operate_0 rfl (lv_at hl 1 rfl) ?_
  rcases (show op = 4 ∨ op = 5 ∨ (¬ 4 = op ∧ ¬ 5 = op) by omega) with c1 | c1 | c1
  · refine lv_lookup (tgt := 28) (off := 27) hx hb d_AF_operate_1 (by decide) (by rw [iN_toInt (by omega), c1]; decide) (by decide) ?_
    refine lv_aload_n hx hb d_AF_operate_28 rfl (lv_at hl 0 rfl) ?_
    refine fm_get S hK hw c_x i_AF rfl 0 (by decide) (hts _ k112) (fun _ h => h) rfl d_AF_operate_29 ?_
    refine lv_aload_n hx hb d_AF_operate_32 rfl (lv_at hl 2 rfl) ?_
    refine lv_aload_n hx hb d_AF_operate_33 rfl (lv_at hl 3 rfl) ?_
    refine lv_aload hx hb d_AF_operate_34 (lv_at hl 4 rfl) ?_
    refine fm_callv (va_runV (As := [.ref h, .ref ga, .ref gb]) (rest := []) S (t_Ca_power l D cs Z hZo tT hZc μ _ k w lf on P G X h a co sg tq ct F ga la ca va FA gb lb cb vb FB lo FO (by omega) (by omega) hda hva hdb hvb hP hdo (hn1) (hn2) (hn3) (hn4) c_k c_w c_h c_a c_ga c_la c_gb c_lb c_lf c_on c_lo) (cwV 3 hts (gV k162 k163 k164 k3 k165) rfl rfl rfl (by decide +kernel) (by decide)) (fm_preV hZo hK hw hZ hA c_k rfl _) rfl rfl hl.1 rfl (lv_room (Nat.le_of_ble_eq_true rfl)) d_AF_operate_36 ⟨Nat.le_of_ble_eq_true rfl, Nat.le_of_ble_eq_true rfl⟩) hw hA (fun μ3 H locs q2 hw => ?_)
    obtain ⟨⟨F4, hq, hq2, hdF4, hvF4⟩, ⟨G5, hq3⟩, ⟨X6, hq4⟩, hO⟩ := q2
    have k_x : μ3 x = some (oE 0 [.ref k, .ref kn, .int (iN (n1)), .ref kr, .int (iN (n2)), .int (iN (n3)), .ref b1, .ref b2, .ref b3]) := hO.at (nmc (fm_kn c_x c_h rfl) (nmc (fm_kn c_x c_a rfl) (nmc (fm_kn c_x c_w rfl) (nmc (fm_kn c_x c_lf rfl) nm0)))) c_x
    have k_k : μ3 k = some (oE 1 [.int (iN ((P : Int))), .ref w, .ref lf, .ref on]) := hO.at (nmc (fm_kn c_k c_h rfl) (nmc (fm_kn c_k c_a rfl) (nmc (fm_kn c_k c_w rfl) (nmc (fm_kn c_k c_lf rfl) nm0)))) c_k
    have k_ga : μ3 ga = some (oE 2 [.int (iN (ca)), .int (iN ((sgn va))), .int (iN ((tp va))), .int (iN ((nd (cN va) : Int))), .ref la]) := hO.at (nmc hn1 (nmc (fm_kn c_ga c_a rfl) (nmc (fm_kn c_ga c_w rfl) (nmc (fm_kn c_ga c_lf rfl) nm0)))) c_ga
    have k_la : μ3 la = some (lE cs 4 FA) := hO.at (nmc (fm_kn c_la c_h rfl) (nmc hn2 (nmc (fm_kn c_la c_w rfl) (nmc (fm_kn c_la c_lf rfl) nm0)))) c_la
    have k_on : μ3 on = some (oE 2 [.int (iN (0)), .int (iN ((sgn one300))), .int (iN ((tp one300))), .int (iN ((nd (cN one300) : Int))), .ref lo]) := hO.at (nmc hn3 (nmc (fm_kn c_on c_a rfl) (nmc (fm_kn c_on c_w rfl) (nmc (fm_kn c_on c_lf rfl) nm0)))) c_on
    have k_lo : μ3 lo = some (lE cs 4 FO) := hO.at (nmc (fm_kn c_lo c_h rfl) (nmc hn4 (nmc (fm_kn c_lo c_w rfl) (nmc (fm_kn c_lo c_lf rfl) nm0)))) c_lo
    have k_h : μ3 h = some (oE 2 [.int (iN ((opW ca cb (sPow P va vb)).1)), .int (iN ((sgn (opW ca cb (sPow P va vb)).2))), .int (iN ((tp (opW ca cb (sPow P va vb)).2))), .int (iN ((nd (cN (opW ca cb (sPow P va vb)).2) : Int))), .ref a]) := hq
    have k_a : μ3 a = some (lE cs 4 F4) := hq2
    have k_w : μ3 w = some (lE cs 30 G5) := hq3
    have k_lf : μ3 lf = some (lE cs 5 X6) := hq4
    have hO0 := hO0.tr1 hO (by simp)
    clear c_x c_k c_w c_h c_a c_ga c_la c_gb c_lb c_lf c_on c_lo
    have c_x := k_x; clear k_x
    have c_k := k_k; clear k_k
    have c_ga := k_ga; clear k_ga
    have c_la := k_la; clear k_la
    have c_on := k_on; clear k_on
    have c_lo := k_lo; clear k_lo
    have c_h := k_h; clear k_h
    have c_a := k_a; clear k_a
    have c_w := k_w; clear k_w
    have c_lf := k_lf; clear k_lf
    clear hq hq2 hq3 hq4 hO
    refine lv_goto (tgt := 68) hx hb d_AF_operate_39 (by decide) ?_
    refine fm_vret S hr hlocks hK hw d_AF_operate_68 ?_
    subst c1
    rw [sOp_4] at c_h hdF4 hvF4
    rw [opR_W (by omega)] at c_h hdF4 hvF4
    exact ⟨⟨F4, c_h, c_a, hdF4, hvF4⟩, ⟨_, c_w⟩, ⟨_, c_lf⟩, hO0⟩
  · refine lv_lookup (tgt := 42) (off := 41) hx hb d_AF_operate_1 (by decide) (by rw [iN_toInt (by omega), c1]; decide) (by decide) ?_
    refine lv_aload_n hx hb d_AF_operate_42 rfl (lv_at hl 2 rfl) ?_
    refine lv_aload_n hx hb d_AF_operate_43 rfl (lv_at hl 3 rfl) ?_
    refine fm_callv (va_runV (As := [.ref ga]) (rest := []) S (t_De_copy l D cs Z hZo tT hZc μ _ h a co sg tq ct F ga la ca (sgn va) (tp va) (nd (cN va) : Int) FA (hn1) (hn2) c_h c_a c_ga c_la) (cwV 1 hts (gV k246 k193 k194 k2 k195) rfl rfl rfl (by decide +kernel) (by decide)) (fm_preV hZo hK hw hZ hA c_h rfl _) rfl rfl hl.1 rfl (lv_room (Nat.le_of_ble_eq_true rfl)) d_AF_operate_44 ⟨Nat.le_of_ble_eq_true rfl, Nat.le_of_ble_eq_true rfl⟩) hw hA (fun μ8 H locs q7 hw => ?_)
    obtain ⟨F9, hq, hq2, eF9, hO⟩ := q7
    have k_x : μ8 x = some (oE 0 [.ref k, .ref kn, .int (iN (n1)), .ref kr, .int (iN (n2)), .int (iN (n3)), .ref b1, .ref b2, .ref b3]) := hO.at (nmc (fm_kn c_x c_h rfl) (nmc (fm_kn c_x c_a rfl) nm0)) c_x
    have k_k : μ8 k = some (oE 1 [.int (iN ((P : Int))), .ref w, .ref lf, .ref on]) := hO.at (nmc (fm_kn c_k c_h rfl) (nmc (fm_kn c_k c_a rfl) nm0)) c_k
    have k_w : μ8 w = some (lE cs 30 G) := hO.at (nmc (fm_kn c_w c_h rfl) (nmc (fm_kn c_w c_a rfl) nm0)) c_w
    have k_ga : μ8 ga = some (oE 2 [.int (iN (ca)), .int (iN ((sgn va))), .int (iN ((tp va))), .int (iN ((nd (cN va) : Int))), .ref la]) := hO.at (nmc hn1 (nmc (fm_kn c_ga c_a rfl) nm0)) c_ga
    have k_la : μ8 la = some (lE cs 4 FA) := hO.at (nmc (fm_kn c_la c_h rfl) (nmc hn2 nm0)) c_la
    have k_lf : μ8 lf = some (lE cs 5 X) := hO.at (nmc (fm_kn c_lf c_h rfl) (nmc (fm_kn c_lf c_a rfl) nm0)) c_lf
    have k_on : μ8 on = some (oE 2 [.int (iN (0)), .int (iN ((sgn one300))), .int (iN ((tp one300))), .int (iN ((nd (cN one300) : Int))), .ref lo]) := hO.at (nmc hn3 (nmc (fm_kn c_on c_a rfl) nm0)) c_on
    have k_lo : μ8 lo = some (lE cs 4 FO) := hO.at (nmc (fm_kn c_lo c_h rfl) (nmc hn4 nm0)) c_lo
    have k_h : μ8 h = some (oE 2 [.int (iN (ca)), .int (iN ((sgn va))), .int (iN ((tp va))), .int (iN ((nd (cN va) : Int))), .ref a]) := hq
    have k_a : μ8 a = some (lE cs 4 F9) := hq2
    have hO0 := hO0.tr1 hO (by simp)
    clear c_x c_k c_w c_h c_a c_ga c_la c_gb c_lb c_lf c_on c_lo
    have c_x := k_x; clear k_x
    have c_k := k_k; clear k_k
    have c_w := k_w; clear k_w
    have c_ga := k_ga; clear k_ga
    have c_la := k_la; clear k_la
    have c_lf := k_lf; clear k_lf
    have c_on := k_on; clear k_on
    have c_lo := k_lo; clear k_lo
    have c_h := k_h; clear k_h
    have c_a := k_a; clear k_a
    clear hq hq2 hO
    refine lv_aload_n hx hb d_AF_operate_47 rfl (lv_at hl 2 rfl) ?_
    refine lv_aload_n hx hb d_AF_operate_48 rfl (lv_at hl 3 rfl) ?_
    refine fm_get S hK hw c_ga i_De rfl 1 (by decide) (hts _ k38) (fun _ h => h) rfl d_AF_operate_49 ?_
    refine fm_ineg S d_AF_operate_52 ?_
    refine fm_put S hK hw c_h i_De rfl t_De t_De_ok n_De 1 (by decide) (hts _ k38) (fun _ h => h) rfl (ty := .int) (by decide +kernel) rfl rfl (Nat.le_of_ble_eq_true rfl) d_AF_operate_53 (fun μ10 H locs hw hq hO => ?_)
    have k_x : μ10 x = some (oE 0 [.ref k, .ref kn, .int (iN (n1)), .ref kr, .int (iN (n2)), .int (iN (n3)), .ref b1, .ref b2, .ref b3]) := hO.at (nmc (fm_kn c_x c_h rfl) nm0) c_x
    have k_k : μ10 k = some (oE 1 [.int (iN ((P : Int))), .ref w, .ref lf, .ref on]) := hO.at (nmc (fm_kn c_k c_h rfl) nm0) c_k
    have k_w : μ10 w = some (lE cs 30 G) := hO.at (nmc (fm_kn c_w c_h rfl) nm0) c_w
    have k_ga : μ10 ga = some (oE 2 [.int (iN (ca)), .int (iN ((sgn va))), .int (iN ((tp va))), .int (iN ((nd (cN va) : Int))), .ref la]) := hO.at (nmc hn1 nm0) c_ga
    have k_la : μ10 la = some (lE cs 4 FA) := hO.at (nmc (fm_kn c_la c_h rfl) nm0) c_la
    have k_lf : μ10 lf = some (lE cs 5 X) := hO.at (nmc (fm_kn c_lf c_h rfl) nm0) c_lf
    have k_on : μ10 on = some (oE 2 [.int (iN (0)), .int (iN ((sgn one300))), .int (iN ((tp one300))), .int (iN ((nd (cN one300) : Int))), .ref lo]) := hO.at (nmc hn3 nm0) c_on
    have k_lo : μ10 lo = some (lE cs 4 FO) := hO.at (nmc (fm_kn c_lo c_h rfl) nm0) c_lo
    have k_a : μ10 a = some (lE cs 4 F9) := hO.at (nmc (fm_kn c_a c_h rfl) nm0) c_a
    have k_h : μ10 h = some (oE 2 [.int (iN (ca)), .int (iN ((-(sgn va)))), .int (iN ((tp va))), .int (iN ((nd (cN va) : Int))), .ref a]) := hq
    have hO0 := hO0.tr1 hO (by simp)
    clear c_x c_k c_w c_ga c_la c_lf c_on c_lo c_h c_a
    have c_x := k_x; clear k_x
    have c_k := k_k; clear k_k
    have c_w := k_w; clear k_w
    have c_ga := k_ga; clear k_ga
    have c_la := k_la; clear k_la
    have c_lf := k_lf; clear k_lf
    have c_on := k_on; clear k_on
    have c_lo := k_lo; clear k_lo
    have c_a := k_a; clear k_a
    have c_h := k_h; clear k_h
    clear hq hO
    refine lv_goto (tgt := 68) hx hb d_AF_operate_56 (by decide) ?_
    refine fm_vret S hr hlocks hK hw d_AF_operate_68 ?_
    subst c1
    rw [opR_5 hcz]
    exact ⟨⟨F9, by rw [neg_l.1, neg_l.2.1, neg_l.2.2.1]; exact c_h, c_a, neg_dF (hda.eq eF9), neg_dB hva⟩, ⟨_, c_w⟩, ⟨_, c_lf⟩, hO0⟩
  · refine lv_lookup (tgt := 59) (off := 58) hx hb d_AF_operate_1 (by decide) (by rw [iN_toInt (by omega)]; simp only [Op.lookupswitch.offset]; rw [if_neg c1.1]; rw [if_neg c1.2]) (by decide) ?_
    refine lv_aload_n hx hb d_AF_operate_59 rfl (lv_at hl 0 rfl) ?_
    refine lv_iload_n hx hb d_AF_operate_60 rfl (lv_at hl 1 rfl) ?_
    refine lv_aload_n hx hb d_AF_operate_61 rfl (lv_at hl 2 rfl) ?_
    refine lv_aload_n hx hb d_AF_operate_62 rfl (lv_at hl 3 rfl) ?_
    refine lv_aload hx hb d_AF_operate_63 (lv_at hl 4 rfl) ?_
    refine fm_callv (va_runV (As := [.int (iN (op)), .ref h, .ref ga, .ref gb]) (rest := []) S (t_AF_calculate l D cs Z hZo tT hZc μ _ x kn kr b1 b2 b3 n1 n2 n3 k w lf on P G X h a co sg tq ct F ga la ca va FA gb lb cb vb FB op (by omega) (by omega) hda hva hdb hvb hP (by omega) c_x c_k c_w c_h c_a c_ga c_la c_gb c_lb c_lf) (cwV 4 hts (gV k247 k249 ks9 k1 k250) rfl rfl rfl (by decide +kernel) (by decide)) (fm_preV hZo hK hw hZ hA c_x rfl _) rfl rfl hl.1 rfl (lv_room (Nat.le_of_ble_eq_true rfl)) d_AF_operate_65 ⟨Nat.le_of_ble_eq_true rfl, Nat.le_of_ble_eq_true rfl⟩) hw hA (fun μ12 H locs q11 hw => ?_)
    obtain ⟨⟨F13, hq, hq2, hdF13, hvF13⟩, ⟨G14, hq3⟩, ⟨X15, hq4⟩, hO⟩ := q11
    have k_x : μ12 x = some (oE 0 [.ref k, .ref kn, .int (iN (n1)), .ref kr, .int (iN (n2)), .int (iN (n3)), .ref b1, .ref b2, .ref b3]) := hO.at (nmc (fm_kn c_x c_h rfl) (nmc (fm_kn c_x c_a rfl) (nmc (fm_kn c_x c_w rfl) (nmc (fm_kn c_x c_lf rfl) nm0)))) c_x
    have k_k : μ12 k = some (oE 1 [.int (iN ((P : Int))), .ref w, .ref lf, .ref on]) := hO.at (nmc (fm_kn c_k c_h rfl) (nmc (fm_kn c_k c_a rfl) (nmc (fm_kn c_k c_w rfl) (nmc (fm_kn c_k c_lf rfl) nm0)))) c_k
    have k_ga : μ12 ga = some (oE 2 [.int (iN (ca)), .int (iN ((sgn va))), .int (iN ((tp va))), .int (iN ((nd (cN va) : Int))), .ref la]) := hO.at (nmc hn1 (nmc (fm_kn c_ga c_a rfl) (nmc (fm_kn c_ga c_w rfl) (nmc (fm_kn c_ga c_lf rfl) nm0)))) c_ga
    have k_la : μ12 la = some (lE cs 4 FA) := hO.at (nmc (fm_kn c_la c_h rfl) (nmc hn2 (nmc (fm_kn c_la c_w rfl) (nmc (fm_kn c_la c_lf rfl) nm0)))) c_la
    have k_on : μ12 on = some (oE 2 [.int (iN (0)), .int (iN ((sgn one300))), .int (iN ((tp one300))), .int (iN ((nd (cN one300) : Int))), .ref lo]) := hO.at (nmc hn3 (nmc (fm_kn c_on c_a rfl) (nmc (fm_kn c_on c_w rfl) (nmc (fm_kn c_on c_lf rfl) nm0)))) c_on
    have k_lo : μ12 lo = some (lE cs 4 FO) := hO.at (nmc (fm_kn c_lo c_h rfl) (nmc hn4 (nmc (fm_kn c_lo c_w rfl) (nmc (fm_kn c_lo c_lf rfl) nm0)))) c_lo
    have k_h : μ12 h = some (oE 2 [.int (iN ((opW ca cb (sOp P op va vb)).1)), .int (iN ((sgn (opW ca cb (sOp P op va vb)).2))), .int (iN ((tp (opW ca cb (sOp P op va vb)).2))), .int (iN ((nd (cN (opW ca cb (sOp P op va vb)).2) : Int))), .ref a]) := hq
    have k_a : μ12 a = some (lE cs 4 F13) := hq2
    have k_w : μ12 w = some (lE cs 30 G14) := hq3
    have k_lf : μ12 lf = some (lE cs 5 X15) := hq4
    have hO0 := hO0.tr1 hO (by simp)
    clear c_x c_k c_w c_h c_a c_ga c_la c_gb c_lb c_lf c_on c_lo
    have c_x := k_x; clear k_x
    have c_k := k_k; clear k_k
    have c_ga := k_ga; clear k_ga
    have c_la := k_la; clear k_la
    have c_on := k_on; clear k_on
    have c_lo := k_lo; clear k_lo
    have c_h := k_h; clear k_h
    have c_a := k_a; clear k_a
    have c_w := k_w; clear k_w
    have c_lf := k_lf; clear k_lf
    clear hq hq2 hq3 hq4 hO
    refine fm_vret S hr hlocks hK hw d_AF_operate_68 ?_
    rw [opR_W (by omega)] at c_h hdF13 hvF13
    exact ⟨⟨F13, c_h, c_a, hdF13, hvF13⟩, ⟨_, c_w⟩, ⟨_, c_lf⟩, hO0⟩
