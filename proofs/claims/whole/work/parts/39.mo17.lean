set_option maxHeartbeats 4000000 in
set_option maxRecDepth 100000 in
/-- L_run -/
theorem L_run {p : Program} {l : Launch} {e : Env} {s : State} {m : MethodId} {args : Array Value} {below : List Frame} {meth : Method} {c : Code} {Q : State → Prop} {D : va_G} {cs : Nat → ClassId} {Z : (Nat → Prop) → State → Heap → Prop} {ad : Nat → Nat} {μ0 : fm_Mu} {A : Nat → Prop}  (S : CallFix p m c c_Mo_run 6 s args wA "ArithmeticFormsModel") (hK : va_K D clsA (tysA cs) s) (hZo : fm_Zok Z) (hZ : Z A s s.heap) (hA : ∀ q, s.heap.size ≤ q → A q) (σ : Sg) (kind root ph : Int) (hkd : 0 ≤ kind ∧ kind ≤ 4) (hrt : 0 < root ∧ root ≤ sC σ) (hph : ph = 0 ∨ ph = 1) (kk87 : ∀ (V : Nat → Int) (M : Nat → Int → Int) (r : Int) (n : Int) (i : Nat) (H : Heap) (locs : List Loc) (ls : Array Slot), (i = sR σ) → (n = (runN σ kind (sN σ root.toNat).1 (sN σ root.toNat).2 ph i).2) → (moInv V M (runN σ kind (sN σ root.toNat).1 (sN σ root.toNat).2 ph i).1) → (V 0 = 0) → lv_has ls 6 [(5, .int (iN (r))), (4, .int (iN (n))), (0, .ref (ad 0)), (1, .int (iN (kind))), (2, .int (iN (root))), (3, .int (iN (ph)))] → moW D A s.heap μ0 cs ad V M H locs → W p l e ({ frames := 7, cells := 0, slots := 0, locals := 167 }) s m args below meth c H locs 0 0 Q (F0 m 87 ls [])) : ∀ (fu : Nat) (V : Nat → Int) (M : Nat → Int → Int) (r : Int) (n : Int) (i : Nat) (H : Heap) (locs : List Loc) (ls : Array Slot), (sR σ : Int) + 1 - r < (fu : Int) → (r = i + 1 ∧ i ≤ sR σ) → (n = (runN σ kind (sN σ root.toNat).1 (sN σ root.toNat).2 ph i).2) → (moInv V M (runN σ kind (sN σ root.toNat).1 (sN σ root.toNat).2 ph i).1) → (V 0 = 0) → lv_has ls 6 [(5, .int (iN (r))), (4, .int (iN (n))), (0, .ref (ad 0)), (1, .int (iN (kind))), (2, .int (iN (root))), (3, .int (iN (ph)))] → moW D A s.heap μ0 cs ad V M H locs → W p l e ({ frames := 7, cells := 0, slots := 0, locals := 167 }) s m args below meth c H locs 0 0 Q (F0 m 39 ls []) := by
  obtain ⟨hx, hb, hml, hown, hts⟩ := id S
  intro fu
  induction fu with
  | zero =>
    intro V M r n i H locs ls hn hri hnn hI hV0 hl hm
    exfalso; omega
  | succ fu ih =>
    intro V M r n i H locs ls hn hri hnn hI hV0 hl hm
    have hs := runN_same σ kind (sN σ root.toNat).1 (sN σ root.toNat).2 ph i
    have hI1 := hI.p
    have hI2 := hI.c
    have hI3 := hI.r
    rw [hs.1] at hI1
    rw [hs.2.1] at hI2
    rw [hs.2.2.2] at hI3
    refine lv_iload hx hb d_Mo_run_39 (lv_at hl 0 rfl) ?_
    refine lv_aload_n hx hb d_Mo_run_41 rfl (lv_at hl 2 rfl) ?_
    refine mo_get 13 S hK hm (by decide) k479 rfl rfl d_Mo_run_42 ?_
    refine fm_icmp_gt (tgt := 87) S (by omega) (by omega) d_Mo_run_45 (by decide) (fun c1 => ?_) (fun c1 => ?_)
    · exact kk87 V M r n i _ _ _ (by omega) (hnn) (hI) (hV0) (lv_sub hl [0, 1, 2, 3, 4, 5] rfl) hm
    · have hwx := hI.nv (n := root) (by omega) (by rw [hs.2.1]; omega)
      rw [hs.2.2.1] at hwx
      have b31 := hwx.2.2.2.1.1
      have e10 := hwx.1.1
      have ba1 := hwx.2.1
      have ba2 := hwx.2.2.1
      have hrq := hI.rv (r := r) (by omega) (by rw [hs.2.2.2]; omega)
      rw [show r.toNat = i + 1 by omega] at hrq
      refine lv_aload_n hx hb d_Mo_run_48 rfl (lv_at hl 2 rfl) ?_
      refine lv_iload_n hx hb d_Mo_run_49 rfl (lv_at hl 4 rfl) ?_
      refine fm_iconst S d_Mo_run_50 ?_
      refine mo_cvS (n := 2) (As := [.int (iN (root)), .int (iN (3))]) (rest := []) S hK hZo hZ hA hm (fun μ sz hM => t_Mo_load l D cs Z hZo ad μ V M sz root 3 (sN σ root.toNat).1 (sN σ root.toNat).2 hM (by omega) hwx.1) (gV k575 k577 ks25 k6 k578) (by decide) (by decide +kernel) rfl hl.1 rfl (Nat.le_of_ble_eq_true rfl) ⟨Nat.le_of_ble_eq_true rfl, Nat.le_of_ble_eq_true rfl⟩ d_Mo_run_51 (fun M3 H locs q2 hm => ?_)
      obtain ⟨frM3, rgM3⟩ := q2
      have hI9 : moInv V M3 (runN σ kind (sN σ root.toNat).1 (sN σ root.toNat).2 ph i).1 := hI.fr ⟨rfl, rfl, rfl, rfl⟩ (fun k hk => frM3.1 k (by omega)) (by rw [(frM3.2.2 2 (by decide)).1]; exact hI.2.2.2.2.2.2)
      have hrq3 : Rcv M3 r (sQ (runN σ kind (sN σ root.toNat).1 (sN σ root.toNat).2 ph i).1 (i + 1)) := by
        have h := hrq.1
        unfold Rcv at h ⊢
        rw [frM3.1 11 (by decide), frM3.1 12 (by decide), frM3.1 13 (by decide), frM3.1 14 (by decide), frM3.1 15 (by decide), frM3.1 16 (by decide)]; exact h
      have e10b : M3 10 root = (sN σ root.toNat).1 := by rw [frM3.1 10 (by decide)]; exact e10
      refine lv_iload hx hb d_Mo_run_54 (lv_at hl 1 rfl) ?_
      refine lv_aload_n hx hb d_Mo_run_56 rfl (lv_at hl 2 rfl) ?_
      refine lv_iload_n hx hb d_Mo_run_57 rfl (lv_at hl 3 rfl) ?_
      refine lv_iload hx hb d_Mo_run_58 (lv_at hl 0 rfl) ?_
      refine lv_aload_n hx hb d_Mo_run_60 rfl (lv_at hl 2 rfl) ?_
      refine mo_get 11 S hK hm (by decide) k477 rfl rfl d_Mo_run_61 ?_
      refine lv_iload_n hx hb d_Mo_run_64 rfl (lv_at hl 4 rfl) ?_
      refine mo_iald 10 S hK hm (by decide) (by simp only [moLen]; omega) d_Mo_run_65 ?_
      refine lv_iload_n hx hb d_Mo_run_66 rfl (lv_at hl 5 rfl) ?_
      refine mo_ci (n := 4) (As := [.int (iN (kind)), .int (iN (r)), .int (iN ((M3 10 root))), .int (iN (ph))]) (rest := [.int (iN (n))]) S hK hZo hZ hA hm (fun μ sz hM => t_Mo_isStored l D cs Z hZo ad μ V M3 sz kind r (M3 10 root) ph (sP σ) (sN σ root.toNat).2 (sQ (runN σ kind (sN σ root.toNat).1 (sN σ root.toNat).2 ph i).1 (i + 1)) hM (by omega) (by omega) (by omega) hph hI9.2.2.2.2.2.2 rgM3 hwx.2.2.2.1 hrq.2 hrq3 hI1) (gV k655 k657 ks39 k6 k658) (by decide) (by decide +kernel) rfl hl.1 rfl (Nat.le_of_ble_eq_true rfl) ⟨Nat.le_of_ble_eq_true rfl, Nat.le_of_ble_eq_true rfl⟩ d_Mo_run_67 (fun x5 V6 M7 H locs q4 hm => ?_)
      obtain ⟨-, hst⟩ := q4
      rw [e10b] at hst
      have hz := hst.1
      have her : stErr (sP σ) kind (sQ (runN σ kind (sN σ root.toNat).1 (sN σ root.toNat).2 ph i).1 (i + 1)) (sN σ root.toNat).1 (sN σ root.toNat).2 = 0 ∨ stErr (sP σ) kind (sQ (runN σ kind (sN σ root.toNat).1 (sN σ root.toNat).2 ph i).1 (i + 1)) (sN σ root.toNat).1 (sN σ root.toNat).2 = 1 := by unfold stErr; split <;> simp
      refine mo_join (P := fun y => y = x5) (g := fun y => F0 m 78 ls ([.int (iN (y)), .int (iN (n))])) (fun y hy => ?_) (fun key => ?_)
      · refine fm_iadd S d_Mo_run_78 ?_
        refine fm_topi (fun x8 hx8 => ?_)
        refine lv_istore (lv' := [(4, .int (iN (x8))), (5, .int (iN (r))), (0, .ref (ad 0)), (1, .int (iN (kind))), (2, .int (iN (root))), (3, .int (iN (ph)))]) hx hb d_Mo_run_79 hl (by decide) rfl (fun ls hl => ?_)
        refine lv_iinc (v := iN ((r + 1))) (lv' := [(5, .int (iN ((r + 1)))), (4, .int (iN (x8))), (0, .ref (ad 0)), (1, .int (iN (kind))), (2, .int (iN (root))), (3, .int (iN (ph)))]) hx hb d_Mo_run_81 hl (k := 1) rfl (iN_add _ _) (by decide) rfl (fun ls hl => ?_)
        refine lv_goto (tgt := 39) hx hb d_Mo_run_84 (by decide) ?_
        exact ih V6 M7 (r + 1) x8 (i + 1) _ _ _ (by omega) (by omega) (by rw [hx8, hnn, hy, hz]; rfl) (hI9.setRL (by omega) (by rw [hs.2.2.2]; omega) (stRec_ok hrq.2) (stLat_in hI1.2 hkd hwx.2.2.2.1 ⟨ba1, ba2⟩ ⟨hI.1.2.2.2.2.1, hI.1.2.2.2.2.2.1⟩) ⟨hst.2.1 1 (by decide) (by decide) (by decide), hst.2.1 12 (by decide) (by decide) (by decide), hst.2.1 13 (by decide) (by decide) (by decide), by rw [hst.2.2.1, hI.2.1.2.2.2]⟩ hst.2.2.2.1 (fun t ht => hst.2.2.2.2.1 t (by omega)) (by rw [show ((i + 1 : Nat) : Int) = r by omega]; exact hst.2.2.2.2.2.1) hst.2.2.2.2.2.2) (by rw [hst.2.1 0 (by decide) (by decide) (by decide)]; exact hV0) (lv_sub hl [0, 1, 2, 3, 4, 5] rfl) hm
      · refine fm_if_eq (tgt := 77) S (by omega) d_Mo_run_70 (by decide) (fun c9 => ?_) (fun c9 => ?_)
        · refine fm_iconst S d_Mo_run_77 ?_
          exact key _ (by omega)
        · refine fm_iconst S d_Mo_run_73 ?_
          refine lv_goto (tgt := 78) hx hb d_Mo_run_74 (by decide) ?_
          exact key _ (by omega)

set_option maxHeartbeats 4000000 in
set_option maxRecDepth 100000 in
/-- run(kind, root, ph) -/
theorem t_Mo_run (l : Launch) (D : va_G) (cs : Nat → ClassId) (Z : (Nat → Prop) → State → Heap → Prop) (hZo : fm_Zok Z) (ad : Nat → Nat) (μ : fm_Mu) (V : Nat → Int) (M : Nat → Int → Int) (sz : Nat) (kind : Int) (root : Int) (ph : Int) (σ : Sg) (hM : moS cs μ ad V M) (hik : inI kind) (hir : inI root) (hph : ph = 0 ∨ ph = 1) (hI : moInv V M σ) : Met l y_Mo_run (Cond.code y_Mo_run c_Mo_run 6 (some .int) :: wA) ({ frames := 7, cells := 0, slots := 0, locals := 167 }) (fm_Pc D clsA (tysA cs) Z μ sz [.ref (ad 0), .int (iN (kind)), .int (iN (root)), .int (iN (ph))]) (moQi D cs ad μ sz (fun z V' M' => z = (sp_run σ kind root ph).1 ∧ moInv V' M' (sp_run σ kind root ph).2 ∧ V' 0 = 0)) 0 0 (fm_A μ sz) := by
  refine mo_of hM (by decide +kernel) (Nat.le_of_ble_eq_true rfl) (fun p e s m below meth c S hr hlocks hsz hm hK hZ hA ls hl => ?_)
  subst hsz
  obtain ⟨hx, hb, hml, hown, hts⟩ := id S
  have hl : lv_has ls 6 [(0, .ref (ad 0)), (1, .int (iN (kind))), (2, .int (iN (root))), (3, .int (iN (ph)))] := hl
  refine lv_aload_n hx hb d_Mo_run_0 rfl (lv_at hl 0 rfl) ?_
  refine fm_iconst S d_Mo_run_1 ?_
  refine mo_puti 0 S hK hm (by decide) k466 d_Mo_run_2 (fun V1 H locs eV1 hm => ?_)
  have hI := hI.v0 eV1
  have hI1 := hI.p
  have hI2 := hI.c
  have hI3 := hI.r
  refine lv_iload_n hx hb d_Mo_run_5 rfl (lv_at hl 1 rfl) ?_
  refine fm_if_lt (tgt := 14) S (by omega) d_Mo_run_6 (by decide) (fun c2 => ?_) (fun c2 => ?_)
  · refine fm_bipush S d_Mo_run_14 (by decide) ?_
    refine mo_iret S hr hlocks hK hm d_Mo_run_16 ?_
    unfold sp_run
    rw [if_pos (by omega)]
    exact ⟨rfl, hI, by rw [eV1]; rfl⟩
  · refine lv_iload_n hx hb d_Mo_run_9 rfl (lv_at hl 1 rfl) ?_
    refine fm_iconst S d_Mo_run_10 ?_
    refine fm_icmp_le (tgt := 17) S (by omega) (by omega) d_Mo_run_11 (by decide) (fun c3 => ?_) (fun c3 => ?_)
    · refine lv_aload_n hx hb d_Mo_run_17 rfl (lv_at hl 0 rfl) ?_
      refine lv_iload_n hx hb d_Mo_run_18 rfl (lv_at hl 2 rfl) ?_
      refine mo_pi (n := 1) (As := [.int (iN (root))]) (rest := []) S hK hZo hZ hA hm (fun μ sz hM => t_Mo_isNode l D cs Z hZo ad μ V1 M sz root hM (by omega) (by omega)) (gV k571 k573 ks24 k6 k574) (by decide) (by decide +kernel) rfl hl.1 rfl (Nat.le_of_ble_eq_true rfl) ⟨Nat.le_of_ble_eq_true rfl, Nat.le_of_ble_eq_true rfl⟩ d_Mo_run_19 (fun x5 q4 => ?_)
      refine fm_if_ne (tgt := 28) S (by omega) d_Mo_run_22 (by decide) (fun c6 => ?_) (fun c6 => ?_)
      · refine lv_aload_n hx hb d_Mo_run_28 rfl (lv_at hl 0 rfl) ?_
        refine fm_iconst S d_Mo_run_29 ?_
        refine mo_puti 14 S hK hm (by decide) k480 d_Mo_run_30 (fun V7 H locs eV7 hm => ?_)
        have hI6 : moInv V7 M (runN σ kind (sN σ root.toNat).1 (sN σ root.toNat).2 ph 0).1 := by
          obtain ⟨g1, g2, g3, g4, g5, g6, g7⟩ := hI
          obtain ⟨a1, a2, a3, a4, a5, a6, a7, a8⟩ := g1
          rw [eV7]
          exact ⟨⟨a1, a2, a3, a4, Int.le_refl _, (by decide : (0 : Int) ≤ 3), a7, a8⟩, ⟨g2.1, g2.2.1, g2.2.2.1, rfl⟩, g3, g4, g5, g6, g7⟩
        refine fm_iconst S d_Mo_run_33 ?_
        refine lv_istore (lv' := [(4, .int (iN (0))), (0, .ref (ad 0)), (1, .int (iN (kind))), (2, .int (iN (root))), (3, .int (iN (ph)))]) hx hb d_Mo_run_34 hl (by decide) rfl (fun ls hl => ?_)
        refine fm_iconst S d_Mo_run_36 ?_
        refine lv_istore (lv' := [(5, .int (iN (1))), (4, .int (iN (0))), (0, .ref (ad 0)), (1, .int (iN (kind))), (2, .int (iN (root))), (3, .int (iN (ph)))]) hx hb d_Mo_run_37 hl (by decide) rfl (fun ls hl => ?_)
        refine L_run (Z := Z) S hK hZo hZ hA σ kind root ph (by omega) (by omega) hph (fun V9 M8 r n i H locs ls hi hnn hI7 hV0 hl hm => ?_) (sR σ + 1) V7 M 1 0 0 _ _ _ (by omega) (by omega) (rfl) (hI6) (by rw [eV7, uF_n (by decide), eV1]; rfl) (lv_sub hl [0, 1, 2, 3, 4, 5] rfl) hm
        subst hi
        refine lv_iload hx hb d_Mo_run_87 (lv_at hl 1 rfl) ?_
        refine mo_iret S hr hlocks hK hm d_Mo_run_89 ?_
        unfold sp_run
        rw [if_neg (by omega), if_neg (by omega)]
        exact ⟨hnn, hI7, hV0⟩
      · refine fm_bipush S d_Mo_run_25 (by decide) ?_
        refine mo_iret S hr hlocks hK hm d_Mo_run_27 ?_
        unfold sp_run
        rw [if_neg (by omega), if_pos (by omega)]
        exact ⟨rfl, hI, by rw [eV1]; rfl⟩
    · refine fm_bipush S d_Mo_run_14 (by decide) ?_
      refine mo_iret S hr hlocks hK hm d_Mo_run_16 ?_
      unfold sp_run
      rw [if_pos (by omega)]
      exact ⟨rfl, hI, by rw [eV1]; rfl⟩
