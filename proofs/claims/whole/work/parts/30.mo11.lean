set_option maxHeartbeats 4000000 in
set_option maxRecDepth 100000 in
theorem L_ten {p : Program} {l : Launch} {e : Env} {R : Room} {s : State} {m : MethodId} {args : Array Value} {below : List Frame} {meth : Method} {c : Code} {Q : State → Prop} {H : Heap} {locs : List Loc} (S : CallFix p m c c_Mo_ten 4 s args wA "ArithmeticFormsModel") (n : Int) (hn1 : 0 ≤ n ∧ n ≤ 18) (kk21 : ∀ (ls : Array Slot), lv_has ls 4 [(3, .int (iN n)), (1, .long (jN (10 ^ n.toNat))), (0, .int (iN n))] → W p l e R s m args below meth c H locs 0 0 Q (F0 m 21 ls [])) : ∀ (fu : Nat) (v k : Int) (kk : Nat) (ls : Array Slot), n - k < (fu : Int) → (k = kk ∧ k ≤ n) → v = 10 ^ kk → lv_has ls 4 [(3, .int (iN k)), (1, .long (jN v)), (0, .int (iN n))] → W p l e R s m args below meth c H locs 0 0 Q (F0 m 4 ls []) := by
  obtain ⟨hx, hb, hml, hown, hts⟩ := id S
  intro fu
  induction fu with
  | zero =>
    intro v k kk ls hn hk hv hl
    exfalso; omega
  | succ fu ih =>
    intro v k kk ls hn hk hv hl
    refine lv_iload_n hx hb d_Mo_ten_4 rfl (lv_at hl 0 rfl) ?_
    refine lv_iload_n hx hb d_Mo_ten_5 rfl (lv_at hl 2 rfl) ?_
    refine fm_icmp_ge (tgt := 21) S (by omega) (by omega) d_Mo_ten_6 (by decide) (fun c1 => ?_) (fun c1 => ?_)
    · have e1 : k = n := by omega
      subst e1
      rw [hv, show kk = k.toNat by omega] at hl
      exact kk21 _ hl
    · refine lv_lload_n hx hb d_Mo_ten_9 rfl (lv_at hl 1 rfl) ?_
      refine lv_ldc2 (v := jN 10) hx hb hown (hts _ k554) d_Mo_ten_10 ?_
      refine fm_lmul S d_Mo_ten_13 ?_
      refine fm_topl (fun x2 hx2 => ?_)
      refine lv_lstore_n (lv' := [(1, .long (jN (x2))), (3, .int (iN (k))), (0, .int (iN (n)))]) hx hb d_Mo_ten_14 rfl hl (by decide) rfl (fun ls hl => ?_)
      refine lv_iinc (v := iN ((k + 1))) (lv' := [(3, .int (iN ((k + 1)))), (1, .long (jN (x2))), (0, .int (iN (n)))]) hx hb d_Mo_ten_15 hl (k := 1) rfl (iN_add _ _) (by decide) rfl (fun ls hl => ?_)
      refine lv_goto (tgt := 4) hx hb d_Mo_ten_18 (by decide) ?_
      exact ih x2 (k + 1) (kk + 1) _ (by omega) (by omega) (by rw [hx2, hv, Int.pow_succ]) (lv_sub hl [0, 1, 2] rfl)

set_option maxHeartbeats 4000000 in
set_option maxRecDepth 100000 in
/-- ten(n) -/
theorem t_Mo_ten (l : Launch) (D : va_G) (cs : Nat → ClassId) (Z : (Nat → Prop) → State → Heap → Prop) (hZo : fm_Zok Z) (ad : Nat → Nat) (μ : fm_Mu) (sz : Nat) (n : Int) (hn1 : 0 ≤ n ∧ n ≤ 18) : Met l y_Mo_ten (Cond.code y_Mo_ten c_Mo_ten 4 (some .long) :: wA) ({ frames := 0, cells := 0, slots := 0, locals := 0 }) (fm_Pc D clsA (tysA cs) Z μ sz [.int (iN (n))]) (fm_Sl (fun x => x = 10 ^ n.toNat)) 0 0 (fun _ => False) := by
  refine mo_ofS (by decide +kernel) (Nat.le_of_ble_eq_true rfl) (fun p e s m below meth c S hr hlocks hsz hK hZ hA ls hl => ?_)
  subst hsz
  obtain ⟨hx, hb, hml, hown, hts⟩ := id S
  have hl : lv_has ls 4 [(0, .int (iN (n)))] := hl
  refine fm_lconst1 S d_Mo_ten_0 ?_
  refine lv_lstore_n (lv' := [(1, .long (jN (1))), (0, .int (iN (n)))]) hx hb d_Mo_ten_1 rfl hl (by decide) rfl (fun ls hl => ?_)
  refine fm_iconst S d_Mo_ten_2 ?_
  refine lv_istore_n (lv' := [(3, .int (iN (0))), (1, .long (jN (1))), (0, .int (iN (n)))]) hx hb d_Mo_ten_3 rfl hl (by decide) rfl (fun ls hl => ?_)
  refine L_ten S n hn1 (fun ls hl => ?_) (n.toNat + 1) 1 0 0 ls (by omega) (by omega) rfl (lv_sub hl [0, 1, 2] rfl)
  refine lv_lload_n hx hb d_Mo_ten_21 rfl (lv_at hl 1 rfl) ?_
  refine fm_lretS S hr hlocks d_Mo_ten_22 ?_
  rfl

set_option maxHeartbeats 4000000 in
set_option maxRecDepth 100000 in
/-- set(r, v) -/
theorem t_Mo_set (l : Launch) (D : va_G) (cs : Nat → ClassId) (Z : (Nat → Prop) → State → Heap → Prop) (hZo : fm_Zok Z) (ad : Nat → Nat) (μ : fm_Mu) (V : Nat → Int) (M : Nat → Int → Int) (sz : Nat) (r : Int) (v : Int) (σ : Sg) (hM : moS cs μ ad V M) (hir : inI r) (hiv : inJ v) (hI : moInv V M σ) : Met l y_Mo_set (Cond.code y_Mo_set c_Mo_set 4 (some .int) :: wA) ({ frames := 1, cells := 0, slots := 0, locals := 23 }) (fm_Pc D clsA (tysA cs) Z μ sz [.ref (ad 0), .int (iN (r)), .long (jN (v))]) (moQi D cs ad μ sz (fun z V' M' => z = (sp_set σ r v).1 ∧ moInv V' M' (sp_set σ r v).2 ∧ V' 0 = 0)) 0 0 (fm_A μ sz) := by
  refine mo_of hM (by decide +kernel) (Nat.le_of_ble_eq_true rfl) (fun p e s m below meth c S hr hlocks hsz hm hK hZ hA ls hl => ?_)
  subst hsz
  obtain ⟨hx, hb, hml, hown, hts⟩ := id S
  have hl : lv_has ls 4 [(0, .ref (ad 0)), (1, .int (iN (r))), (2, .long (jN (v)))] := hl
  refine lv_aload_n hx hb d_Mo_set_0 rfl (lv_at hl 0 rfl) ?_
  refine fm_iconst S d_Mo_set_1 ?_
  refine mo_puti 0 S hK hm (by decide) k466 d_Mo_set_2 (fun V1 H locs eV1 hm => ?_)
  have hI := hI.v0 eV1
  have hI1 := hI.p
  have hI2 := hI.c
  have hI3 := hI.r
  refine lv_aload_n hx hb d_Mo_set_5 rfl (lv_at hl 0 rfl) ?_
  refine lv_iload_n hx hb d_Mo_set_6 rfl (lv_at hl 1 rfl) ?_
  refine mo_pi (n := 1) (As := [.int (iN (r))]) (rest := []) S hK hZo hZ hA hm (fun μ sz hM => t_Mo_isReceiver l D cs Z hZo ad μ V1 M sz r hM (by omega) (by omega)) (gV k644 k646 ks38 k6 k647) (by decide) (by decide +kernel) rfl hl.1 rfl (Nat.le_of_ble_eq_true rfl) ⟨Nat.le_of_ble_eq_true rfl, Nat.le_of_ble_eq_true rfl⟩ d_Mo_set_7 (fun x3 q2 => ?_)
  refine fm_if_ne (tgt := 16) S (by omega) d_Mo_set_10 (by decide) (fun c4 => ?_) (fun c4 => ?_)
  · have hwx := hI.rv (r := r) (by omega) (by omega)
    have hr1 := hwx.1.1
    have hr2 := hwx.2.1
    have hr3 := hwx.2.2.1
    refine lv_aload_n hx hb d_Mo_set_16 rfl (lv_at hl 0 rfl) ?_
    refine mo_get 18 S hK hm (by decide) k484 rfl rfl d_Mo_set_17 ?_
    refine lv_iload_n hx hb d_Mo_set_20 rfl (lv_at hl 1 rfl) ?_
    refine lv_lload_n hx hb d_Mo_set_21 rfl (lv_at hl 2 rfl) ?_
    refine lv_aload_n hx hb d_Mo_set_22 rfl (lv_at hl 0 rfl) ?_
    refine mo_get 15 S hK hm (by decide) k481 rfl rfl d_Mo_set_23 ?_
    refine lv_iload_n hx hb d_Mo_set_26 rfl (lv_at hl 1 rfl) ?_
    refine mo_iald 11 S hK hm (by decide) (by simp only [moLen]; omega) d_Mo_set_27 ?_
    refine mo_sl (n := 1) (As := [.int (iN ((M 11 r)))]) (rest := [.long (jN (v)), .int (iN (r)), .ref (ad 14)]) S hK hZo hZ hA hm (fun μ sz => t_Mo_ten l D cs Z hZo ad μ sz (M 11 r) (by omega)) (gS k648 k649 k6 k650) (by decide) (by decide +kernel) rfl hl.1 rfl (Nat.le_of_ble_eq_true rfl) ⟨Nat.le_of_ble_eq_true rfl, Nat.le_of_ble_eq_true rfl⟩ d_Mo_set_28 (fun x6 q5 => ?_)
    have hp18 := p10_18 (n := (sQ σ r.toNat).1.toNat) (by omega)
    rw [hr1] at q5
    rw [← q5] at hp18
    refine fm_lrem S (by omega) d_Mo_set_31 ?_
    refine mo_last 14 S hK hm (by decide) (by simp only [moLen]; omega) d_Mo_set_32 (fun M7 H locs eM7 hm => ?_)
    refine fm_iconst S d_Mo_set_33 ?_
    refine mo_iret S hr hlocks hK hm d_Mo_set_34 ?_
    unfold sp_set
    rw [if_pos (by omega)]
    rw [q5] at eM7
    refine ⟨rfl, hI.setR (by omega) (by omega) ?_ (fun k h1 h2 => by rw [eM7, setA_n (by omega)]) (by rw [eM7, setA_n (by decide)]; exact hI.2.2.2.2.2.2) (fun x hx => ?_) ?_, by rw [eV1]; rfl⟩
    · obtain ⟨a1, a2, a3, a4, a5, a6, a7, a8, a9⟩ := hwx.2
      exact ⟨a1, a2, a3, a4, a5, a6, tmod_lt _ _, a8, a9⟩
    · rw [eM7, setA_n (by decide), setA_n (by decide), setA_n (by decide), setA_s, uI_n hx, setA_n (by decide), setA_n (by decide)]
      exact ⟨rfl, rfl, rfl, rfl, rfl, rfl⟩
    · obtain ⟨b1, b2, b3, b4, b5, b6⟩ := hwx.1
      rw [eM7]
      refine ⟨?_, ?_, ?_, ?_, ?_, ?_⟩ <;> first | (rw [setA_n (by decide)]; assumption) | (rw [setA_s, uI_s]; rfl)
  · refine fm_bipush S d_Mo_set_13 (by decide) ?_
    refine mo_iret S hr hlocks hK hm d_Mo_set_15 ?_
    unfold sp_set
    rw [if_neg (by omega)]
    exact ⟨rfl, hI, by rw [eV1]; rfl⟩
