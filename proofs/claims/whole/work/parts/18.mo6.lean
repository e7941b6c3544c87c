set_option maxHeartbeats 4000000 in
set_option maxRecDepth 100000 in
/-- L_en -/
theorem L_en {p : Program} {l : Launch} {e : Env} {s : State} {m : MethodId} {args : Array Value} {below : List Frame} {meth : Method} {c : Code} {Q : State → Prop} {D : va_G} {cs : Nat → ClassId} {Z : (Nat → Prop) → State → Heap → Prop} {ad : Nat → Nat} {μ0 : fm_Mu} {A : Nat → Prop}  (S : CallFix p m c c_Mo_isEnough 4 s args wA "ArithmeticFormsModel") (hK : va_K D clsA (tysA cs) s) (hZo : fm_Zok Z) (hZ : Z A s s.heap) (hA : ∀ q, s.heap.size ≤ q → A q) (V : Nat → Int) (M0 : Nat → Int → Int) (nb NB R : Nat) (xb sb : Int) (hgb : Rg M0 1 nb NB xb sb) (hrs : Rs M0 nb R) (hnb : nb ≤ 38) (n : Int) (hnn : n = nb) (kk60 : ∀ (M : Nat → Int → Int) (k : Int) (H : Heap) (locs : List Loc) (ls : Array Slot), (M = M0) → (R = NB) → lv_has ls 4 [(2, .int (iN (k))), (0, .ref (ad 0)), (1, .int (iN (n)))] → moW D A s.heap μ0 cs ad V M H locs → W p l e ({ frames := 0, cells := 0, slots := 0, locals := 0 }) s m args below meth c H locs 0 0 Q (F0 m 60 ls [])) (kk44 : ∀ (M : Nat → Int → Int) (k : Int) (z : Int) (H : Heap) (locs : List Loc) (ls : Array Slot), (M = M0) → (ordOk R NB z ∧ z ≠ 0) → lv_has ls 4 [(3, .int (iN (z))), (2, .int (iN (k))), (0, .ref (ad 0)), (1, .int (iN (n)))] → moW D A s.heap μ0 cs ad V M H locs → W p l e ({ frames := 0, cells := 0, slots := 0, locals := 0 }) s m args below meth c H locs 0 0 Q (F0 m 44 ls [])) : ∀ (fu : Nat) (M : Nat → Int → Int) (k : Int) (H : Heap) (locs : List Loc) (ls : Array Slot), k + 1 < (fu : Int) → (M = M0) → (-1 ≤ k ∧ k ≤ n) → (R / 10 ^ (k + 1).toNat = NB / 10 ^ (k + 1).toNat) → lv_has ls 4 [(2, .int (iN (k))), (0, .ref (ad 0)), (1, .int (iN (n)))] → moW D A s.heap μ0 cs ad V M H locs → W p l e ({ frames := 0, cells := 0, slots := 0, locals := 0 }) s m args below meth c H locs 0 0 Q (F0 m 9 ls []) := by
  obtain ⟨hx, hb, hml, hown, hts⟩ := id S
  intro fu
  induction fu with
  | zero =>
    intro M k H locs ls hn hM0 hk hq hl hm
    exfalso; omega
  | succ fu ih =>
    intro M k H locs ls hn hM0 hk hq hl hm
    refine lv_iload_n hx hb d_Mo_isEnough_9 rfl (lv_at hl 0 rfl) ?_
    refine fm_if_lt (tgt := 60) S (by omega) d_Mo_isEnough_10 (by decide) (fun c1 => ?_) (fun c1 => ?_)
    · exact kk60 M k _ _ _ (hM0) (by rw [show (k + 1).toNat = 0 by omega] at hq; simpa using hq) (lv_sub hl [0, 1, 2] rfl) hm
    · obtain ⟨kk, hkk⟩ : ∃ kk : Nat, k = kk := ⟨k.toNat, by omega⟩
      have hR : M 5 k = ((R / 10 ^ kk % 10 : Nat) : Int) := by rw [hM0, hkk]; exact hrs.dig (by omega)
      have hD1 : k < n → M 1 (320 + k) = ((NB / 10 ^ kk % 10 : Nat) : Int) := fun h => by
        rw [hM0, show (320 : Int) + k = 320 * 1 + k by omega, hgb.dig (by omega) (by omega), show k.toNat = kk by omega]
      have hD2 : ¬ k < n → (0 : Int) = ((NB / 10 ^ kk % 10 : Nat) : Int) := fun h => by rw [hgb.hi (by omega)]; rfl
      have hm1 := Nat.mod_lt (R / 10 ^ kk) (show 10 > 0 by decide)
      have hm2 := Nat.mod_lt (NB / 10 ^ kk) (show 10 > 0 by decide)
      have hi3 : (k + 1).toNat = kk + 1 := by omega
      rw [hi3] at hq
      refine lv_aload_n hx hb d_Mo_isEnough_13 rfl (lv_at hl 1 rfl) ?_
      refine mo_get 6 S hK hm (by decide) k472 rfl rfl d_Mo_isEnough_14 ?_
      refine lv_iload_n hx hb d_Mo_isEnough_17 rfl (lv_at hl 0 rfl) ?_
      refine mo_iald 5 S hK hm (by decide) (by simp only [moLen]; omega) d_Mo_isEnough_18 ?_
      refine mo_join (P := fun y => y = ((NB / 10 ^ kk % 10 : Nat) : Int)) (g := fun y => F0 m 38 ls ([.int (iN (y)), .int (iN ((M 5 k)))])) (fun y hy => ?_) (fun key => ?_)
      · refine fm_isub S d_Mo_isEnough_38 ?_
        refine fm_topi (fun x2 hx2 => ?_)
        refine lv_istore_n (lv' := [(3, .int (iN (x2))), (2, .int (iN (k))), (0, .ref (ad 0)), (1, .int (iN (n)))]) hx hb d_Mo_isEnough_39 rfl hl (by decide) rfl (fun ls hl => ?_)
        refine lv_iload_n hx hb d_Mo_isEnough_40 rfl (lv_at hl 0 rfl) ?_
        refine fm_if_eq (tgt := 54) S (by omega) d_Mo_isEnough_41 (by decide) (fun c3 => ?_) (fun c3 => ?_)
        · refine lv_iinc (v := iN ((k + (-1)))) (lv' := [(2, .int (iN ((k + (-1))))), (3, .int (iN (x2))), (0, .ref (ad 0)), (1, .int (iN (n)))]) hx hb d_Mo_isEnough_54 hl (k := 1) rfl (iN_add _ _) (by decide) rfl (fun ls hl => ?_)
          refine lv_goto (tgt := 9) hx hb d_Mo_isEnough_57 (by decide) ?_
          exact ih M (k + -1) _ _ _ (by omega) (hM0) (by omega) (by rw [show (k + -1 + 1).toNat = kk by omega]; exact nat_same hq (by omega)) (lv_sub hl [0, 2, 3] rfl) hm
        · exact kk44 M k x2 _ _ _ (hM0) (⟨⟨by omega, by omega, fun h => nat_top hq (by omega), fun h => nat_top hq.symm (by omega), fun h => absurd h c3⟩, c3⟩) (lv_sub hl [0, 1, 2, 3] rfl) hm
      · refine lv_iload_n hx hb d_Mo_isEnough_19 rfl (lv_at hl 0 rfl) ?_
        refine lv_iload_n hx hb d_Mo_isEnough_20 rfl (lv_at hl 2 rfl) ?_
        refine fm_icmp_ge (tgt := 37) S (by omega) (by omega) d_Mo_isEnough_21 (by decide) (fun c4 => ?_) (fun c4 => ?_)
        · refine fm_iconst S d_Mo_isEnough_37 ?_
          exact key _ (by first | exact hD1 (by omega) | exact hD2 (by omega))
        · refine lv_aload_n hx hb d_Mo_isEnough_24 rfl (lv_at hl 1 rfl) ?_
          refine mo_get 2 S hK hm (by decide) k468 rfl rfl d_Mo_isEnough_25 ?_
          refine fm_sipush S d_Mo_isEnough_28 (by decide) ?_
          refine lv_iload_n hx hb d_Mo_isEnough_31 rfl (lv_at hl 0 rfl) ?_
          refine fm_iadd S d_Mo_isEnough_32 ?_
          refine mo_iald 1 S hK hm (by decide) (by simp only [moLen]; omega) d_Mo_isEnough_33 ?_
          refine lv_goto (tgt := 38) hx hb d_Mo_isEnough_34 (by decide) ?_
          exact key _ (by first | exact hD1 (by omega) | exact hD2 (by omega))

set_option maxHeartbeats 4000000 in
set_option maxRecDepth 100000 in
/-- isEnough() -/
theorem t_Mo_isEnough (l : Launch) (D : va_G) (cs : Nat → ClassId) (Z : (Nat → Prop) → State → Heap → Prop) (hZo : fm_Zok Z) (ad : Nat → Nat) (μ : fm_Mu) (V : Nat → Int) (M : Nat → Int → Int) (sz : Nat) (nb : Nat) (NB : Nat) (R : Nat) (xb : Int) (sb : Int) (hM : moS cs μ ad V M) (hgb : Rg M 1 nb NB xb sb) (hrs : Rs M nb R) (hnb : nb ≤ 38) : Met l y_Mo_isEnough (Cond.code y_Mo_isEnough c_Mo_isEnough 4 (some .boolean) :: wA) ({ frames := 0, cells := 0, slots := 0, locals := 0 }) (fm_Pc D clsA (tysA cs) Z μ sz [.ref (ad 0)]) (moQi D cs ad μ sz (fun z V' M' => V' = V ∧ M' = M ∧ ((z = 1 ∧ NB ≤ R) ∨ (z = 0 ∧ R < NB)))) 0 0 (fm_A μ sz) := by
  refine mo_of hM (by decide +kernel) (Nat.le_of_ble_eq_true rfl) (fun p e s m below meth c S hr hlocks hsz hm hK hZ hA ls hl => ?_)
  subst hsz
  obtain ⟨hx, hb, hml, hown, hts⟩ := id S
  have hl : lv_has ls 4 [(0, .ref (ad 0))] := hl
  have e21 := hgb.1
  refine lv_aload_n hx hb d_Mo_isEnough_0 rfl (lv_at hl 0 rfl) ?_
  refine mo_get 3 S hK hm (by decide) k469 rfl rfl d_Mo_isEnough_1 ?_
  refine fm_iconst S d_Mo_isEnough_4 ?_
  refine mo_iald 2 S hK hm (by decide) (by simp only [moLen]; omega) d_Mo_isEnough_5 ?_
  refine fm_topi (fun x1 hx1 => ?_)
  refine lv_istore_n (lv' := [(1, .int (iN (x1))), (0, .ref (ad 0))]) hx hb d_Mo_isEnough_6 rfl hl (by decide) rfl (fun ls hl => ?_)
  refine lv_iload_n hx hb d_Mo_isEnough_7 rfl (lv_at hl 0 rfl) ?_
  refine lv_istore_n (lv' := [(2, .int (iN (x1))), (1, .int (iN (x1))), (0, .ref (ad 0))]) hx hb d_Mo_isEnough_8 rfl hl (by decide) rfl (fun ls hl => ?_)
  refine L_en (Z := Z) S hK hZo hZ hA V M nb NB R xb sb hgb hrs hnb x1 (by omega) (fun M1 k H locs ls hM1 hq hl hm => ?_) (fun M1 k z H locs ls hM1 hq hl hm => ?_) (nb + 2) M x1 _ _ _ (by omega) rfl (by omega) (by rw [show (x1 + 1).toNat = nb + 1 by omega, Nat.div_eq_of_lt hrs.lt, hgb.hi (by omega)]) (lv_sub hl [0, 2, 1] rfl) hm
  · refine fm_iconst S d_Mo_isEnough_60 ?_
    refine mo_zret S hr hlocks hK hm (by omega) d_Mo_isEnough_61 ?_
    exact ⟨rfl, hM1, by omega⟩
  · obtain ⟨⟨ho1, ho2, ho3, ho4, ho5⟩, ho6⟩ := hq
    refine lv_iload_n hx hb d_Mo_isEnough_44 rfl (lv_at hl 0 rfl) ?_
    refine fm_if_le (tgt := 52) S (by omega) d_Mo_isEnough_45 (by decide) (fun c2 => ?_) (fun c2 => ?_)
    · refine fm_iconst S d_Mo_isEnough_52 ?_
      refine mo_zret S hr hlocks hK hm (by omega) d_Mo_isEnough_53 ?_
      exact ⟨rfl, hM1, by omega⟩
    · refine fm_iconst S d_Mo_isEnough_48 ?_
      refine lv_goto (tgt := 53) hx hb d_Mo_isEnough_49 (by decide) ?_
      refine mo_zret S hr hlocks hK hm (by omega) d_Mo_isEnough_53 ?_
      exact ⟨rfl, hM1, by omega⟩

set_option maxHeartbeats 4000000 in
set_option maxRecDepth 100000 in
/-- L_le -/
theorem L_le {p : Program} {l : Launch} {e : Env} {s : State} {m : MethodId} {args : Array Value} {below : List Frame} {meth : Method} {c : Code} {Q : State → Prop} {D : va_G} {cs : Nat → ClassId} {Z : (Nat → Prop) → State → Heap → Prop} {ad : Nat → Nat} {μ0 : fm_Mu} {A : Nat → Prop}  (S : CallFix p m c c_Mo_lessen 4 s args wA "ArithmeticFormsModel") (hK : va_K D clsA (tysA cs) s) (hZo : fm_Zok Z) (hZ : Z A s s.heap) (hA : ∀ q, s.heap.size ≤ q → A q) (V : Nat → Int) (M0 : Nat → Int → Int) (nb NB R : Nat) (xb sb : Int) (hgb : Rg M0 1 nb NB xb sb) (hrs : Rs M0 nb R) (hnb : nb ≤ 38) (kk76 : ∀ (M : Nat → Int → Int) (k : Int) (cy : Int) (kk : Nat) (H : Heap) (locs : List Loc) (ls : Array Slot), (kk = nb + 1) → (LsI M0 M nb kk cy R NB) → lv_has ls 4 [(2, .int (iN (k))), (1, .int (iN (cy))), (0, .ref (ad 0))] → moW D A s.heap μ0 cs ad V M H locs → W p l e ({ frames := 0, cells := 0, slots := 0, locals := 0 }) s m args below meth c H locs 0 0 Q (F0 m 76 ls [])) : ∀ (fu : Nat) (M : Nat → Int → Int) (k : Int) (cy : Int) (kk : Nat) (H : Heap) (locs : List Loc) (ls : Array Slot), nb + 1 - k < (fu : Int) → (k = kk ∧ kk ≤ nb + 1) → (LsI M0 M nb kk cy R NB) → lv_has ls 4 [(2, .int (iN (k))), (1, .int (iN (cy))), (0, .ref (ad 0))] → moW D A s.heap μ0 cs ad V M H locs → W p l e ({ frames := 0, cells := 0, slots := 0, locals := 0 }) s m args below meth c H locs 0 0 Q (F0 m 4 ls []) := by
  obtain ⟨hx, hb, hml, hown, hts⟩ := id S
  intro fu
  induction fu with
  | zero =>
    intro M k cy kk H locs ls hn hk hc hl hm
    exfalso; omega
  | succ fu ih =>
    intro M k cy kk H locs ls hn hk hc hl hm
    have e21 : M 2 1 = nb := by rw [hc.1 2 (by decide)]; exact hgb.1
    refine lv_iload_n hx hb d_Mo_lessen_4 rfl (lv_at hl 0 rfl) ?_
    refine lv_aload_n hx hb d_Mo_lessen_5 rfl (lv_at hl 2 rfl) ?_
    refine mo_get 3 S hK hm (by decide) k469 rfl rfl d_Mo_lessen_6 ?_
    refine fm_iconst S d_Mo_lessen_9 ?_
    refine mo_iald 2 S hK hm (by decide) (by simp only [moLen]; omega) d_Mo_lessen_10 ?_
    refine fm_icmp_gt (tgt := 76) S (by omega) (by omega) d_Mo_lessen_11 (by decide) (fun c1 => ?_) (fun c1 => ?_)
    · exact kk76 M k cy kk _ _ _ (by omega) (hc) (lv_sub hl [0, 1, 2] rfl) hm
    · have hR := hc.2.1 k (by omega) (by omega)
      rw [Int.zero_add] at hR
      have hD1 : k < nb → M 1 (320 + k) = ((NB / 10 ^ kk % 10 : Nat) : Int) := fun h => by
        rw [hc.1 1 (by decide), show (320 : Int) + k = 320 * 1 + k by omega, hgb.dig (by omega) (by omega), show k.toNat = kk by omega]
      have hD2 : ¬ k < nb → (0 : Int) = ((NB / 10 ^ kk % 10 : Nat) : Int) := fun h => by rw [hgb.hi (by omega)]; rfl
      have hm2 := Nat.mod_lt (NB / 10 ^ kk) (show 10 > 0 by decide)
      have hc3 := hc.2.2.1
      have hc4 := hc.2.2.2.1
      refine lv_aload_n hx hb d_Mo_lessen_14 rfl (lv_at hl 2 rfl) ?_
      refine mo_get 6 S hK hm (by decide) k472 rfl rfl d_Mo_lessen_15 ?_
      refine lv_iload_n hx hb d_Mo_lessen_18 rfl (lv_at hl 0 rfl) ?_
      refine mo_iald 5 S hK hm (by decide) (by simp only [moLen]; omega) d_Mo_lessen_19 ?_
      refine mo_join (P := fun y => y = ((NB / 10 ^ kk % 10 : Nat) : Int)) (g := fun y => F0 m 44 ls ([.int (iN (y)), .int (iN ((M 5 k)))])) (fun y hy => ?_) (fun key => ?_)
      · refine fm_isub S d_Mo_lessen_44 ?_
        refine lv_iload_n hx hb d_Mo_lessen_45 rfl (lv_at hl 1 rfl) ?_
        refine fm_iadd S d_Mo_lessen_46 ?_
        refine fm_topi (fun x2 hx2 => ?_)
        refine lv_istore_n (lv' := [(3, .int (iN (x2))), (2, .int (iN (k))), (1, .int (iN (cy))), (0, .ref (ad 0))]) hx hb d_Mo_lessen_47 rfl hl (by decide) rfl (fun ls hl => ?_)
        refine mo_join (P := fun y2 => (x2 < 0 ∧ y2 = -1) ∨ (0 ≤ x2 ∧ y2 = 0)) (g := fun y2 => F0 m 57 ls ([.int (iN (y2))])) (fun y2 hy2 => ?_) (fun key => ?_)
        · refine lv_istore_n (lv' := [(1, .int (iN (y2))), (3, .int (iN (x2))), (2, .int (iN (k))), (0, .ref (ad 0))]) hx hb d_Mo_lessen_57 rfl hl (by decide) rfl (fun ls hl => ?_)
          refine lv_aload_n hx hb d_Mo_lessen_58 rfl (lv_at hl 3 rfl) ?_
          refine mo_get 6 S hK hm (by decide) k472 rfl rfl d_Mo_lessen_59 ?_
          refine lv_iload_n hx hb d_Mo_lessen_62 rfl (lv_at hl 2 rfl) ?_
          refine lv_iload_n hx hb d_Mo_lessen_63 rfl (lv_at hl 1 rfl) ?_
          refine fm_bipush S d_Mo_lessen_64 (by decide) ?_
          refine lv_iload_n hx hb d_Mo_lessen_66 rfl (lv_at hl 0 rfl) ?_
          refine fm_imul S d_Mo_lessen_67 ?_
          refine fm_isub S d_Mo_lessen_68 ?_
          refine mo_iast 5 S hK hm (by decide) (by simp only [moLen]; omega) d_Mo_lessen_69 (fun M3 H locs eM3 hm => ?_)
          refine lv_iinc (v := iN ((k + 1))) (lv' := [(2, .int (iN ((k + 1)))), (1, .int (iN (y2))), (3, .int (iN (x2))), (0, .ref (ad 0))]) hx hb d_Mo_lessen_70 hl (k := 2) rfl (iN_add _ _) (by decide) rfl (fun ls hl => ?_)
          refine lv_goto (tgt := 4) hx hb d_Mo_lessen_73 (by decide) ?_
          exact ih M3 (k + 1) y2 (kk + 1) _ _ _ (by omega) (by omega) (hc.step (q := k) (by omega) (by omega) (by rw [hx2, hy]) hy2 eM3) (lv_sub hl [0, 1, 3] rfl) hm
        · refine lv_iload_n hx hb d_Mo_lessen_48 rfl (lv_at hl 0 rfl) ?_
          refine fm_if_ge (tgt := 56) S (by omega) d_Mo_lessen_49 (by decide) (fun c4 => ?_) (fun c4 => ?_)
          · refine fm_iconst S d_Mo_lessen_56 ?_
            exact key _ (by omega)
          · refine fm_iconst S d_Mo_lessen_52 ?_
            refine lv_goto (tgt := 57) hx hb d_Mo_lessen_53 (by decide) ?_
            exact key _ (by omega)
      · refine lv_iload_n hx hb d_Mo_lessen_20 rfl (lv_at hl 0 rfl) ?_
        refine lv_aload_n hx hb d_Mo_lessen_21 rfl (lv_at hl 2 rfl) ?_
        refine mo_get 3 S hK hm (by decide) k469 rfl rfl d_Mo_lessen_22 ?_
        refine fm_iconst S d_Mo_lessen_25 ?_
        refine mo_iald 2 S hK hm (by decide) (by simp only [moLen]; omega) d_Mo_lessen_26 ?_
        refine fm_icmp_ge (tgt := 43) S (by omega) (by omega) d_Mo_lessen_27 (by decide) (fun c5 => ?_) (fun c5 => ?_)
        · refine fm_iconst S d_Mo_lessen_43 ?_
          exact key _ (by first | exact hD1 (by omega) | exact hD2 (by omega))
        · refine lv_aload_n hx hb d_Mo_lessen_30 rfl (lv_at hl 2 rfl) ?_
          refine mo_get 2 S hK hm (by decide) k468 rfl rfl d_Mo_lessen_31 ?_
          refine fm_sipush S d_Mo_lessen_34 (by decide) ?_
          refine lv_iload_n hx hb d_Mo_lessen_37 rfl (lv_at hl 0 rfl) ?_
          refine fm_iadd S d_Mo_lessen_38 ?_
          refine mo_iald 1 S hK hm (by decide) (by simp only [moLen]; omega) d_Mo_lessen_39 ?_
          refine lv_goto (tgt := 44) hx hb d_Mo_lessen_40 (by decide) ?_
          exact key _ (by first | exact hD1 (by omega) | exact hD2 (by omega))

set_option maxHeartbeats 4000000 in
set_option maxRecDepth 100000 in
/-- lessen() -/
theorem t_Mo_lessen (l : Launch) (D : va_G) (cs : Nat → ClassId) (Z : (Nat → Prop) → State → Heap → Prop) (hZo : fm_Zok Z) (ad : Nat → Nat) (μ : fm_Mu) (V : Nat → Int) (M : Nat → Int → Int) (sz : Nat) (nb : Nat) (NB : Nat) (R : Nat) (xb : Int) (sb : Int) (hM : moS cs μ ad V M) (hgb : Rg M 1 nb NB xb sb) (hrs : Rs M nb R) (hnb : nb ≤ 38) (hle : NB ≤ R) : Met l y_Mo_lessen (Cond.code y_Mo_lessen c_Mo_lessen 4 none :: wA) ({ frames := 0, cells := 0, slots := 0, locals := 0 }) (fm_Pc D clsA (tysA cs) Z μ sz [.ref (ad 0)]) (moQv D cs ad μ sz (fun V' M' => V' = V ∧ (∀ j, j ≠ 5 → M' j = M j) ∧ Rs M' nb (R - NB))) 0 0 (fm_A μ sz) := by
  refine mo_of hM (by decide +kernel) (Nat.le_of_ble_eq_true rfl) (fun p e s m below meth c S hr hlocks hsz hm hK hZ hA ls hl => ?_)
  subst hsz
  obtain ⟨hx, hb, hml, hown, hts⟩ := id S
  have hl : lv_has ls 4 [(0, .ref (ad 0))] := hl
  refine fm_iconst S d_Mo_lessen_0 ?_
  refine lv_istore_n (lv' := [(1, .int (iN (0))), (0, .ref (ad 0))]) hx hb d_Mo_lessen_1 rfl hl (by decide) rfl (fun ls hl => ?_)
  refine fm_iconst S d_Mo_lessen_2 ?_
  refine lv_istore_n (lv' := [(2, .int (iN (0))), (1, .int (iN (0))), (0, .ref (ad 0))]) hx hb d_Mo_lessen_3 rfl hl (by decide) rfl (fun ls hl => ?_)
  refine L_le (Z := Z) S hK hZo hZ hA V M nb NB R xb sb hgb hrs hnb (fun M1 k cy kk H locs ls hk hc hl hm => ?_) (nb + 2) M 0 0 0 _ _ _ (by omega) (by omega) (LsI.start hrs) (lv_sub hl [0, 1, 2] rfl) hm
  refine mo_vret S hr hlocks hK hm d_Mo_lessen_76 ?_
  subst hk
  exact ⟨rfl, hc.fin hgb.lt hrs.lt hle⟩

set_option maxHeartbeats 4000000 in
set_option maxRecDepth 100000 in
/-- L_div1 -/
theorem L_div1 {p : Program} {l : Launch} {e : Env} {s : State} {m : MethodId} {args : Array Value} {below : List Frame} {meth : Method} {c : Code} {Q : State → Prop} {D : va_G} {cs : Nat → ClassId} {Z : (Nat → Prop) → State → Heap → Prop} {ad : Nat → Nat} {μ0 : fm_Mu} {A : Nat → Prop}  (S : CallFix p m c c_Mo_divide 5 s args wA "ArithmeticFormsModel") (hK : va_K D clsA (tysA cs) s) (hZo : fm_Zok Z) (hZ : Z A s s.heap) (hA : ∀ q, s.heap.size ≤ q → A q) (V : Nat → Int) (M0 : Nat → Int → Int) (na NA nb NB : Nat) (xa sa xb sb : Int) (hga : Rg M0 0 na NA xa sa) (hgb : Rg M0 1 nb NB xb sb) (hbd : na ≤ 100 ∧ nb ≤ 38 ∧ 0 < NB) (more n : Int) (mr nn DD : Nat) (hmr : more = mr ∧ n = nn ∧ nn = na + mr ∧ nn ≤ 320) (hDD : DD = NA * 10 ^ mr) (kk53 : ∀ (M : Nat → Int → Int) (k : Int) (H : Heap) (locs : List Loc) (ls : Array Slot), (∀ j, j ≠ 5 → M j = M0 j) → (∀ q : Int, 0 ≤ q → q < 40 → M 5 q = 0) → lv_has ls 5 [(3, .int (iN (k))), (0, .ref (ad 0)), (1, .int (iN (more))), (2, .int (iN (n)))] → moW D A s.heap μ0 cs ad V M H locs → W p l e ({ frames := 2, cells := 0, slots := 0, locals := 47 }) s m args below meth c H locs 0 0 Q (F0 m 53 ls [])) : ∀ (fu : Nat) (M : Nat → Int → Int) (k : Int) (H : Heap) (locs : List Loc) (ls : Array Slot), 40 - k < (fu : Int) → (0 ≤ k ∧ k ≤ 40) → (∀ j, j ≠ 5 → M j = M0 j) → (∀ q : Int, 0 ≤ q → q < k → M 5 q = 0) → lv_has ls 5 [(3, .int (iN (k))), (0, .ref (ad 0)), (1, .int (iN (more))), (2, .int (iN (n)))] → moW D A s.heap μ0 cs ad V M H locs → W p l e ({ frames := 2, cells := 0, slots := 0, locals := 47 }) s m args below meth c H locs 0 0 Q (F0 m 34 ls []) := by
  obtain ⟨hx, hb, hml, hown, hts⟩ := id S
  intro fu
  induction fu with
  | zero =>
    intro M k H locs ls hn hk hs hz hl hm
    exfalso; omega
  | succ fu ih =>
    intro M k H locs ls hn hk hs hz hl hm
    refine lv_iload_n hx hb d_Mo_divide_34 rfl (lv_at hl 0 rfl) ?_
    refine fm_bipush S d_Mo_divide_35 (by decide) ?_
    refine fm_icmp_ge (tgt := 53) S (by omega) (by omega) d_Mo_divide_37 (by decide) (fun c1 => ?_) (fun c1 => ?_)
    · exact kk53 M k _ _ _ (hs) (fun q h1 h2 => hz q h1 (by omega)) (lv_sub hl [0, 1, 2, 3] rfl) hm
    · refine lv_aload_n hx hb d_Mo_divide_40 rfl (lv_at hl 1 rfl) ?_
      refine mo_get 6 S hK hm (by decide) k472 rfl rfl d_Mo_divide_41 ?_
      refine lv_iload_n hx hb d_Mo_divide_44 rfl (lv_at hl 0 rfl) ?_
      refine fm_iconst S d_Mo_divide_45 ?_
      refine mo_iast 5 S hK hm (by decide) (by simp only [moLen]; omega) d_Mo_divide_46 (fun M2 H locs eM2 hm => ?_)
      refine lv_iinc (v := iN ((k + 1))) (lv' := [(3, .int (iN ((k + 1)))), (0, .ref (ad 0)), (1, .int (iN (more))), (2, .int (iN (n)))]) hx hb d_Mo_divide_47 hl (k := 0) rfl (iN_add _ _) (by decide) rfl (fun ls hl => ?_)
      refine lv_goto (tgt := 34) hx hb d_Mo_divide_50 (by decide) ?_
      exact ih M2 (k + 1) _ _ _ (by omega) (by omega) (fun j hj => by rw [eM2, setA_n hj]; exact hs j hj) (fun q h1 h2 => by
            rw [eM2, setA_s]
            by_cases hq : q = k
            · rw [hq, uI_s]
            · rw [uI_n hq]; exact hz q h1 (by omega)) (lv_sub hl [0, 1, 2, 3] rfl) hm

set_option maxHeartbeats 4000000 in
set_option maxRecDepth 100000 in
/-- L_div3 -/
theorem L_div3 {p : Program} {l : Launch} {e : Env} {s : State} {m : MethodId} {args : Array Value} {below : List Frame} {meth : Method} {c : Code} {Q : State → Prop} {D : va_G} {cs : Nat → ClassId} {Z : (Nat → Prop) → State → Heap → Prop} {ad : Nat → Nat} {μ0 : fm_Mu} {A : Nat → Prop}  (S : CallFix p m c c_Mo_divide 5 s args wA "ArithmeticFormsModel") (hK : va_K D clsA (tysA cs) s) (hZo : fm_Zok Z) (hZ : Z A s s.heap) (hA : ∀ q, s.heap.size ≤ q → A q) (V : Nat → Int) (M0 : Nat → Int → Int) (nb : Nat) (more n k : Int) (hnb : nb ≤ 38) (kk96 : ∀ (M : Nat → Int → Int) (i : Int) (H : Heap) (locs : List Loc) (ls : Array Slot), (ShI M0 M nb 0) → lv_has ls 5 [(4, .int (iN (i))), (0, .ref (ad 0)), (1, .int (iN (more))), (2, .int (iN (n))), (3, .int (iN (k)))] → moW D A s.heap μ0 cs ad V M H locs → W p l e ({ frames := 2, cells := 0, slots := 0, locals := 47 }) s m args below meth c H locs 0 0 Q (F0 m 96 ls [])) : ∀ (fu : Nat) (M : Nat → Int → Int) (i : Int) (H : Heap) (locs : List Loc) (ls : Array Slot), i < (fu : Int) → (0 ≤ i ∧ i ≤ nb) → (ShI M0 M nb i) → lv_has ls 5 [(4, .int (iN (i))), (0, .ref (ad 0)), (1, .int (iN (more))), (2, .int (iN (n))), (3, .int (iN (k)))] → moW D A s.heap μ0 cs ad V M H locs → W p l e ({ frames := 2, cells := 0, slots := 0, locals := 47 }) s m args below meth c H locs 0 0 Q (F0 m 69 ls []) := by
  obtain ⟨hx, hb, hml, hown, hts⟩ := id S
  intro fu
  induction fu with
  | zero =>
    intro M i H locs ls hn hi hc hl hm
    exfalso; omega
  | succ fu ih =>
    intro M i H locs ls hn hi hc hl hm
    refine lv_iload hx hb d_Mo_divide_69 (lv_at hl 0 rfl) ?_
    refine fm_if_le (tgt := 96) S (by omega) d_Mo_divide_71 (by decide) (fun c1 => ?_) (fun c1 => ?_)
    · exact kk96 M i _ _ _ (by rw [show i = 0 by omega] at hc; exact hc) (lv_sub hl [0, 1, 2, 3, 4] rfl) hm
    · refine lv_aload_n hx hb d_Mo_divide_74 rfl (lv_at hl 1 rfl) ?_
      refine mo_get 6 S hK hm (by decide) k472 rfl rfl d_Mo_divide_75 ?_
      refine lv_iload hx hb d_Mo_divide_78 (lv_at hl 0 rfl) ?_
      refine lv_aload_n hx hb d_Mo_divide_80 rfl (lv_at hl 1 rfl) ?_
      refine mo_get 6 S hK hm (by decide) k472 rfl rfl d_Mo_divide_81 ?_
      refine lv_iload hx hb d_Mo_divide_84 (lv_at hl 0 rfl) ?_
      refine fm_iconst S d_Mo_divide_86 ?_
      refine fm_isub S d_Mo_divide_87 ?_
      refine mo_iald 5 S hK hm (by decide) (by simp only [moLen]; omega) d_Mo_divide_88 ?_
      refine mo_iast 5 S hK hm (by decide) (by simp only [moLen]; omega) d_Mo_divide_89 (fun M2 H locs eM2 hm => ?_)
      refine lv_iinc (v := iN ((i + (-1)))) (lv' := [(4, .int (iN ((i + (-1))))), (0, .ref (ad 0)), (1, .int (iN (more))), (2, .int (iN (n))), (3, .int (iN (k)))]) hx hb d_Mo_divide_90 hl (k := 0) rfl (iN_add _ _) (by decide) rfl (fun ls hl => ?_)
      refine lv_goto (tgt := 69) hx hb d_Mo_divide_93 (by decide) ?_
      exact ih M2 (i + -1) _ _ _ (by omega) (by omega) (hc.step eM2) (lv_sub hl [0, 1, 2, 3, 4] rfl) hm

set_option maxHeartbeats 4000000 in
set_option maxRecDepth 100000 in
/-- L_div4 -/
theorem L_div4 {p : Program} {l : Launch} {e : Env} {s : State} {m : MethodId} {args : Array Value} {below : List Frame} {meth : Method} {c : Code} {Q : State → Prop} {D : va_G} {cs : Nat → ClassId} {Z : (Nat → Prop) → State → Heap → Prop} {ad : Nat → Nat} {μ0 : fm_Mu} {A : Nat → Prop}  (S : CallFix p m c c_Mo_divide 5 s args wA "ArithmeticFormsModel") (hK : va_K D clsA (tysA cs) s) (hZo : fm_Zok Z) (hZ : Z A s s.heap) (hA : ∀ q, s.heap.size ≤ q → A q) (V : Nat → Int) (M0 : Nat → Int → Int) (nb NB R' : Nat) (xb sb more n k : Int) (hgb : Rg M0 1 nb NB xb sb) (hnb : nb ≤ 38 ∧ 0 < NB) (kk141 : ∀ (M : Nat → Int → Int) (d : Int) (dd : Nat) (H : Heap) (locs : List Loc) (ls : Array Slot), (d = dd ∧ dd * NB ≤ R') → (∀ j, j ≠ 5 → M j = M0 j) → (Rs M nb (R' - dd * NB)) → (R' - dd * NB < NB) → lv_has ls 5 [(4, .int (iN (d))), (0, .ref (ad 0)), (1, .int (iN (more))), (2, .int (iN (n))), (3, .int (iN (k)))] → moW D A s.heap μ0 cs ad V M H locs → W p l e ({ frames := 2, cells := 0, slots := 0, locals := 47 }) s m args below meth c H locs 0 0 Q (F0 m 141 ls [])) : ∀ (fu : Nat) (M : Nat → Int → Int) (d : Int) (dd : Nat) (H : Heap) (locs : List Loc) (ls : Array Slot), ((R' - dd * NB : Nat) : Int) < (fu : Int) → (d = dd ∧ dd * NB ≤ R') → (∀ j, j ≠ 5 → M j = M0 j) → (Rs M nb (R' - dd * NB)) → lv_has ls 5 [(4, .int (iN (d))), (0, .ref (ad 0)), (1, .int (iN (more))), (2, .int (iN (n))), (3, .int (iN (k)))] → moW D A s.heap μ0 cs ad V M H locs → W p l e ({ frames := 2, cells := 0, slots := 0, locals := 47 }) s m args below meth c H locs 0 0 Q (F0 m 124 ls []) := by
  obtain ⟨hx, hb, hml, hown, hts⟩ := id S
  intro fu
  induction fu with
  | zero =>
    intro M d dd H locs ls hn hd hs hr hl hm
    exfalso; omega
  | succ fu ih =>
    intro M d dd H locs ls hn hd hs hr hl hm
    refine lv_aload_n hx hb d_Mo_divide_124 rfl (lv_at hl 1 rfl) ?_
    refine mo_ciS (n := 0) (As := []) (rest := []) S hK hZo hZ hA hm (fun μ sz hM => t_Mo_isEnough l D cs Z hZo ad μ V M sz nb NB (R' - dd * NB) xb sb hM (hgb.r5 hs) hr (by omega)) (gV k611 k613 ks34 k6 k614) (by decide) (by decide +kernel) rfl hl.1 rfl (Nat.le_of_ble_eq_true rfl) ⟨Nat.le_of_ble_eq_true rfl, Nat.le_of_ble_eq_true rfl⟩ d_Mo_divide_125 (fun x3 M2 H locs q1 hm => ?_)
    rw [q1.1] at hm
    have hqe := q1.2
    refine fm_if_eq (tgt := 141) S (by omega) d_Mo_divide_128 (by decide) (fun c4 => ?_) (fun c4 => ?_)
    · exact kk141 M d dd _ _ _ (hd) (hs) (hr) (by omega) (lv_sub hl [0, 1, 2, 3, 4] rfl) hm
    · refine lv_aload_n hx hb d_Mo_divide_131 rfl (lv_at hl 1 rfl) ?_
      refine mo_cvS (n := 0) (As := []) (rest := []) S hK hZo hZ hA hm (fun μ sz hM => t_Mo_lessen l D cs Z hZo ad μ V M sz nb NB (R' - dd * NB) xb sb hM (hgb.r5 hs) hr (by omega) (by omega)) (gV k615 k617 ks35 k6 k618) (by decide) (by decide +kernel) rfl hl.1 rfl (Nat.le_of_ble_eq_true rfl) ⟨Nat.le_of_ble_eq_true rfl, Nat.le_of_ble_eq_true rfl⟩ d_Mo_divide_132 (fun M6 H locs q5 hm => ?_)
      have hmul : (dd + 1) * NB = dd * NB + NB := by rw [Nat.add_mul, Nat.one_mul]
      refine lv_iinc (v := iN ((d + 1))) (lv' := [(4, .int (iN ((d + 1)))), (0, .ref (ad 0)), (1, .int (iN (more))), (2, .int (iN (n))), (3, .int (iN (k)))]) hx hb d_Mo_divide_135 hl (k := 0) rfl (iN_add _ _) (by decide) rfl (fun ls hl => ?_)
      refine lv_goto (tgt := 124) hx hb d_Mo_divide_138 (by decide) ?_
      exact ih M6 (d + 1) (dd + 1) _ _ _ (by omega) (by rw [Nat.add_mul, Nat.one_mul]; omega) (fun j hj => (q5.1 j hj).trans (hs j hj)) (by rw [Nat.add_mul, Nat.one_mul, ← Nat.sub_sub]; exact q5.2) (lv_sub hl [0, 1, 2, 3, 4] rfl) hm

set_option maxHeartbeats 4000000 in
set_option maxRecDepth 100000 in
/-- L_div2 -/
theorem L_div2 {p : Program} {l : Launch} {e : Env} {s : State} {m : MethodId} {args : Array Value} {below : List Frame} {meth : Method} {c : Code} {Q : State → Prop} {D : va_G} {cs : Nat → ClassId} {Z : (Nat → Prop) → State → Heap → Prop} {ad : Nat → Nat} {μ0 : fm_Mu} {A : Nat → Prop}  (S : CallFix p m c c_Mo_divide 5 s args wA "ArithmeticFormsModel") (hK : va_K D clsA (tysA cs) s) (hZo : fm_Zok Z) (hZ : Z A s s.heap) (hA : ∀ q, s.heap.size ≤ q → A q) (V : Nat → Int) (M0 : Nat → Int → Int) (na NA nb NB : Nat) (xa sa xb sb : Int) (hga : Rg M0 0 na NA xa sa) (hgb : Rg M0 1 nb NB xb sb) (hbd : na ≤ 100 ∧ nb ≤ 38 ∧ 0 < NB) (more n : Int) (mr nn DD : Nat) (hmr : more = mr ∧ n = nn ∧ nn = na + mr ∧ nn ≤ 320) (hDD : DD = NA * 10 ^ mr) (kk159 : ∀ (M : Nat → Int → Int) (k : Int) (kk : Nat) (H : Heap) (locs : List Loc) (ls : Array Slot), (DvI M0 M nn nb 0 DD NB) → lv_has ls 5 [(3, .int (iN (k))), (0, .ref (ad 0)), (1, .int (iN (more))), (2, .int (iN (n)))] → moW D A s.heap μ0 cs ad V M H locs → W p l e ({ frames := 2, cells := 0, slots := 0, locals := 47 }) s m args below meth c H locs 0 0 Q (F0 m 159 ls [])) : ∀ (fu : Nat) (M : Nat → Int → Int) (k : Int) (kk : Nat) (H : Heap) (locs : List Loc) (ls : Array Slot), k + 1 < (fu : Int) → (k = (kk : Int) - 1 ∧ kk ≤ nn) → (DvI M0 M nn nb kk DD NB) → lv_has ls 5 [(3, .int (iN (k))), (0, .ref (ad 0)), (1, .int (iN (more))), (2, .int (iN (n)))] → moW D A s.heap μ0 cs ad V M H locs → W p l e ({ frames := 2, cells := 0, slots := 0, locals := 47 }) s m args below meth c H locs 0 0 Q (F0 m 57 ls []) := by
  obtain ⟨hx, hb, hml, hown, hts⟩ := id S
  intro fu
  induction fu with
  | zero =>
    intro M k kk H locs ls hn hk hc hl hm
    exfalso; omega
  | succ fu ih =>
    intro M k kk H locs ls hn hk hc hl hm
    have g0 := hc.1.rg (by decide) (by omega) hga
    have g1 := hc.1.rg (by decide) (by omega) hgb
    have e21 := g1.1
    refine lv_iload_n hx hb d_Mo_divide_57 rfl (lv_at hl 0 rfl) ?_
    refine fm_if_lt (tgt := 159) S (by omega) d_Mo_divide_58 (by decide) (fun c1 => ?_) (fun c1 => ?_)
    · exact kk159 M k kk _ _ _ (by rw [show kk = 0 by omega] at hc; exact hc) (lv_sub hl [0, 1, 2, 3] rfl) hm
    · obtain ⟨j, rfl⟩ : ∃ j : Nat, kk = j + 1 := ⟨kk - 1, by omega⟩
      refine lv_aload_n hx hb d_Mo_divide_61 rfl (lv_at hl 1 rfl) ?_
      refine mo_get 3 S hK hm (by decide) k469 rfl rfl d_Mo_divide_62 ?_
      refine fm_iconst S d_Mo_divide_65 ?_
      refine mo_iald 2 S hK hm (by decide) (by simp only [moLen]; omega) d_Mo_divide_66 ?_
      refine fm_topi (fun x2 hx2 => ?_)
      refine lv_istore (lv' := [(4, .int (iN (x2))), (3, .int (iN (k))), (0, .ref (ad 0)), (1, .int (iN (more))), (2, .int (iN (n)))]) hx hb d_Mo_divide_67 hl (by decide) rfl (fun ls hl => ?_)
      refine L_div3 (Z := Z) S hK hZo hZ hA V M nb more n k (by omega) (fun M3 i H locs ls hsh hl hm => ?_) (nb + 1) M x2 _ _ _ (by omega) (by omega) (by rw [hx2, e21]; exact ShI.start _ _) (lv_sub hl [0, 2, 3, 4, 1] rfl) hm
      have hA1 : more ≤ k → M3 1 (0 + k - more) = ((DD / 10 ^ j % 10 : Nat) : Int) := fun h => by
        rw [hsh.1 1 (by decide), show (0 : Int) + k - more = 320 * 0 + (k - more) by omega, g0.dig (by omega) (by omega), hDD, div_dig, if_pos (by omega), show (k - more).toNat = j - mr by omega]
      have hA2 : ¬ more ≤ k → (0 : Int) = ((DD / 10 ^ j % 10 : Nat) : Int) := fun h => by rw [hDD, div_dig, if_neg (by omega)]; rfl
      have hm1 := Nat.mod_lt (DD / 10 ^ j) (show 10 > 0 by decide)
      refine lv_aload_n hx hb d_Mo_divide_96 rfl (lv_at hl 1 rfl) ?_
      refine mo_get 6 S hK hm (by decide) k472 rfl rfl d_Mo_divide_97 ?_
      refine fm_iconst S d_Mo_divide_100 ?_
      refine mo_join (P := fun y => y = ((DD / 10 ^ j % 10 : Nat) : Int)) (g := fun y => F0 m 120 ls ([.int (iN (y)), .int (iN (0)), .ref (ad 5)])) (fun y hy => ?_) (fun key => ?_)
      · refine mo_iast 5 S hK hm (by decide) (by simp only [moLen]; omega) d_Mo_divide_120 (fun M4 H locs eM4 hm => ?_)
        refine fm_iconst S d_Mo_divide_121 ?_
        refine lv_istore (lv' := [(4, .int (iN (0))), (0, .ref (ad 0)), (1, .int (iN (more))), (2, .int (iN (n))), (3, .int (iN (k)))]) hx hb d_Mo_divide_122 hl (by decide) rfl (fun ls hl => ?_)
        have hlt := Nat.mod_lt (DD / 10 ^ (j + 1)) hbd.2.2
        obtain ⟨hs1, hr1⟩ := hsh.fin hc.2.2.2.2 (Nat.lt_trans hlt hgb.lt) (by omega) eM4
        obtain ⟨R', hR'⟩ : ∃ R' : Nat, R' = 10 * (DD / 10 ^ (j + 1) % NB) + DD / 10 ^ j % 10 := ⟨_, rfl⟩
        rw [show y.toNat = DD / 10 ^ j % 10 by omega, ← hR'] at hr1
        refine L_div4 (Z := Z) S hK hZo hZ hA V M4 nb NB R' xb sb more n k (g1.r5 hs1) (by omega) (fun M5 d dd H locs ls hd hs2 hr2 hl2 hl hm => ?_) (R' + 1) M4 0 0 _ _ _ (by omega) (by omega) (fun _ _ => rfl) (by simpa using hr1) (lv_sub hl [0, 1, 2, 3, 4] rfl) hm
        refine lv_aload_n hx hb d_Mo_divide_141 rfl (lv_at hl 1 rfl) ?_
        refine mo_get 2 S hK hm (by decide) k468 rfl rfl d_Mo_divide_142 ?_
        refine fm_sipush S d_Mo_divide_145 (by decide) ?_
        refine lv_iload_n hx hb d_Mo_divide_148 rfl (lv_at hl 4 rfl) ?_
        refine fm_iadd S d_Mo_divide_149 ?_
        refine lv_iload hx hb d_Mo_divide_150 (lv_at hl 0 rfl) ?_
        refine mo_iast 1 S hK hm (by decide) (by simp only [moLen]; omega) d_Mo_divide_152 (fun M6 H locs eM6 hm => ?_)
        refine lv_iinc (v := iN ((k + (-1)))) (lv' := [(3, .int (iN ((k + (-1))))), (4, .int (iN (d))), (0, .ref (ad 0)), (1, .int (iN (more))), (2, .int (iN (n)))]) hx hb d_Mo_divide_153 hl (k := 4) rfl (iN_add _ _) (by decide) rfl (fun ls hl => ?_)
        refine lv_goto (tgt := 57) hx hb d_Mo_divide_156 (by decide) ?_
        exact ih M6 (k + -1) j _ _ _ (by omega) (by omega) (hc.step (by omega) (by omega) hbd.2.2 hR' hs1 hs2 hd.2 hr2 hl2 (by omega) hd.1 eM6) (lv_sub hl [0, 2, 3, 4] rfl) hm
      · refine lv_iload_n hx hb d_Mo_divide_101 rfl (lv_at hl 4 rfl) ?_
        refine lv_iload_n hx hb d_Mo_divide_102 rfl (lv_at hl 2 rfl) ?_
        refine fm_icmp_lt (tgt := 119) S (by omega) (by omega) d_Mo_divide_103 (by decide) (fun c7 => ?_) (fun c7 => ?_)
        · refine fm_iconst S d_Mo_divide_119 ?_
          exact key _ (by first | exact hA1 (by omega) | exact hA2 (by omega))
        · refine lv_aload_n hx hb d_Mo_divide_106 rfl (lv_at hl 1 rfl) ?_
          refine mo_get 2 S hK hm (by decide) k468 rfl rfl d_Mo_divide_107 ?_
          refine fm_iconst S d_Mo_divide_110 ?_
          refine lv_iload_n hx hb d_Mo_divide_111 rfl (lv_at hl 4 rfl) ?_
          refine fm_iadd S d_Mo_divide_112 ?_
          refine lv_iload_n hx hb d_Mo_divide_113 rfl (lv_at hl 2 rfl) ?_
          refine fm_isub S d_Mo_divide_114 ?_
          refine mo_iald 1 S hK hm (by decide) (by simp only [moLen]; omega) d_Mo_divide_115 ?_
          refine lv_goto (tgt := 120) hx hb d_Mo_divide_116 (by decide) ?_
          exact key _ (by first | exact hA1 (by omega) | exact hA2 (by omega))

set_option maxHeartbeats 4000000 in
set_option maxRecDepth 100000 in
/-- divide() -/
theorem t_Mo_divide (l : Launch) (D : va_G) (cs : Nat → ClassId) (Z : (Nat → Prop) → State → Heap → Prop) (hZo : fm_Zok Z) (ad : Nat → Nat) (μ : fm_Mu) (V : Nat → Int) (M : Nat → Int → Int) (sz : Nat) (most : Nat) (na : Nat) (NA : Nat) (nb : Nat) (NB : Nat) (xa : Int) (sa : Int) (xb : Int) (sb : Int) (hM : moS cs μ ad V M) (hga : Rg M 0 na NA xa sa) (hgb : Rg M 1 nb NB xb sb) (hbd : na ≤ 100 ∧ nb ≤ 38 ∧ -150 ≤ xa ∧ -150 ≤ xb ∧ xa ≤ 150 ∧ xb ≤ 150) (hnz : nb ≠ 0 → NB ≠ 0) (h22 : 0 ≤ M 2 2 ∧ M 2 2 ≤ 320) (hsz : -1 ≤ sa ∧ sa ≤ 1 ∧ -1 ≤ sb ∧ sb ≤ 1) (hpr : V 1 = (most : Int) ∧ 1 ≤ most ∧ most ≤ 31) : Met l y_Mo_divide (Cond.code y_Mo_divide c_Mo_divide 5 (some .int) :: wA) ({ frames := 2, cells := 0, slots := 0, locals := 47 }) (fm_Pc D clsA (tysA cs) Z μ sz [.ref (ad 0)]) (moQi D cs ad μ sz (fun z V' M' => V' = V ∧ Fr M M' 2 ∧ ((NB = 0 ∧ z = 2 ∧ 0 ≤ M' 2 2 ∧ M' 2 2 ≤ 320) ∨ (NB ≠ 0 ∧ cutOk M' 2 most (NA * 10 ^ (most + nb) / NB) (xa - (most + nb : Nat) - xb) (sa * sb) z)))) 0 0 (fm_A μ sz) := by
  refine mo_of hM (by decide +kernel) (Nat.le_of_ble_eq_true rfl) (fun p e s m below meth c S hr hlocks hsz hm hK hZ hA ls hl => ?_)
  subst hsz
  obtain ⟨hx, hb, hml, hown, hts⟩ := id S
  have hl : lv_has ls 5 [(0, .ref (ad 0))] := hl
  have e20 := hga.1
  have e21 := hgb.1
  have e30 := hga.2.1
  have e31 := hgb.2.1
  have e40 := hga.2.2.1
  have e41 := hgb.2.2.1
  refine lv_aload_n hx hb d_Mo_divide_0 rfl (lv_at hl 0 rfl) ?_
  refine mo_get 3 S hK hm (by decide) k469 rfl rfl d_Mo_divide_1 ?_
  refine fm_iconst S d_Mo_divide_4 ?_
  refine mo_iald 2 S hK hm (by decide) (by simp only [moLen]; omega) d_Mo_divide_5 ?_
  refine fm_if_ne (tgt := 11) S (by omega) d_Mo_divide_6 (by decide) (fun c1 => ?_) (fun c1 => ?_)
  · refine lv_aload_n hx hb d_Mo_divide_11 rfl (lv_at hl 0 rfl) ?_
    refine mo_get 1 S hK hm (by decide) k467 rfl rfl d_Mo_divide_12 ?_
    refine lv_aload_n hx hb d_Mo_divide_15 rfl (lv_at hl 0 rfl) ?_
    refine mo_get 3 S hK hm (by decide) k469 rfl rfl d_Mo_divide_16 ?_
    refine fm_iconst S d_Mo_divide_19 ?_
    refine mo_iald 2 S hK hm (by decide) (by simp only [moLen]; omega) d_Mo_divide_20 ?_
    refine fm_iadd S d_Mo_divide_21 ?_
    refine fm_topi (fun x2 hx2 => ?_)
    refine lv_istore_n (lv' := [(1, .int (iN (x2))), (0, .ref (ad 0))]) hx hb d_Mo_divide_22 rfl hl (by decide) rfl (fun ls hl => ?_)
    refine lv_aload_n hx hb d_Mo_divide_23 rfl (lv_at hl 1 rfl) ?_
    refine mo_get 3 S hK hm (by decide) k469 rfl rfl d_Mo_divide_24 ?_
    refine fm_iconst S d_Mo_divide_27 ?_
    refine mo_iald 2 S hK hm (by decide) (by simp only [moLen]; omega) d_Mo_divide_28 ?_
    refine lv_iload_n hx hb d_Mo_divide_29 rfl (lv_at hl 0 rfl) ?_
    refine fm_iadd S d_Mo_divide_30 ?_
    refine fm_topi (fun x3 hx3 => ?_)
    refine lv_istore_n (lv' := [(2, .int (iN (x3))), (1, .int (iN (x2))), (0, .ref (ad 0))]) hx hb d_Mo_divide_31 rfl hl (by decide) rfl (fun ls hl => ?_)
    refine fm_iconst S d_Mo_divide_32 ?_
    refine lv_istore_n (lv' := [(3, .int (iN (0))), (2, .int (iN (x3))), (1, .int (iN (x2))), (0, .ref (ad 0))]) hx hb d_Mo_divide_33 rfl hl (by decide) rfl (fun ls hl => ?_)
    have hNB : 0 < NB := by
      rcases Nat.eq_zero_or_pos NB with h | h
      · exfalso; exact hnz (by omega) h
      · exact h
    refine L_div1 (Z := Z) S hK hZo hZ hA V M na NA nb NB xa sa xb sb hga hgb (by omega) x2 x3 (most + nb) (na + (most + nb)) (NA * 10 ^ (most + nb)) (by omega) rfl (fun M4 k H locs ls hs hz hl hm => ?_) (41) M 0 _ _ _ (by omega) (by omega) (fun _ _ => rfl) (fun q h1 h2 => by omega) (lv_sub hl [0, 3, 2, 1] rfl) hm
    refine lv_iload_n hx hb d_Mo_divide_53 rfl (lv_at hl 3 rfl) ?_
    refine fm_iconst S d_Mo_divide_54 ?_
    refine fm_isub S d_Mo_divide_55 ?_
    refine fm_topi (fun x5 hx5 => ?_)
    refine lv_istore_n (lv' := [(3, .int (iN (x5))), (0, .ref (ad 0)), (1, .int (iN (x2))), (2, .int (iN (x3)))]) hx hb d_Mo_divide_56 rfl hl (by decide) rfl (fun ls hl => ?_)
    have hDl : NA * 10 ^ (most + nb) < 10 ^ (na + (most + nb)) := by rw [Nat.pow_add 10 na]; exact Nat.mul_lt_mul_of_pos_right hga.lt (p10N _)
    refine L_div2 (Z := Z) S hK hZo hZ hA V M na NA nb NB xa sa xb sb hga hgb (by omega) x2 x3 (most + nb) (na + (most + nb)) (NA * 10 ^ (most + nb)) (by omega) rfl (fun M6 k kk H locs ls hc hl hm => ?_) ((na + (most + nb)) + 1) M4 x5 (na + (most + nb)) _ _ _ (by omega) (by omega) (DvI.start hDl hs hz (by omega)) (lv_sub hl [0, 1, 2, 3] rfl) hm
    have e60 : M6 2 0 = na := by rw [hc.2.1.1]; exact hga.1
    refine lv_aload_n hx hb d_Mo_divide_159 rfl (lv_at hl 1 rfl) ?_
    refine mo_get 3 S hK hm (by decide) k469 rfl rfl d_Mo_divide_160 ?_
    refine fm_iconst S d_Mo_divide_163 ?_
    refine mo_join (P := fun y => y = if na = 0 then 0 else ((na + (most + nb) : Nat) : Int)) (g := fun y => F0 m 178 ls ([.int (iN (y)), .int (iN (2)), .ref (ad 2)])) (fun y hy => ?_) (fun key => ?_)
    · refine mo_iast 2 S hK hm (by decide) (by simp only [moLen]; omega) d_Mo_divide_178 (fun M7 H locs eM7 hm => ?_)
      refine lv_aload_n hx hb d_Mo_divide_179 rfl (lv_at hl 1 rfl) ?_
      refine mo_get 4 S hK hm (by decide) k470 rfl rfl d_Mo_divide_180 ?_
      refine fm_iconst S d_Mo_divide_183 ?_
      refine lv_aload_n hx hb d_Mo_divide_184 rfl (lv_at hl 1 rfl) ?_
      refine mo_get 4 S hK hm (by decide) k470 rfl rfl d_Mo_divide_185 ?_
      refine fm_iconst S d_Mo_divide_188 ?_
      refine mo_iald 3 S hK hm (by decide) (by simp only [moLen]; omega) d_Mo_divide_189 ?_
      refine lv_iload_n hx hb d_Mo_divide_190 rfl (lv_at hl 2 rfl) ?_
      refine fm_isub S d_Mo_divide_191 ?_
      refine lv_aload_n hx hb d_Mo_divide_192 rfl (lv_at hl 1 rfl) ?_
      refine mo_get 4 S hK hm (by decide) k470 rfl rfl d_Mo_divide_193 ?_
      refine fm_iconst S d_Mo_divide_196 ?_
      refine mo_iald 3 S hK hm (by decide) (by simp only [moLen]; omega) d_Mo_divide_197 ?_
      refine fm_isub S d_Mo_divide_198 ?_
      refine mo_iast 3 S hK hm (by decide) (by simp only [moLen]; omega) d_Mo_divide_199 (fun M8 H locs eM8 hm => ?_)
      refine lv_aload_n hx hb d_Mo_divide_200 rfl (lv_at hl 1 rfl) ?_
      refine mo_get 5 S hK hm (by decide) k471 rfl rfl d_Mo_divide_201 ?_
      refine fm_iconst S d_Mo_divide_204 ?_
      refine lv_aload_n hx hb d_Mo_divide_205 rfl (lv_at hl 1 rfl) ?_
      refine mo_get 5 S hK hm (by decide) k471 rfl rfl d_Mo_divide_206 ?_
      refine fm_iconst S d_Mo_divide_209 ?_
      refine mo_iald 4 S hK hm (by decide) (by simp only [moLen]; omega) d_Mo_divide_210 ?_
      refine lv_aload_n hx hb d_Mo_divide_211 rfl (lv_at hl 1 rfl) ?_
      refine mo_get 5 S hK hm (by decide) k471 rfl rfl d_Mo_divide_212 ?_
      refine fm_iconst S d_Mo_divide_215 ?_
      refine mo_iald 4 S hK hm (by decide) (by simp only [moLen]; omega) d_Mo_divide_216 ?_
      refine fm_imul S d_Mo_divide_217 ?_
      refine mo_iast 4 S hK hm (by decide) (by simp only [moLen]; omega) d_Mo_divide_218 (fun M9 H locs eM9 hm => ?_)
      obtain ⟨frS, n1, hn1, rgS⟩ := DvI.fin (M3 := M9) (na := na) hc (fun h => by have h2 := hga.lt; rw [h] at h2; simp at h2; exact h2) rfl eM7 hy (by rw [eM8, show x2 = ((most + nb : Nat) : Int) by omega]) eM9 hga.2.1 hgb.2.1 hga.2.2.1 hgb.2.2.1
      refine lv_aload_n hx hb d_Mo_divide_219 rfl (lv_at hl 1 rfl) ?_
      refine fm_iconst S d_Mo_divide_220 ?_
      refine lv_aload_n hx hb d_Mo_divide_221 rfl (lv_at hl 1 rfl) ?_
      refine mo_get 1 S hK hm (by decide) k467 rfl rfl d_Mo_divide_222 ?_
      refine mo_ciS (n := 2) (As := [.int (iN (2)), .int (iN ((V 1)))]) (rest := []) S hK hZo hZ hA hm (fun μ sz hM => t_Mo_cut l D cs Z hZo ad μ V M9 sz 2 (V 1) most n1 (NA * 10 ^ (most + nb) / NB) (xa - (most + nb : Nat) - xb) (sa * sb) hM (by omega) (by omega) (by omega) (by omega) rgS) (gV k555 k557 ks21 k6 k558) (by decide) (by decide +kernel) rfl hl.1 rfl (Nat.le_of_ble_eq_true rfl) ⟨Nat.le_of_ble_eq_true rfl, Nat.le_of_ble_eq_true rfl⟩ d_Mo_divide_225 (fun x12 M11 H locs q10 hm => ?_)
      obtain ⟨frM11, cuM11⟩ := q10
      refine mo_iret S hr hlocks hK hm d_Mo_divide_228 ?_
      exact ⟨rfl, frS.tr frM11, Or.inr ⟨by omega, cuM11⟩⟩
    · refine lv_aload_n hx hb d_Mo_divide_164 rfl (lv_at hl 1 rfl) ?_
      refine mo_get 3 S hK hm (by decide) k469 rfl rfl d_Mo_divide_165 ?_
      refine fm_iconst S d_Mo_divide_168 ?_
      refine mo_iald 2 S hK hm (by decide) (by simp only [moLen]; omega) d_Mo_divide_169 ?_
      refine fm_if_ne (tgt := 177) S (by omega) d_Mo_divide_170 (by decide) (fun c13 => ?_) (fun c13 => ?_)
      · refine lv_iload_n hx hb d_Mo_divide_177 rfl (lv_at hl 3 rfl) ?_
        exact key _ (by split <;> omega)
      · refine fm_iconst S d_Mo_divide_173 ?_
        refine lv_goto (tgt := 178) hx hb d_Mo_divide_174 (by decide) ?_
        exact key _ (by split <;> omega)
  · refine fm_iconst S d_Mo_divide_9 ?_
    refine mo_iret S hr hlocks hK hm d_Mo_divide_10 ?_
    exact ⟨rfl, Fr.rf, Or.inl ⟨by have h2 := hgb.lt; rw [show nb = 0 by omega] at h2; simp at h2; exact h2, rfl, h22⟩⟩
