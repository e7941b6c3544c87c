set_option maxHeartbeats 4000000 in
set_option maxRecDepth 100000 in
/-- L_order -/
theorem L_order {p : Program} {l : Launch} {e : Env} {s : State} {m : MethodId} {args : Array Value} {below : List Frame} {meth : Method} {c : Code} {Q : State → Prop} {D : va_G} {cs : Nat → ClassId} {Z : (Nat → Prop) → State → Heap → Prop} {ad : Nat → Nat} {μ0 : fm_Mu} {A : Nat → Prop}  (S : CallFix p m c c_Mo_order 7 s args wA "ArithmeticFormsModel") (hK : va_K D clsA (tysA cs) s) (hZo : fm_Zok Z) (hZ : Z A s s.heap) (hA : ∀ q, s.heap.size ≤ q → A q) (V : Nat → Int) (M0 : Nat → Int → Int) (a b low high : Int) (na NA nb NB : Nat) (xa sa xb sb : Int) (hab : 0 ≤ a ∧ a < 7 ∧ 0 ≤ b ∧ b < 7) (hga : Rg M0 a na NA xa sa) (hgb : Rg M0 b nb NB xb sb) (hbd : na ≤ 320 ∧ nb ≤ 320 ∧ low ≤ xa ∧ low ≤ xb ∧ -1000 ≤ low ∧ high ≤ 1000 ∧ xa ≤ 1000 ∧ xb ≤ 1000) (VA VB : Nat) (hVA : VA = NA * 10 ^ (xa - low).toNat) (hVB : VB = NB * 10 ^ (xb - low).toNat) (kk43 : ∀ (M : Nat → Int → Int) (P : Int) (H : Heap) (locs : List Loc) (ls : Array Slot), (M = M0) → (VA = VB) → lv_has ls 7 [(5, .int (iN (P))), (0, .ref (ad 0)), (1, .int (iN (a))), (2, .int (iN (b))), (3, .int (iN (low))), (4, .int (iN (high)))] → moW D A s.heap μ0 cs ad V M H locs → W p l e ({ frames := 1, cells := 0, slots := 0, locals := 23 }) s m args below meth c H locs 0 0 Q (F0 m 43 ls [])) (kk34 : ∀ (M : Nat → Int → Int) (P : Int) (z : Int) (H : Heap) (locs : List Loc) (ls : Array Slot), (M = M0) → (ordOk VA VB z) → lv_has ls 7 [(6, .int (iN (z))), (5, .int (iN (P))), (0, .ref (ad 0)), (1, .int (iN (a))), (2, .int (iN (b))), (3, .int (iN (low))), (4, .int (iN (high)))] → moW D A s.heap μ0 cs ad V M H locs → W p l e ({ frames := 1, cells := 0, slots := 0, locals := 23 }) s m args below meth c H locs 0 0 Q (F0 m 34 ls [])) : ∀ (fu : Nat) (M : Nat → Int → Int) (P : Int) (H : Heap) (locs : List Loc) (ls : Array Slot), P - low + 1 < (fu : Int) → (M = M0) → (low - 1 ≤ P ∧ P < high) → (VA / 10 ^ (P + 1 - low).toNat = VB / 10 ^ (P + 1 - low).toNat) → lv_has ls 7 [(5, .int (iN (P))), (0, .ref (ad 0)), (1, .int (iN (a))), (2, .int (iN (b))), (3, .int (iN (low))), (4, .int (iN (high)))] → moW D A s.heap μ0 cs ad V M H locs → W p l e ({ frames := 1, cells := 0, slots := 0, locals := 23 }) s m args below meth c H locs 0 0 Q (F0 m 6 ls []) := by
  obtain ⟨hx, hb, hml, hown, hts⟩ := id S
  intro fu
  induction fu with
  | zero =>
    intro M P H locs ls hn hM0 hP hq hl hm
    exfalso; omega
  | succ fu ih =>
    intro M P H locs ls hn hM0 hP hq hl hm
    refine lv_iload hx hb d_Mo_order_6 (lv_at hl 0 rfl) ?_
    refine lv_iload_n hx hb d_Mo_order_8 rfl (lv_at hl 4 rfl) ?_
    refine fm_icmp_lt (tgt := 43) S (by omega) (by omega) d_Mo_order_9 (by decide) (fun c1 => ?_) (fun c1 => ?_)
    · exact kk43 M P _ _ _ (hM0) (by rw [show (P + 1 - low).toNat = 0 by omega] at hq; simpa using hq) (lv_sub hl [0, 1, 2, 3, 4, 5] rfl) hm
    · refine lv_aload_n hx hb d_Mo_order_12 rfl (lv_at hl 1 rfl) ?_
      refine lv_iload_n hx hb d_Mo_order_13 rfl (lv_at hl 2 rfl) ?_
      refine lv_iload hx hb d_Mo_order_14 (lv_at hl 0 rfl) ?_
      refine mo_pi (n := 2) (As := [.int (iN (a)), .int (iN (P))]) (rest := []) S hK hZo hZ hA hm (fun μ sz hM => t_Mo_digitAt l D cs Z hZo ad μ V M sz a P na NA xa sa hM (by omega) (by rw [hM0]; exact hga) (by omega)) (gV k599 k601 ks31 k6 k602) (by decide) (by decide +kernel) rfl hl.1 rfl (Nat.le_of_ble_eq_true rfl) ⟨Nat.le_of_ble_eq_true rfl, Nat.le_of_ble_eq_true rfl⟩ d_Mo_order_16 (fun x3 q2 => ?_)
      refine lv_aload_n hx hb d_Mo_order_19 rfl (lv_at hl 1 rfl) ?_
      refine lv_iload_n hx hb d_Mo_order_20 rfl (lv_at hl 3 rfl) ?_
      refine lv_iload hx hb d_Mo_order_21 (lv_at hl 0 rfl) ?_
      refine mo_pi (n := 2) (As := [.int (iN (b)), .int (iN (P))]) (rest := [.int (iN (x3))]) S hK hZo hZ hA hm (fun μ sz hM => t_Mo_digitAt l D cs Z hZo ad μ V M sz b P nb NB xb sb hM (by omega) (by rw [hM0]; exact hgb) (by omega)) (gV k599 k601 ks31 k6 k602) (by decide) (by decide +kernel) rfl hl.1 rfl (Nat.le_of_ble_eq_true rfl) ⟨Nat.le_of_ble_eq_true rfl, Nat.le_of_ble_eq_true rfl⟩ d_Mo_order_23 (fun x5 q4 => ?_)
      obtain ⟨i, hi⟩ : ∃ i : Nat, P - low = i := ⟨(P - low).toNat, by omega⟩
      have hi2 : (P - low).toNat = i := by omega
      have hi3 : (P + 1 - low).toNat = i + 1 := by omega
      rw [dgt_sh hbd.2.2.1 (by omega), ← hVA, hi2] at q2
      rw [dgt_sh hbd.2.2.2.1 (by omega), ← hVB, hi2] at q4
      rw [hi3] at hq
      have hm1 := Nat.mod_lt (VA / 10 ^ i) (show 10 > 0 by decide)
      have hm2 := Nat.mod_lt (VB / 10 ^ i) (show 10 > 0 by decide)
      refine fm_isub S d_Mo_order_26 ?_
      refine fm_topi (fun x6 hx6 => ?_)
      refine lv_istore (lv' := [(6, .int (iN (x6))), (5, .int (iN (P))), (0, .ref (ad 0)), (1, .int (iN (a))), (2, .int (iN (b))), (3, .int (iN (low))), (4, .int (iN (high)))]) hx hb d_Mo_order_27 hl (by decide) rfl (fun ls hl => ?_)
      refine lv_iload hx hb d_Mo_order_29 (lv_at hl 0 rfl) ?_
      refine fm_if_eq (tgt := 37) S (by omega) d_Mo_order_31 (by decide) (fun c7 => ?_) (fun c7 => ?_)
      · refine lv_iinc (v := iN ((P + (-1)))) (lv' := [(5, .int (iN ((P + (-1))))), (6, .int (iN (x6))), (0, .ref (ad 0)), (1, .int (iN (a))), (2, .int (iN (b))), (3, .int (iN (low))), (4, .int (iN (high)))]) hx hb d_Mo_order_37 hl (k := 1) rfl (iN_add _ _) (by decide) rfl (fun ls hl => ?_)
        refine lv_goto (tgt := 6) hx hb d_Mo_order_40 (by decide) ?_
        exact ih M (P + -1) _ _ _ (by omega) (hM0) (by omega) (by rw [show (P + -1 + 1 - low).toNat = i by omega]; exact nat_same hq (by omega)) (lv_sub hl [0, 2, 3, 4, 5, 6] rfl) hm
      · exact kk34 M P x6 _ _ _ (hM0) (⟨by omega, by omega, fun h => nat_top hq (by omega), fun h => nat_top hq.symm (by omega), fun h => absurd h c7⟩) (lv_sub hl [0, 1, 2, 3, 4, 5, 6] rfl) hm

set_option maxHeartbeats 4000000 in
set_option maxRecDepth 100000 in
/-- order(a, b, low, high) -/
theorem t_Mo_order (l : Launch) (D : va_G) (cs : Nat → ClassId) (Z : (Nat → Prop) → State → Heap → Prop) (hZo : fm_Zok Z) (ad : Nat → Nat) (μ : fm_Mu) (V : Nat → Int) (M : Nat → Int → Int) (sz : Nat) (a : Int) (b : Int) (low : Int) (high : Int) (na : Nat) (NA : Nat) (nb : Nat) (NB : Nat) (xa : Int) (sa : Int) (xb : Int) (sb : Int) (VA : Nat) (VB : Nat) (hM : moS cs μ ad V M) (hab : 0 ≤ a ∧ a < 7 ∧ 0 ≤ b ∧ b < 7) (hga : Rg M a na NA xa sa) (hgb : Rg M b nb NB xb sb) (hbd : na ≤ 320 ∧ nb ≤ 320 ∧ low ≤ xa ∧ low ≤ xb ∧ -1000 ≤ low ∧ high ≤ 1000 ∧ xa ≤ 1000 ∧ xb ≤ 1000) (hlh : low ≤ high) (hVA : VA = NA * 10 ^ (xa - low).toNat) (hVB : VB = NB * 10 ^ (xb - low).toNat) (hlt : VA < 10 ^ (high - low).toNat ∧ VB < 10 ^ (high - low).toNat) : Met l y_Mo_order (Cond.code y_Mo_order c_Mo_order 7 (some .int) :: wA) ({ frames := 1, cells := 0, slots := 0, locals := 23 }) (fm_Pc D clsA (tysA cs) Z μ sz [.ref (ad 0), .int (iN (a)), .int (iN (b)), .int (iN (low)), .int (iN (high))]) (moQi D cs ad μ sz (fun z V' M' => V' = V ∧ M' = M ∧ ordOk VA VB z)) 0 0 (fm_A μ sz) := by
  refine mo_of hM (by decide +kernel) (Nat.le_of_ble_eq_true rfl) (fun p e s m below meth c S hr hlocks hsz hm hK hZ hA ls hl => ?_)
  subst hsz
  obtain ⟨hx, hb, hml, hown, hts⟩ := id S
  have hl : lv_has ls 7 [(0, .ref (ad 0)), (1, .int (iN (a))), (2, .int (iN (b))), (3, .int (iN (low))), (4, .int (iN (high)))] := hl
  refine lv_iload hx hb d_Mo_order_0 (lv_at hl 4 rfl) ?_
  refine fm_iconst S d_Mo_order_2 ?_
  refine fm_isub S d_Mo_order_3 ?_
  refine fm_topi (fun x1 hx1 => ?_)
  refine lv_istore (lv' := [(5, .int (iN (x1))), (0, .ref (ad 0)), (1, .int (iN (a))), (2, .int (iN (b))), (3, .int (iN (low))), (4, .int (iN (high)))]) hx hb d_Mo_order_4 hl (by decide) rfl (fun ls hl => ?_)
  refine L_order (Z := Z) S hK hZo hZ hA V M a b low high na NA nb NB xa sa xb sb hab hga hgb hbd VA VB hVA hVB (fun M1 P H locs ls hM1 hq hl hm => ?_) (fun M1 P z H locs ls hM1 hq hl hm => ?_) ((high - low).toNat + 2) M (x1) _ _ _ (by omega) rfl (by omega) (by rw [hx1, show (high - 1 + 1 - low).toNat = (high - low).toNat by omega, Nat.div_eq_of_lt hlt.1, Nat.div_eq_of_lt hlt.2]) (lv_sub hl [0, 1, 2, 3, 4, 5] rfl) hm
  · refine fm_iconst S d_Mo_order_43 ?_
    refine mo_iret S hr hlocks hK hm d_Mo_order_44 ?_
    exact ⟨rfl, hM1, ⟨by omega, by omega, fun h => by omega, fun h => by omega, fun _ => hq⟩⟩
  · refine lv_iload hx hb d_Mo_order_34 (lv_at hl 0 rfl) ?_
    refine mo_iret S hr hlocks hK hm d_Mo_order_36 ?_
    exact ⟨rfl, hM1, hq⟩
