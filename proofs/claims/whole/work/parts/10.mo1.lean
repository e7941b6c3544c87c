set_option maxHeartbeats 4000000 in
set_option maxRecDepth 100000 in
/-- thrown() -/
theorem t_Mo_thrown (l : Launch) (D : va_G) (cs : Nat → ClassId) (Z : (Nat → Prop) → State → Heap → Prop) (hZo : fm_Zok Z) (ad : Nat → Nat) (μ : fm_Mu) (V : Nat → Int) (M : Nat → Int → Int) (sz : Nat)  (hM : moS cs μ ad V M)  : Met l y_Mo_thrown (Cond.code y_Mo_thrown c_Mo_thrown 1 (some .int) :: wA) ({ frames := 0, cells := 0, slots := 0, locals := 0 }) (fm_Pc D clsA (tysA cs) Z μ sz [.ref (ad 0)]) (fm_Si (fun x => x = V 0)) 0 0 (fun _ => False) := by
  refine mo_of hM (by decide +kernel) (Nat.le_of_ble_eq_true rfl) (fun p e s m below meth c S hr hlocks hsz hm hK hZ hA ls hl => ?_)
  subst hsz
  obtain ⟨hx, hb, hml, hown, hts⟩ := id S
  have hl : lv_has ls 1 [(0, .ref (ad 0))] := hl
  refine lv_aload_n hx hb d_Mo_thrown_0 rfl (lv_at hl 0 rfl) ?_
  refine mo_get 0 S hK hm (by decide) k466 rfl rfl d_Mo_thrown_1 ?_
  refine fm_iretS S hr hlocks d_Mo_thrown_4 ?_
  rfl

set_option maxHeartbeats 4000000 in
set_option maxRecDepth 100000 in
/-- isNode(n) -/
theorem t_Mo_isNode (l : Launch) (D : va_G) (cs : Nat → ClassId) (Z : (Nat → Prop) → State → Heap → Prop) (hZo : fm_Zok Z) (ad : Nat → Nat) (μ : fm_Mu) (V : Nat → Int) (M : Nat → Int → Int) (sz : Nat) (n : Int) (hM : moS cs μ ad V M) (hn : inI n) (hV : 0 ≤ V 12 ∧ V 12 ≤ 100) : Met l y_Mo_isNode (Cond.code y_Mo_isNode c_Mo_isNode 2 (some .boolean) :: wA) ({ frames := 0, cells := 0, slots := 0, locals := 0 }) (fm_Pc D clsA (tysA cs) Z μ sz [.ref (ad 0), .int (iN (n))]) (fm_Si (fun x => (x = 1 ∧ 0 < n ∧ n ≤ V 12) ∨ (x = 0 ∧ ¬ (0 < n ∧ n ≤ V 12)))) 0 0 (fun _ => False) := by
  refine mo_of hM (by decide +kernel) (Nat.le_of_ble_eq_true rfl) (fun p e s m below meth c S hr hlocks hsz hm hK hZ hA ls hl => ?_)
  subst hsz
  obtain ⟨hx, hb, hml, hown, hts⟩ := id S
  have hl : lv_has ls 2 [(0, .ref (ad 0)), (1, .int (iN (n)))] := hl
  refine lv_iload_n hx hb d_Mo_isNode_0 rfl (lv_at hl 1 rfl) ?_
  refine fm_if_le (tgt := 16) S (by omega) d_Mo_isNode_1 (by decide) (fun c1 => ?_) (fun c1 => ?_)
  · refine fm_iconst S d_Mo_isNode_16 ?_
    refine fm_zretS S hr hlocks (by omega) d_Mo_isNode_17 ?_
    omega
  · refine lv_iload_n hx hb d_Mo_isNode_4 rfl (lv_at hl 1 rfl) ?_
    refine lv_aload_n hx hb d_Mo_isNode_5 rfl (lv_at hl 0 rfl) ?_
    refine mo_get 12 S hK hm (by decide) k478 rfl rfl d_Mo_isNode_6 ?_
    refine fm_icmp_gt (tgt := 16) S (by omega) (by omega) d_Mo_isNode_9 (by decide) (fun c2 => ?_) (fun c2 => ?_)
    · refine fm_iconst S d_Mo_isNode_16 ?_
      refine fm_zretS S hr hlocks (by omega) d_Mo_isNode_17 ?_
      omega
    · refine fm_iconst S d_Mo_isNode_12 ?_
      refine lv_goto (tgt := 17) hx hb d_Mo_isNode_13 (by decide) ?_
      refine fm_zretS S hr hlocks (by omega) d_Mo_isNode_17 ?_
      omega

set_option maxHeartbeats 4000000 in
set_option maxRecDepth 100000 in
/-- isReceiver(n) -/
theorem t_Mo_isReceiver (l : Launch) (D : va_G) (cs : Nat → ClassId) (Z : (Nat → Prop) → State → Heap → Prop) (hZo : fm_Zok Z) (ad : Nat → Nat) (μ : fm_Mu) (V : Nat → Int) (M : Nat → Int → Int) (sz : Nat) (n : Int) (hM : moS cs μ ad V M) (hn : inI n) (hV : 0 ≤ V 13 ∧ V 13 ≤ 20) : Met l y_Mo_isReceiver (Cond.code y_Mo_isReceiver c_Mo_isReceiver 2 (some .boolean) :: wA) ({ frames := 0, cells := 0, slots := 0, locals := 0 }) (fm_Pc D clsA (tysA cs) Z μ sz [.ref (ad 0), .int (iN (n))]) (fm_Si (fun x => (x = 1 ∧ 0 < n ∧ n ≤ V 13) ∨ (x = 0 ∧ ¬ (0 < n ∧ n ≤ V 13)))) 0 0 (fun _ => False) := by
  refine mo_of hM (by decide +kernel) (Nat.le_of_ble_eq_true rfl) (fun p e s m below meth c S hr hlocks hsz hm hK hZ hA ls hl => ?_)
  subst hsz
  obtain ⟨hx, hb, hml, hown, hts⟩ := id S
  have hl : lv_has ls 2 [(0, .ref (ad 0)), (1, .int (iN (n)))] := hl
  refine lv_iload_n hx hb d_Mo_isReceiver_0 rfl (lv_at hl 1 rfl) ?_
  refine fm_if_le (tgt := 16) S (by omega) d_Mo_isReceiver_1 (by decide) (fun c1 => ?_) (fun c1 => ?_)
  · refine fm_iconst S d_Mo_isReceiver_16 ?_
    refine fm_zretS S hr hlocks (by omega) d_Mo_isReceiver_17 ?_
    omega
  · refine lv_iload_n hx hb d_Mo_isReceiver_4 rfl (lv_at hl 1 rfl) ?_
    refine lv_aload_n hx hb d_Mo_isReceiver_5 rfl (lv_at hl 0 rfl) ?_
    refine mo_get 13 S hK hm (by decide) k479 rfl rfl d_Mo_isReceiver_6 ?_
    refine fm_icmp_gt (tgt := 16) S (by omega) (by omega) d_Mo_isReceiver_9 (by decide) (fun c2 => ?_) (fun c2 => ?_)
    · refine fm_iconst S d_Mo_isReceiver_16 ?_
      refine fm_zretS S hr hlocks (by omega) d_Mo_isReceiver_17 ?_
      omega
    · refine fm_iconst S d_Mo_isReceiver_12 ?_
      refine lv_goto (tgt := 17) hx hb d_Mo_isReceiver_13 (by decide) ?_
      refine fm_zretS S hr hlocks (by omega) d_Mo_isReceiver_17 ?_
      omega

set_option maxHeartbeats 4000000 in
set_option maxRecDepth 100000 in
/-- topOf(r) -/
theorem t_Mo_topOf (l : Launch) (D : va_G) (cs : Nat → ClassId) (Z : (Nat → Prop) → State → Heap → Prop) (hZo : fm_Zok Z) (ad : Nat → Nat) (μ : fm_Mu) (V : Nat → Int) (M : Nat → Int → Int) (sz : Nat) (r : Int) (hM : moS cs μ ad V M) (hr0 : 0 ≤ r ∧ r < 7) : Met l y_Mo_topOf (Cond.code y_Mo_topOf c_Mo_topOf 2 (some .int) :: wA) ({ frames := 0, cells := 0, slots := 0, locals := 0 }) (fm_Pc D clsA (tysA cs) Z μ sz [.ref (ad 0), .int (iN (r))]) (fm_Si (fun x => x = M 2 r + M 3 r)) 0 0 (fun _ => False) := by
  refine mo_of hM (by decide +kernel) (Nat.le_of_ble_eq_true rfl) (fun p e s m below meth c S hr hlocks hsz hm hK hZ hA ls hl => ?_)
  subst hsz
  obtain ⟨hx, hb, hml, hown, hts⟩ := id S
  have hl : lv_has ls 2 [(0, .ref (ad 0)), (1, .int (iN (r)))] := hl
  refine lv_aload_n hx hb d_Mo_topOf_0 rfl (lv_at hl 0 rfl) ?_
  refine mo_get 3 S hK hm (by decide) k469 rfl rfl d_Mo_topOf_1 ?_
  refine lv_iload_n hx hb d_Mo_topOf_4 rfl (lv_at hl 1 rfl) ?_
  refine mo_iald 2 S hK hm (by decide) (by simp only [moLen]; omega) d_Mo_topOf_5 ?_
  refine lv_aload_n hx hb d_Mo_topOf_6 rfl (lv_at hl 0 rfl) ?_
  refine mo_get 4 S hK hm (by decide) k470 rfl rfl d_Mo_topOf_7 ?_
  refine lv_iload_n hx hb d_Mo_topOf_10 rfl (lv_at hl 1 rfl) ?_
  refine mo_iald 3 S hK hm (by decide) (by simp only [moLen]; omega) d_Mo_topOf_11 ?_
  refine fm_iadd S d_Mo_topOf_12 ?_
  refine fm_iretS S hr hlocks d_Mo_topOf_13 ?_
  rfl
