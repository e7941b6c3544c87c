theorem z_AF : ∀ j, j < 9 → defaultValue (t_AF j) = vp_V [.null, .null, .int (iN (0)), .null, .int (iN (0)), .int (iN (0)), .null, .null, .null] j := by
  intro j hj
  rcases (show j = 0 ∨ j = 1 ∨ j = 2 ∨ j = 3 ∨ j = 4 ∨ j = 5 ∨ j = 6 ∨ j = 7 ∨ j = 8 by omega) with h | h | h | h | h | h | h | h | h <;> subst h <;> rfl
theorem z_Mo : ∀ j, j < 23 → defaultValue (t_Mo j) = vp_V [.int (iN (0)), .int (iN (0)), .null, .null, .null, .null, .null, .null, .null, .null, .null, .null, .int (iN (0)), .int (iN (0)), .int (iN (0)), .null, .null, .null, .null, .null, .null, .long (jN (0)), .int (iN (0))] j := by
  intro j hj
  rcases (show j = 0 ∨ j = 1 ∨ j = 2 ∨ j = 3 ∨ j = 4 ∨ j = 5 ∨ j = 6 ∨ j = 7 ∨ j = 8 ∨ j = 9 ∨ j = 10 ∨ j = 11 ∨ j = 12 ∨ j = 13 ∨ j = 14 ∨ j = 15 ∨ j = 16 ∨ j = 17 ∨ j = 18 ∨ j = 19 ∨ j = 20 ∨ j = 21 ∨ j = 22 by omega) with h | h | h | h | h | h | h | h | h | h | h | h | h | h | h | h | h | h | h | h | h | h | h <;> subst h <;> rfl
theorem fm_W0 {D : va_G} {cl : List vw_C} {A : Nat → Prop} {H : Heap} : fm_W D cl A H (fun _ => none) H [] := by
  refine ⟨⟨[], ?_, ?_, ?_, ?_, ?_⟩, va_S.rf⟩
  · intro a e h; cases h
  · intro k q h; simp at h
  · intro k q h; simp at h
  · intro i j p q h; simp at h
  · intro k q h; simp at h
theorem kpC_new {μ μ' : fm_Mu} {q : Nat} (hn : μ q = none) (hO : fm_O μ μ' [q]) : kpC μ μ' ∧ kpR μ μ' := ⟨fun b e hb _ => hO.at (nm1 (nn_ne hb hn)) hb, fun b e hb _ => hO.at (nm1 (nn_ne hb hn)) hb⟩

set_option maxHeartbeats 4000000 in
set_option maxRecDepth 100000 in
theorem whole_start {p : Program} {e : Env} {s : State} {m : MethodId} {below : List Frame} {meth : Method} {c : Code} (l : Launch) (hfl : l.flags = pinnedFlags ++ [noTraceFlag]) {b L : Nat} {xs : Nat → Int32} (hL : L ≤ 2049) (C0 : lw_At p s m meth c b L xs) : W p l e room_1 s m #[Value.ref b] below meth c s.heap [] 0 0 (lw_Z below #[Value.ref b] s) (entryFrame m ([Value.ref b] : List Value).toArray 8) := by
  obtain ⟨hx, hb, hr, hml, hown, ht, hX, hbl, hlocks, hgv⟩ := C0
  have hts : ∀ w ∈ wA, w.before #[Value.ref b] s = true := fun w h => ht w (wA_sub h)
  have S : CallFix p m c c_Lw_law 8 s #[Value.ref b] wA "ArithmeticFormsLaw" := ⟨hx, hb, hml, hown, hts⟩
  obtain ⟨D, cs, hK⟩ := law_K ht
  obtain ⟨tT, u0, sen, qS, hz1, hz2⟩ := law_Z ht hgv (fun q => s.heap.size ≤ q) (fun a ha h => by omega)
  have hZ : Zl b L xs tT u0 sen qS (fun q => s.heap.size ≤ q) s s.heap := ⟨hz1, hz2, hX, by omega⟩
  have hA : ∀ q, s.heap.size ≤ q → (fun q => s.heap.size ≤ q) q := fun q h => h
  have hw : fm_W D clsA (fun q => s.heap.size ≤ q) s.heap (fun _ => none) s.heap [] := fm_W0
  obtain ⟨ls, hl, hgo⟩ : ∃ ls : Array Slot, lv_has ls 8 [(0, .ref b)] ∧ entryFrame m ([Value.ref b] : List Value).toArray 8 = F0 m 0 ls [] := ⟨_, lv_entry [Value.ref b] (n := 8) (Nat.le_of_ble_eq_true rfl), by rw [lg_entry_eq]⟩
  rw [hgo]
  refine fm_new (ci := 0) (fs := [.null, .null, .int (iN (0)), .null, .int (iN (0)), .int (iN (0)), .null, .null, .null]) S hK hw hA i_AF rfl t_AF t_AF_ok (hts _ k15) (hts _ k16) (hts _ k1) z_AF (Nat.le_of_ble_eq_true rfl) (Nat.le_of_ble_eq_true rfl) d_Lw_law_0 (fun x μ1 H hw hn hq hO => ?_)
  refine lv_dup hx hb d_Lw_law_3 rfl ?_
  refine lv_aload_n hx hb d_Lw_law_4 rfl (lv_at hl 0 rfl) ?_
  refine fm_iconst S d_Lw_law_5 ?_
  refine fm_callSi (va_runS (As := [.ref b, .int (iN 0)]) (rest := [.ref x, .ref x]) S (t_Lw_cell l D cs (Zl b L xs tT u0 sen qS) b L xs (by omega) (fun _ _ _ h => h.2.2) μ1 _) (va_cwS 2 hts (gS k380 k381 k0 k382) rfl rfl rfl (by decide +kernel) (by decide +kernel)) (fm_pre (Zl_ok b L xs tT u0 sen qS) hK hw hZ hA _) rfl rfl hl.1 rfl (lv_room (Nat.le_of_ble_eq_true rfl)) d_Lw_law_6 ⟨Nat.le_of_ble_eq_true rfl, Nat.le_of_ble_eq_true rfl⟩) (fun z hz => ?_)
  subst hz
  refine fm_callv (va_runI (As := [.int (iN (scV L xs))]) (rest := [.ref x]) S (t_AF_init l D cs (Zl b L xs tT u0 sen qS) (Zl_ok b L xs tT u0 sen qS) tT (fun _ _ _ h => h.1) μ1 _ x (scV L xs) (scV_in L xs) hq) (cwIA 1 hts k19 rfl rfl k17 k1 k18 rfl (by decide +kernel) (by decide +kernel)) (fm_pre (Zl_ok b L xs tT u0 sen qS) hK hw hZ hA _) rfl rfl hl.1 rfl (lv_room (Nat.le_of_ble_eq_true rfl)) d_Lw_law_9 ⟨Nat.le_of_ble_eq_true rfl, Nat.le_of_ble_eq_true rfl⟩) hw hA (fun μ2 H locs q2 hw => ?_)
  obtain ⟨kc, kn, kr, wd, lf, da, dl, ra, hS, -⟩ := q2
  refine lv_astore_n (lv' := [(1, .ref x), (0, .ref b)]) hx hb d_Lw_law_12 rfl hl (by decide) rfl (fun ls hl => ?_)
  refine fm_new (ci := 4) (fs := [.int (iN (0)), .int (iN (0)), .null, .null, .null, .null, .null, .null, .null, .null, .null, .null, .int (iN (0)), .int (iN (0)), .int (iN (0)), .null, .null, .null, .null, .null, .null, .long (jN (0)), .int (iN (0))]) S hK hw hA i_Mo rfl t_Mo t_Mo_ok (hts _ k460) (hts _ k461) (hts _ k6) z_Mo (Nat.le_of_ble_eq_true rfl) (Nat.le_of_ble_eq_true rfl) d_Lw_law_13 (fun y μ3 H hw hn3 hq3 hO3 => ?_)
  have hS3 := hS.fr (kpC_new hn3 hO3).1
  refine lv_dup hx hb d_Lw_law_16 rfl ?_
  refine lv_aload_n hx hb d_Lw_law_17 rfl (lv_at hl 1 rfl) ?_
  refine fm_iconst S d_Lw_law_18 ?_
  refine fm_callSi (va_runS (As := [.ref b, .int (iN 0)]) (rest := [.ref y, .ref y]) S (t_Lw_cell l D cs (Zl b L xs tT u0 sen qS) b L xs (by omega) (fun _ _ _ h => h.2.2) μ3 _) (va_cwS 2 hts (gS k380 k381 k0 k382) rfl rfl rfl (by decide +kernel) (by decide +kernel)) (fm_pre (Zl_ok b L xs tT u0 sen qS) hK hw hZ hA _) rfl rfl hl.1 rfl (lv_room (Nat.le_of_ble_eq_true rfl)) d_Lw_law_19 ⟨Nat.le_of_ble_eq_true rfl, Nat.le_of_ble_eq_true rfl⟩) (fun z hz => ?_)
  subst hz
  refine fm_callv (va_runI (As := [.int (iN (scV L xs))]) (rest := [.ref y]) S (t_Mo_init l D cs (Zl b L xs tT u0 sen qS) μ3 _ y (scV L xs) (scV_in L xs) hq3) (cwIA 1 hts k464 rfl rfl k462 k6 k463 rfl (by decide +kernel) (by decide +kernel)) (fm_pre (Zl_ok b L xs tT u0 sen qS) hK hw hZ hA _) rfl rfl hl.1 rfl (lv_room (Nat.le_of_ble_eq_true rfl)) d_Lw_law_22 ⟨Nat.le_of_ble_eq_true rfl, Nat.le_of_ble_eq_true rfl⟩) hw hA (fun μ4 H locs q4 hw => ?_)
  obtain ⟨ad, V, M, had, hM, hI, -, hk4, -⟩ := q4
  subst had
  have hS4 := hS3.fr (fun a e ha hk => hk4 a e (fun h => by rw [h, hq3] at ha; cases ha; exact absurd (show true = false from hk) (by decide)) ha)
  refine lv_astore_n (lv' := [(2, .ref (ad 0)), (1, .ref x), (0, .ref b)]) hx hb d_Lw_law_25 rfl hl (by decide) rfl (fun ls hl => ?_)
  refine fm_iconst S d_Lw_law_26 ?_
  refine fm_newa (ty := .long) rfl S hK hw hA (hts _ k57) 1 rfl (fm_j0 1) (by decide) rfl (Nat.le_of_ble_eq_true rfl) (Nat.le_of_ble_eq_true rfl) (Nat.le_of_ble_eq_true rfl) d_Lw_law_27 (fun ot μ5 H hw hn5 hq5 hO5 => ?_)
  have hS5 := hS4.fr (kpC_new hn5 hO5).1
  have hM5 := hM.kp (kpC_new hn5 hO5).2
  refine lv_astore_n (lv' := [(3, .ref ot), (2, .ref (ad 0)), (1, .ref x), (0, .ref b)]) hx hb d_Lw_law_29 rfl hl (by decide) rfl (fun ls hl => ?_)
  refine fm_iconst S d_Lw_law_30 ?_
  refine lv_istore (lv' := [(4, .int (iN 1)), (3, .ref ot), (2, .ref (ad 0)), (1, .ref x), (0, .ref b)]) hx hb d_Lw_law_31 hl (by decide) rfl (fun ls hl => ?_)
  refine W.widen (k := 100 + 2 * 0) (n := 10000 + 9 * 0) (Nat.le_of_ble_eq_true rfl) (Nat.le_of_ble_eq_true rfl) ?_
  exact law_loop hfl b L xs hL S hr hlocks hK tT u0 sen qS hZ hA (fun q h => h) x ad ot 2100 μ5 (sg0 (scV L xs)) 1 0 _ _ _ (by decide) (by decide) ⟨kc, kn, kr, wd, lf, da, dl, ra, V, M, fun _ => 0, hS5, hM5, hI, hq5⟩ hl hw
