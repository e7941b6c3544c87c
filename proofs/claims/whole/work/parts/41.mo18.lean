def prec (f : Int) : Nat := (if f < 1 then 1 else if 31 < f then 31 else f).toNat
theorem prec_in (f : Int) : 1 ≤ prec f ∧ prec f ≤ 31 := by unfold prec; split; omega; split <;> omega
/-- a fresh state -/
def sg0 (f : Int) : Sg := (prec f, 0, fun _ => (0, 0), 0, fun _ => (0, 0, 0, 0, 0, 0), 0)
theorem sg0_ok (f : Int) : sgOk (sg0 f) := by
  refine ⟨(prec_in f).1, (prec_in f).2, ?_, ?_, ?_, ?_, fun n h1 h2 => ?_, fun n h1 h2 => ?_⟩
  · exact Nat.zero_le _
  · exact Nat.zero_le _
  · exact Int.le_refl _
  · exact (by decide : (0 : Int) ≤ 3)
  · exact absurd (Nat.le_trans h1 h2) (show ¬ (1 ≤ 0) by decide)
  · exact absurd (Nat.le_trans h1 h2) (show ¬ (1 ≤ 0) by decide)
def V0of (f : Int) : Nat → Int := fun k => if k = 1 then (prec f : Int) else 0
theorem mo_start (f : Int) : moInv (V0of f) (fun _ _ => 0) (sg0 f) := ⟨sg0_ok f, ⟨rfl, rfl, rfl, rfl⟩, fun n h1 h2 => absurd (Nat.le_trans h1 h2) (show ¬ (1 ≤ 0) by decide), fun _ _ _ => ⟨rfl, rfl, rfl⟩, fun n h1 h2 => absurd (Nat.le_trans h1 h2) (show ¬ (1 ≤ 0) by decide), fun _ _ _ => ⟨rfl, rfl, rfl⟩, by decide⟩

theorem moCI.nn {cs : Nat → ClassId} {μ0 μ : fm_Mu} {h0 k q : Nat} {ad : Nat → Nat} {fs : List Value} (h : moCI cs μ0 h0 k μ ad fs) (hnn : ∀ i, 1 ≤ i → i ≤ k → μ0 (ad i) = none) (hn : μ q = none) : ∀ i, 1 ≤ i → i ≤ k + 1 → μ0 (uF ad (k + 1) q i) = none := by
  intro i h1 h2
  by_cases e : i = k + 1
  · rw [e, uF_s]
    by_cases eq : q = h0
    · rw [eq, h.2.2.2.2] at hn; cases hn
    · cases hm : μ0 q with
      | none => rfl
      | some x => rw [h.2.2.2.1 q x eq hm] at hn; cases hn
  · rw [uF_n e]; exact hnn i h1 (by omega)

set_option maxHeartbeats 4000000 in
set_option maxRecDepth 100000 in
/-- a new reference -/
theorem t_Mo_init (l : Launch) (D : va_G) (cs : Nat → ClassId) (Z : (Nat → Prop) → State → Heap → Prop) (μ : fm_Mu) (sz h0 : Nat) (f : Int) (hif : inI f) (hM : μ h0 = some (oE 4 [.int (iN 0), .int (iN 0), .null, .null, .null, .null, .null, .null, .null, .null, .null, .null, .int (iN 0), .int (iN 0), .int (iN 0), .null, .null, .null, .null, .null, .null, .long (jN 0), .int (iN 0)])) : Met l y_Mo_init (Cond.code y_Mo_init c_Mo_init 2 none :: wA) ({ frames := 1, cells := 16, slots := 5962, locals := 20 }) (fm_Pc D clsA (tysA cs) Z μ sz [.ref h0, .int (iN f)]) (fm_Qv D clsA (tysA cs) μ sz (fun μ' => ∃ (ad : Nat → Nat) (V : Nat → Int) (M : Nat → Int → Int), ad 0 = h0 ∧ moS cs μ' ad V M ∧ moInv V M (sg0 f) ∧ V 0 = 0 ∧ (∀ a e, a ≠ h0 → μ a = some e → μ' a = some e) ∧ ∀ i, 1 ≤ i → i ≤ 16 → μ (ad i) = none)) 16 5962 (fm_A μ sz) := by
  refine fm_of (by decide +kernel) rfl (Nat.le_of_ble_eq_true rfl) (fun p e s m below meth c S hr hlocks hname hsz hw hK hZ hA ls hl => ?_)
  replace S : CallFix p m c c_Mo_init 2 s _ wA "ArithmeticFormsModel" := ⟨S.1, S.2.1, S.2.2.1, S.2.2.2.1, fun w h => S.2.2.2.2 w (List.mem_cons_of_mem _ h)⟩
  subst hsz
  obtain ⟨hx, hb, hml, hown, hts⟩ := id S
  have hl : lv_has ls 2 [(0, .ref h0), (1, .int (iN f))] := hl
  have hc : moCI cs μ h0 0 μ (fun _ => h0) [.int (iN 0), .int (iN 0), .null, .null, .null, .null, .null, .null, .null, .null, .null, .null, .int (iN 0), .int (iN 0), .int (iN 0), .null, .null, .null, .null, .null, .null, .long (jN 0), .int (iN 0)] := ⟨rfl, ⟨fun i j hi hj _ => by omega, fun i _ => by rw [hM]; exact Option.some_ne_none _⟩, fun j h1 h2 => by omega, fun _ _ _ h => h, hM⟩
  have hnn : ∀ i, 1 ≤ i → i ≤ 0 → μ ((fun _ => h0) i) = none := fun i h1 h2 => by omega
  refine lv_aload_n hx hb d_Mo_init_0 rfl (lv_at hl 0 rfl) ?_
  refine W.objInit hx hb hown (hts _ k465) (hts _ k21) (hts _ k22) rfl (by rw [hml]; exact hl.1) rfl d_Mo_init_1 (Nat.le_of_ble_eq_true rfl) (Nat.le_of_ble_eq_true rfl) ?_
  refine lv_aload_n hx hb d_Mo_init_4 rfl (lv_at hl 0 rfl) ?_
  refine fm_sipush S d_Mo_init_5 (by decide) ?_
  refine fm_newa (ty := .int) rfl S hK hw hA (hts _ k536) 0 rfl (fm_i0 2240) (by decide) rfl (Nat.le_of_ble_eq_true rfl) (Nat.le_of_ble_eq_true rfl) (Nat.le_of_ble_eq_true rfl) d_Mo_init_8 (fun q1 μ1 H hw hn hq hO => ?_)
  have hnn := moCI.nn hc hnn hn
  have hc := hc.new hn (show μ1 q1 = some (moArr cs 1 (fun _ => 0)) from hq) hO
  refine fm_putF S hK hw hc.2.2.2.2 i_Mo rfl t_Mo t_Mo_ok n_Mo 2 (by decide) (hts _ k468) (fun _ h => h) rfl hname rfl (ty := .array .int) (by decide +kernel) rfl rfl (Nat.le_of_ble_eq_true rfl) d_Mo_init_10 (fun μ2 H locs hw hq hO => ?_)
  have hc := hc.put (fs' := [.int (iN 0), .int (iN 0), .ref q1, .null, .null, .null, .null, .null, .null, .null, .null, .null, .int (iN 0), .int (iN 0), .int (iN 0), .null, .null, .null, .null, .null, .null, .long (jN 0), .int (iN 0)]) hq hO
  clear hn hq hO
  refine lv_aload_n hx hb d_Mo_init_13 rfl (lv_at hl 0 rfl) ?_
  refine fm_bipush S d_Mo_init_14 (by decide) ?_
  refine fm_newa (ty := .int) rfl S hK hw hA (hts _ k536) 0 rfl (fm_i0 7) (by decide) rfl (Nat.le_of_ble_eq_true rfl) (Nat.le_of_ble_eq_true rfl) (Nat.le_of_ble_eq_true rfl) d_Mo_init_16 (fun q2 μ1 H hw hn hq hO => ?_)
  have hnn := moCI.nn hc hnn hn
  have hc := hc.new hn (show μ1 q2 = some (moArr cs 2 (fun _ => 0)) from hq) hO
  refine fm_putF S hK hw hc.2.2.2.2 i_Mo rfl t_Mo t_Mo_ok n_Mo 3 (by decide) (hts _ k469) (fun _ h => h) rfl hname rfl (ty := .array .int) (by decide +kernel) rfl rfl (Nat.le_of_ble_eq_true rfl) d_Mo_init_18 (fun μ2 H locs hw hq hO => ?_)
  have hc := hc.put (fs' := [.int (iN 0), .int (iN 0), .ref q1, .ref q2, .null, .null, .null, .null, .null, .null, .null, .null, .int (iN 0), .int (iN 0), .int (iN 0), .null, .null, .null, .null, .null, .null, .long (jN 0), .int (iN 0)]) hq hO
  clear hn hq hO
  refine lv_aload_n hx hb d_Mo_init_21 rfl (lv_at hl 0 rfl) ?_
  refine fm_bipush S d_Mo_init_22 (by decide) ?_
  refine fm_newa (ty := .int) rfl S hK hw hA (hts _ k536) 0 rfl (fm_i0 7) (by decide) rfl (Nat.le_of_ble_eq_true rfl) (Nat.le_of_ble_eq_true rfl) (Nat.le_of_ble_eq_true rfl) d_Mo_init_24 (fun q3 μ1 H hw hn hq hO => ?_)
  have hnn := moCI.nn hc hnn hn
  have hc := hc.new hn (show μ1 q3 = some (moArr cs 3 (fun _ => 0)) from hq) hO
  refine fm_putF S hK hw hc.2.2.2.2 i_Mo rfl t_Mo t_Mo_ok n_Mo 4 (by decide) (hts _ k470) (fun _ h => h) rfl hname rfl (ty := .array .int) (by decide +kernel) rfl rfl (Nat.le_of_ble_eq_true rfl) d_Mo_init_26 (fun μ2 H locs hw hq hO => ?_)
  have hc := hc.put (fs' := [.int (iN 0), .int (iN 0), .ref q1, .ref q2, .ref q3, .null, .null, .null, .null, .null, .null, .null, .int (iN 0), .int (iN 0), .int (iN 0), .null, .null, .null, .null, .null, .null, .long (jN 0), .int (iN 0)]) hq hO
  clear hn hq hO
  refine lv_aload_n hx hb d_Mo_init_29 rfl (lv_at hl 0 rfl) ?_
  refine fm_bipush S d_Mo_init_30 (by decide) ?_
  refine fm_newa (ty := .int) rfl S hK hw hA (hts _ k536) 0 rfl (fm_i0 7) (by decide) rfl (Nat.le_of_ble_eq_true rfl) (Nat.le_of_ble_eq_true rfl) (Nat.le_of_ble_eq_true rfl) d_Mo_init_32 (fun q4 μ1 H hw hn hq hO => ?_)
  have hnn := moCI.nn hc hnn hn
  have hc := hc.new hn (show μ1 q4 = some (moArr cs 4 (fun _ => 0)) from hq) hO
  refine fm_putF S hK hw hc.2.2.2.2 i_Mo rfl t_Mo t_Mo_ok n_Mo 5 (by decide) (hts _ k471) (fun _ h => h) rfl hname rfl (ty := .array .int) (by decide +kernel) rfl rfl (Nat.le_of_ble_eq_true rfl) d_Mo_init_34 (fun μ2 H locs hw hq hO => ?_)
  have hc := hc.put (fs' := [.int (iN 0), .int (iN 0), .ref q1, .ref q2, .ref q3, .ref q4, .null, .null, .null, .null, .null, .null, .int (iN 0), .int (iN 0), .int (iN 0), .null, .null, .null, .null, .null, .null, .long (jN 0), .int (iN 0)]) hq hO
  clear hn hq hO
  refine lv_aload_n hx hb d_Mo_init_37 rfl (lv_at hl 0 rfl) ?_
  refine fm_bipush S d_Mo_init_38 (by decide) ?_
  refine fm_newa (ty := .int) rfl S hK hw hA (hts _ k536) 0 rfl (fm_i0 40) (by decide) rfl (Nat.le_of_ble_eq_true rfl) (Nat.le_of_ble_eq_true rfl) (Nat.le_of_ble_eq_true rfl) d_Mo_init_40 (fun q5 μ1 H hw hn hq hO => ?_)
  have hnn := moCI.nn hc hnn hn
  have hc := hc.new hn (show μ1 q5 = some (moArr cs 5 (fun _ => 0)) from hq) hO
  refine fm_putF S hK hw hc.2.2.2.2 i_Mo rfl t_Mo t_Mo_ok n_Mo 6 (by decide) (hts _ k472) (fun _ h => h) rfl hname rfl (ty := .array .int) (by decide +kernel) rfl rfl (Nat.le_of_ble_eq_true rfl) d_Mo_init_42 (fun μ2 H locs hw hq hO => ?_)
  have hc := hc.put (fs' := [.int (iN 0), .int (iN 0), .ref q1, .ref q2, .ref q3, .ref q4, .ref q5, .null, .null, .null, .null, .null, .int (iN 0), .int (iN 0), .int (iN 0), .null, .null, .null, .null, .null, .null, .long (jN 0), .int (iN 0)]) hq hO
  clear hn hq hO
  refine lv_aload_n hx hb d_Mo_init_45 rfl (lv_at hl 0 rfl) ?_
  refine fm_sipush S d_Mo_init_46 (by decide) ?_
  refine fm_newa (ty := .int) rfl S hK hw hA (hts _ k536) 0 rfl (fm_i0 3131) (by decide) rfl (Nat.le_of_ble_eq_true rfl) (Nat.le_of_ble_eq_true rfl) (Nat.le_of_ble_eq_true rfl) d_Mo_init_49 (fun q6 μ1 H hw hn hq hO => ?_)
  have hnn := moCI.nn hc hnn hn
  have hc := hc.new hn (show μ1 q6 = some (moArr cs 6 (fun _ => 0)) from hq) hO
  refine fm_putF S hK hw hc.2.2.2.2 i_Mo rfl t_Mo t_Mo_ok n_Mo 7 (by decide) (hts _ k473) (fun _ h => h) rfl hname rfl (ty := .array .int) (by decide +kernel) rfl rfl (Nat.le_of_ble_eq_true rfl) d_Mo_init_51 (fun μ2 H locs hw hq hO => ?_)
  have hc := hc.put (fs' := [.int (iN 0), .int (iN 0), .ref q1, .ref q2, .ref q3, .ref q4, .ref q5, .ref q6, .null, .null, .null, .null, .int (iN 0), .int (iN 0), .int (iN 0), .null, .null, .null, .null, .null, .null, .long (jN 0), .int (iN 0)]) hq hO
  clear hn hq hO
  refine lv_aload_n hx hb d_Mo_init_54 rfl (lv_at hl 0 rfl) ?_
  refine fm_bipush S d_Mo_init_55 (by decide) ?_
  refine fm_newa (ty := .int) rfl S hK hw hA (hts _ k536) 0 rfl (fm_i0 101) (by decide) rfl (Nat.le_of_ble_eq_true rfl) (Nat.le_of_ble_eq_true rfl) (Nat.le_of_ble_eq_true rfl) d_Mo_init_57 (fun q7 μ1 H hw hn hq hO => ?_)
  have hnn := moCI.nn hc hnn hn
  have hc := hc.new hn (show μ1 q7 = some (moArr cs 7 (fun _ => 0)) from hq) hO
  refine fm_putF S hK hw hc.2.2.2.2 i_Mo rfl t_Mo t_Mo_ok n_Mo 8 (by decide) (hts _ k474) (fun _ h => h) rfl hname rfl (ty := .array .int) (by decide +kernel) rfl rfl (Nat.le_of_ble_eq_true rfl) d_Mo_init_59 (fun μ2 H locs hw hq hO => ?_)
  have hc := hc.put (fs' := [.int (iN 0), .int (iN 0), .ref q1, .ref q2, .ref q3, .ref q4, .ref q5, .ref q6, .ref q7, .null, .null, .null, .int (iN 0), .int (iN 0), .int (iN 0), .null, .null, .null, .null, .null, .null, .long (jN 0), .int (iN 0)]) hq hO
  clear hn hq hO
  refine lv_aload_n hx hb d_Mo_init_62 rfl (lv_at hl 0 rfl) ?_
  refine fm_bipush S d_Mo_init_63 (by decide) ?_
  refine fm_newa (ty := .int) rfl S hK hw hA (hts _ k536) 0 rfl (fm_i0 101) (by decide) rfl (Nat.le_of_ble_eq_true rfl) (Nat.le_of_ble_eq_true rfl) (Nat.le_of_ble_eq_true rfl) d_Mo_init_65 (fun q8 μ1 H hw hn hq hO => ?_)
  have hnn := moCI.nn hc hnn hn
  have hc := hc.new hn (show μ1 q8 = some (moArr cs 8 (fun _ => 0)) from hq) hO
  refine fm_putF S hK hw hc.2.2.2.2 i_Mo rfl t_Mo t_Mo_ok n_Mo 9 (by decide) (hts _ k475) (fun _ h => h) rfl hname rfl (ty := .array .int) (by decide +kernel) rfl rfl (Nat.le_of_ble_eq_true rfl) d_Mo_init_67 (fun μ2 H locs hw hq hO => ?_)
  have hc := hc.put (fs' := [.int (iN 0), .int (iN 0), .ref q1, .ref q2, .ref q3, .ref q4, .ref q5, .ref q6, .ref q7, .ref q8, .null, .null, .int (iN 0), .int (iN 0), .int (iN 0), .null, .null, .null, .null, .null, .null, .long (jN 0), .int (iN 0)]) hq hO
  clear hn hq hO
  refine lv_aload_n hx hb d_Mo_init_70 rfl (lv_at hl 0 rfl) ?_
  refine fm_bipush S d_Mo_init_71 (by decide) ?_
  refine fm_newa (ty := .int) rfl S hK hw hA (hts _ k536) 0 rfl (fm_i0 101) (by decide) rfl (Nat.le_of_ble_eq_true rfl) (Nat.le_of_ble_eq_true rfl) (Nat.le_of_ble_eq_true rfl) d_Mo_init_73 (fun q9 μ1 H hw hn hq hO => ?_)
  have hnn := moCI.nn hc hnn hn
  have hc := hc.new hn (show μ1 q9 = some (moArr cs 9 (fun _ => 0)) from hq) hO
  refine fm_putF S hK hw hc.2.2.2.2 i_Mo rfl t_Mo t_Mo_ok n_Mo 10 (by decide) (hts _ k476) (fun _ h => h) rfl hname rfl (ty := .array .int) (by decide +kernel) rfl rfl (Nat.le_of_ble_eq_true rfl) d_Mo_init_75 (fun μ2 H locs hw hq hO => ?_)
  have hc := hc.put (fs' := [.int (iN 0), .int (iN 0), .ref q1, .ref q2, .ref q3, .ref q4, .ref q5, .ref q6, .ref q7, .ref q8, .ref q9, .null, .int (iN 0), .int (iN 0), .int (iN 0), .null, .null, .null, .null, .null, .null, .long (jN 0), .int (iN 0)]) hq hO
  clear hn hq hO
  refine lv_aload_n hx hb d_Mo_init_78 rfl (lv_at hl 0 rfl) ?_
  refine fm_bipush S d_Mo_init_79 (by decide) ?_
  refine fm_newa (ty := .int) rfl S hK hw hA (hts _ k536) 0 rfl (fm_i0 101) (by decide) rfl (Nat.le_of_ble_eq_true rfl) (Nat.le_of_ble_eq_true rfl) (Nat.le_of_ble_eq_true rfl) d_Mo_init_81 (fun q10 μ1 H hw hn hq hO => ?_)
  have hnn := moCI.nn hc hnn hn
  have hc := hc.new hn (show μ1 q10 = some (moArr cs 10 (fun _ => 0)) from hq) hO
  refine fm_putF S hK hw hc.2.2.2.2 i_Mo rfl t_Mo t_Mo_ok n_Mo 11 (by decide) (hts _ k477) (fun _ h => h) rfl hname rfl (ty := .array .int) (by decide +kernel) rfl rfl (Nat.le_of_ble_eq_true rfl) d_Mo_init_83 (fun μ2 H locs hw hq hO => ?_)
  have hc := hc.put (fs' := [.int (iN 0), .int (iN 0), .ref q1, .ref q2, .ref q3, .ref q4, .ref q5, .ref q6, .ref q7, .ref q8, .ref q9, .ref q10, .int (iN 0), .int (iN 0), .int (iN 0), .null, .null, .null, .null, .null, .null, .long (jN 0), .int (iN 0)]) hq hO
  clear hn hq hO
  refine lv_aload_n hx hb d_Mo_init_86 rfl (lv_at hl 0 rfl) ?_
  refine fm_bipush S d_Mo_init_87 (by decide) ?_
  refine fm_newa (ty := .int) rfl S hK hw hA (hts _ k536) 0 rfl (fm_i0 21) (by decide) rfl (Nat.le_of_ble_eq_true rfl) (Nat.le_of_ble_eq_true rfl) (Nat.le_of_ble_eq_true rfl) d_Mo_init_89 (fun q11 μ1 H hw hn hq hO => ?_)
  have hnn := moCI.nn hc hnn hn
  have hc := hc.new hn (show μ1 q11 = some (moArr cs 11 (fun _ => 0)) from hq) hO
  refine fm_putF S hK hw hc.2.2.2.2 i_Mo rfl t_Mo t_Mo_ok n_Mo 15 (by decide) (hts _ k481) (fun _ h => h) rfl hname rfl (ty := .array .int) (by decide +kernel) rfl rfl (Nat.le_of_ble_eq_true rfl) d_Mo_init_91 (fun μ2 H locs hw hq hO => ?_)
  have hc := hc.put (fs' := [.int (iN 0), .int (iN 0), .ref q1, .ref q2, .ref q3, .ref q4, .ref q5, .ref q6, .ref q7, .ref q8, .ref q9, .ref q10, .int (iN 0), .int (iN 0), .int (iN 0), .ref q11, .null, .null, .null, .null, .null, .long (jN 0), .int (iN 0)]) hq hO
  clear hn hq hO
  refine lv_aload_n hx hb d_Mo_init_94 rfl (lv_at hl 0 rfl) ?_
  refine fm_bipush S d_Mo_init_95 (by decide) ?_
  refine fm_newa (ty := .int) rfl S hK hw hA (hts _ k536) 0 rfl (fm_i0 21) (by decide) rfl (Nat.le_of_ble_eq_true rfl) (Nat.le_of_ble_eq_true rfl) (Nat.le_of_ble_eq_true rfl) d_Mo_init_97 (fun q12 μ1 H hw hn hq hO => ?_)
  have hnn := moCI.nn hc hnn hn
  have hc := hc.new hn (show μ1 q12 = some (moArr cs 12 (fun _ => 0)) from hq) hO
  refine fm_putF S hK hw hc.2.2.2.2 i_Mo rfl t_Mo t_Mo_ok n_Mo 16 (by decide) (hts _ k482) (fun _ h => h) rfl hname rfl (ty := .array .int) (by decide +kernel) rfl rfl (Nat.le_of_ble_eq_true rfl) d_Mo_init_99 (fun μ2 H locs hw hq hO => ?_)
  have hc := hc.put (fs' := [.int (iN 0), .int (iN 0), .ref q1, .ref q2, .ref q3, .ref q4, .ref q5, .ref q6, .ref q7, .ref q8, .ref q9, .ref q10, .int (iN 0), .int (iN 0), .int (iN 0), .ref q11, .ref q12, .null, .null, .null, .null, .long (jN 0), .int (iN 0)]) hq hO
  clear hn hq hO
  refine lv_aload_n hx hb d_Mo_init_102 rfl (lv_at hl 0 rfl) ?_
  refine fm_bipush S d_Mo_init_103 (by decide) ?_
  refine fm_newa (ty := .int) rfl S hK hw hA (hts _ k536) 0 rfl (fm_i0 21) (by decide) rfl (Nat.le_of_ble_eq_true rfl) (Nat.le_of_ble_eq_true rfl) (Nat.le_of_ble_eq_true rfl) d_Mo_init_105 (fun q13 μ1 H hw hn hq hO => ?_)
  have hnn := moCI.nn hc hnn hn
  have hc := hc.new hn (show μ1 q13 = some (moArr cs 13 (fun _ => 0)) from hq) hO
  refine fm_putF S hK hw hc.2.2.2.2 i_Mo rfl t_Mo t_Mo_ok n_Mo 17 (by decide) (hts _ k483) (fun _ h => h) rfl hname rfl (ty := .array .int) (by decide +kernel) rfl rfl (Nat.le_of_ble_eq_true rfl) d_Mo_init_107 (fun μ2 H locs hw hq hO => ?_)
  have hc := hc.put (fs' := [.int (iN 0), .int (iN 0), .ref q1, .ref q2, .ref q3, .ref q4, .ref q5, .ref q6, .ref q7, .ref q8, .ref q9, .ref q10, .int (iN 0), .int (iN 0), .int (iN 0), .ref q11, .ref q12, .ref q13, .null, .null, .null, .long (jN 0), .int (iN 0)]) hq hO
  clear hn hq hO
  refine lv_aload_n hx hb d_Mo_init_110 rfl (lv_at hl 0 rfl) ?_
  refine fm_bipush S d_Mo_init_111 (by decide) ?_
  refine fm_newa (ty := .long) rfl S hK hw hA (hts _ k57) 1 rfl (fm_j0 21) (by decide) rfl (Nat.le_of_ble_eq_true rfl) (Nat.le_of_ble_eq_true rfl) (Nat.le_of_ble_eq_true rfl) d_Mo_init_113 (fun q14 μ1 H hw hn hq hO => ?_)
  have hnn := moCI.nn hc hnn hn
  have hc := hc.new hn (show μ1 q14 = some (moArr cs 14 (fun _ => 0)) from hq) hO
  refine fm_putF S hK hw hc.2.2.2.2 i_Mo rfl t_Mo t_Mo_ok n_Mo 18 (by decide) (hts _ k484) (fun _ h => h) rfl hname rfl (ty := .array .long) (by decide +kernel) rfl rfl (Nat.le_of_ble_eq_true rfl) d_Mo_init_115 (fun μ2 H locs hw hq hO => ?_)
  have hc := hc.put (fs' := [.int (iN 0), .int (iN 0), .ref q1, .ref q2, .ref q3, .ref q4, .ref q5, .ref q6, .ref q7, .ref q8, .ref q9, .ref q10, .int (iN 0), .int (iN 0), .int (iN 0), .ref q11, .ref q12, .ref q13, .ref q14, .null, .null, .long (jN 0), .int (iN 0)]) hq hO
  clear hn hq hO
  refine lv_aload_n hx hb d_Mo_init_118 rfl (lv_at hl 0 rfl) ?_
  refine fm_bipush S d_Mo_init_119 (by decide) ?_
  refine fm_newa (ty := .long) rfl S hK hw hA (hts _ k57) 1 rfl (fm_j0 21) (by decide) rfl (Nat.le_of_ble_eq_true rfl) (Nat.le_of_ble_eq_true rfl) (Nat.le_of_ble_eq_true rfl) d_Mo_init_121 (fun q15 μ1 H hw hn hq hO => ?_)
  have hnn := moCI.nn hc hnn hn
  have hc := hc.new hn (show μ1 q15 = some (moArr cs 15 (fun _ => 0)) from hq) hO
  refine fm_putF S hK hw hc.2.2.2.2 i_Mo rfl t_Mo t_Mo_ok n_Mo 19 (by decide) (hts _ k485) (fun _ h => h) rfl hname rfl (ty := .array .long) (by decide +kernel) rfl rfl (Nat.le_of_ble_eq_true rfl) d_Mo_init_123 (fun μ2 H locs hw hq hO => ?_)
  have hc := hc.put (fs' := [.int (iN 0), .int (iN 0), .ref q1, .ref q2, .ref q3, .ref q4, .ref q5, .ref q6, .ref q7, .ref q8, .ref q9, .ref q10, .int (iN 0), .int (iN 0), .int (iN 0), .ref q11, .ref q12, .ref q13, .ref q14, .ref q15, .null, .long (jN 0), .int (iN 0)]) hq hO
  clear hn hq hO
  refine lv_aload_n hx hb d_Mo_init_126 rfl (lv_at hl 0 rfl) ?_
  refine fm_bipush S d_Mo_init_127 (by decide) ?_
  refine fm_newa (ty := .boolean) rfl S hK hw hA (hts _ k537) 2 rfl (fm_z0 21) (by decide) rfl (Nat.le_of_ble_eq_true rfl) (Nat.le_of_ble_eq_true rfl) (Nat.le_of_ble_eq_true rfl) d_Mo_init_129 (fun q16 μ1 H hw hn hq hO => ?_)
  have hnn := moCI.nn hc hnn hn
  have hc := hc.new hn (show μ1 q16 = some (moArr cs 16 (fun _ => 0)) from hq) hO
  refine fm_putF S hK hw hc.2.2.2.2 i_Mo rfl t_Mo t_Mo_ok n_Mo 20 (by decide) (hts _ k486) (fun _ h => h) rfl hname rfl (ty := .array .boolean) (by decide +kernel) rfl rfl (Nat.le_of_ble_eq_true rfl) d_Mo_init_131 (fun μ2 H locs hw hq hO => ?_)
  have hc := hc.put (fs' := [.int (iN 0), .int (iN 0), .ref q1, .ref q2, .ref q3, .ref q4, .ref q5, .ref q6, .ref q7, .ref q8, .ref q9, .ref q10, .int (iN 0), .int (iN 0), .int (iN 0), .ref q11, .ref q12, .ref q13, .ref q14, .ref q15, .ref q16, .long (jN 0), .int (iN 0)]) hq hO
  clear hn hq hO
  refine lv_aload_n hx hb d_Mo_init_134 rfl (lv_at hl 0 rfl) ?_
  refine mo_join (P := fun y => y = (prec f : Int)) (g := fun y => F0 m 156 ls [.int (iN y), .ref h0]) (fun y hy => ?_) (fun key => ?_)
  · refine fm_putF S hK hw hc.2.2.2.2 i_Mo rfl t_Mo t_Mo_ok n_Mo 1 (by decide) (hts _ k467) (fun _ h => h) rfl hname rfl (ty := .int) (by decide +kernel) rfl rfl (Nat.le_of_ble_eq_true rfl) d_Mo_init_156 (fun μ2 H locs hw hq hO => ?_)
    rw [hy] at hq
    have hc := hc.put (fs' := [.int (iN 0), .int (iN (prec f : Int)), .ref q1, .ref q2, .ref q3, .ref q4, .ref q5, .ref q6, .ref q7, .ref q8, .ref q9, .ref q10, .int (iN 0), .int (iN 0), .int (iN 0), .ref q11, .ref q12, .ref q13, .ref q14, .ref q15, .ref q16, .long (jN 0), .int (iN 0)]) hq hO
    refine fm_vret S hr hlocks hK hw d_Mo_init_159 ?_
    exact ⟨_, V0of f, fun _ _ => 0, hc.1, ⟨hc.2.1.1, (by rw [hc.1]; exact hc.2.2.2.2), hc.2.2.1⟩, mo_start f, rfl, hc.2.2.2.1, hnn⟩
  · refine lv_iload_n hx hb d_Mo_init_135 rfl (lv_at hl 1 rfl) ?_
    refine fm_iconst S d_Mo_init_136 ?_
    refine fm_icmp_ge (tgt := 144) S hif (by decide) d_Mo_init_137 rfl (fun c1 => ?_) (fun c1 => ?_)
    · refine lv_iload_n hx hb d_Mo_init_144 rfl (lv_at hl 1 rfl) ?_
      refine fm_bipush S d_Mo_init_145 (by decide) ?_
      refine fm_icmp_le (tgt := 155) S hif (by decide) d_Mo_init_147 rfl (fun c2 => ?_) (fun c2 => ?_)
      · refine lv_iload_n hx hb d_Mo_init_155 rfl (lv_at hl 1 rfl) ?_
        exact key f (by unfold prec; rw [if_neg (by omega), if_neg (by omega)]; omega)
      · refine fm_bipush S d_Mo_init_150 (by decide) ?_
        refine lv_goto (tgt := 156) hx hb d_Mo_init_152 rfl ?_
        exact key 31 (by unfold prec; rw [if_neg (by omega), if_pos (by omega)]; rfl)
    · refine fm_iconst S d_Mo_init_140 ?_
      refine lv_goto (tgt := 156) hx hb d_Mo_init_141 rfl ?_
      exact key 1 (by unfold prec; rw [if_pos (by omega)]; rfl)
