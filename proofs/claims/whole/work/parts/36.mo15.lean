set_option maxHeartbeats 4000000 in
set_option maxRecDepth 100000 in
/-- S_st -/
theorem S_st {p : Program} {l : Launch} {e : Env} {s : State} {m : MethodId} {args : Array Value} {below : List Frame} {meth : Method} {c : Code} {D : va_G} {cs : Nat → ClassId} {Z : (Nat → Prop) → State → Heap → Prop} {ad : Nat → Nat} {μ0 : fm_Mu} {PP : Int → (Nat → Int) → (Nat → Int → Int) → Prop} (S : CallFix p m c c_Mo_isStored 9 s args wA "ArithmeticFormsModel") (hr : meth.sig.returnType = (some .boolean)) (hlocks : meth.locks = false) (hK : va_K D clsA (tysA cs) s) (hZo : fm_Zok Z) (hZ : Z (fm_A μ0 s.heap.size) s s.heap) (hA : ∀ q, s.heap.size ≤ q → fm_A μ0 s.heap.size q) (V : Nat → Int) (M : Nat → Int → Int) (kind r bad0 bad ph d h sc x y : Int) (most : Nat) (hkd : 0 ≤ kind ∧ kind ≤ 4) (hr20 : 1 ≤ r ∧ r ≤ 20) (hph : ph = 0 ∨ ph = 1) (hbad : 0 ≤ bad ∧ bad ≤ 3) (h22 : 0 ≤ M 2 2 ∧ M 2 2 ≤ 320) (hX : Rv M 3 x) (hvx : vB x) (hYY : bad = 0 → Rv M 4 y ∧ vB y) (hV22 : bad = 0 → V 22 = 0 ∨ V 22 = 1) (hV9 : bad = 0 → inJ (V 21)) (hR : M 14 r = h ∧ M 12 r = sc ∧ M 11 r = d) (hdd : 1 ≤ d ∧ d ≤ 18) (hsc : 0 ≤ sc ∧ sc ≤ 18) (hj : inJ h) (hpr : V 1 = (most : Int) ∧ 1 ≤ most ∧ most ≤ 31) (hPP : ∀ z V' M', stRes V M kind r bad ph d h sc x y most z V' M' → PP z V' M') (H : Heap) (locs : List Loc) (ls : Array Slot) (hl : lv_has ls 9 [(7, .int (iN (bad))), (5, .long (jN (h))), (0, .ref (ad 0)), (1, .int (iN (kind))), (2, .int (iN (r))), (3, .int (iN (bad0))), (4, .int (iN (ph)))]) (hm : moW D (fm_A μ0 s.heap.size) s.heap μ0 cs ad V M H locs) : W p l e ({ frames := 6, cells := 0, slots := 0, locals := 139 }) s m args below meth c H locs 0 0 (MQ below (moQi D cs ad μ0 s.heap.size PP) args s 0 0 (fm_A μ0 s.heap.size)) (F0 m 53 ls []) := by
  obtain ⟨hx, hb, hml, hown, hts⟩ := id S
  refine mo_join (P := fun y8 => (y8 = 1 ∧ bad ≠ 0) ∨ (y8 = 0 ∧ bad = 0)) (g := fun y8 => F0 m 63 ls ([.int (iN (y8))])) (fun y8 hy8 => ?_) (fun key => ?_)
  · refine lv_istore (lv' := [(8, .int (iN (y8))), (7, .int (iN (bad))), (5, .long (jN (h))), (0, .ref (ad 0)), (1, .int (iN (kind))), (2, .int (iN (r))), (3, .int (iN (bad0))), (4, .int (iN (ph)))]) hx hb d_Mo_isStored_63 hl (by decide) rfl (fun ls hl => ?_)
    refine lv_aload_n hx hb d_Mo_isStored_65 rfl (lv_at hl 3 rfl) ?_
    refine mo_get 20 S hK hm (by decide) k486 rfl rfl d_Mo_isStored_66 ?_
    refine lv_iload_n hx hb d_Mo_isStored_69 rfl (lv_at hl 5 rfl) ?_
    refine mo_join (P := fun err => (err = 1 ∧ (bad ≠ 0 ∨ V 22 = 1)) ∨ (err = 0 ∧ ¬ (bad ≠ 0 ∨ V 22 = 1))) (g := fun err => F0 m 87 ls ([.int (iN (err)), .int (iN (r)), .ref (ad 16)])) (fun err herr => ?_) (fun key => ?_)
    · refine mo_zast S hK hm (by omega) (by omega) d_Mo_isStored_87 (fun M1 H locs eM1 hm => ?_)
      have e16 : M1 16 r = err := by rw [eM1, setA_s, uI_s]
      have g2 : ∀ k, k ≠ 16 → M1 k = M k := fun k hk => by rw [eM1, setA_n hk]
      have gk : ∀ k : Nat, 6 ≤ k → M1 k = (setA M 16 r err) k := fun k _ => by rw [eM1]
      have hc11 : M1 11 r = d := by rw [g2 11 (by decide)]; exact hR.2.2
      have hc12 : M1 12 r = sc := by rw [g2 12 (by decide)]; exact hR.2.1
      have h22b : 0 ≤ M1 2 2 ∧ M1 2 2 ≤ 320 := by rw [g2 2 (by decide)]; exact h22
      refine lv_aload_n hx hb d_Mo_isStored_88 rfl (lv_at hl 3 rfl) ?_
      refine mo_get 20 S hK hm (by decide) k486 rfl rfl d_Mo_isStored_89 ?_
      refine lv_iload_n hx hb d_Mo_isStored_92 rfl (lv_at hl 5 rfl) ?_
      refine mo_zald S hK hm (by omega) d_Mo_isStored_93 ?_
      refine fm_if_eq (tgt := 112) S (by omega) d_Mo_isStored_94 (by decide) (fun c2 => ?_) (fun c2 => ?_)
      · have hV14 : V 14 = (if err = 1 then (if bad ≠ 0 then bad else 1) else V 14) := by rw [if_neg (by omega)]
        have hVk : ∀ k, k ≠ 14 → k ≠ 21 → k ≠ 22 → V k = V k := fun _ _ _ _ => rfl
        have hV21 : V 21 = V 21 := rfl
        have hpr2 := hpr
        refine lv_iload hx hb d_Mo_isStored_112 (lv_at hl 0 rfl) ?_
        refine fm_if_ne (tgt := 151) S (by omega) d_Mo_isStored_114 (by decide) (fun c3 => ?_) (fun c3 => ?_)
        · exfalso; omega
        · refine lv_aload_n hx hb d_Mo_isStored_117 rfl (lv_at hl 3 rfl) ?_
          refine mo_get 20 S hK hm (by decide) k486 rfl rfl d_Mo_isStored_118 ?_
          refine lv_iload_n hx hb d_Mo_isStored_121 rfl (lv_at hl 5 rfl) ?_
          refine mo_zald S hK hm (by omega) d_Mo_isStored_122 ?_
          refine fm_if_eq (tgt := 131) S (by omega) d_Mo_isStored_123 (by decide) (fun c4 => ?_) (fun c4 => ?_)
          · refine lv_aload_n hx hb d_Mo_isStored_131 rfl (lv_at hl 3 rfl) ?_
            refine mo_get 18 S hK hm (by decide) k484 rfl rfl d_Mo_isStored_132 ?_
            refine lv_iload_n hx hb d_Mo_isStored_135 rfl (lv_at hl 5 rfl) ?_
            refine lv_aload_n hx hb d_Mo_isStored_136 rfl (lv_at hl 3 rfl) ?_
            refine mo_get 21 S hK hm (by decide) k487 rfl rfl d_Mo_isStored_137 ?_
            refine lv_aload_n hx hb d_Mo_isStored_140 rfl (lv_at hl 3 rfl) ?_
            refine mo_get 15 S hK hm (by decide) k481 rfl rfl d_Mo_isStored_141 ?_
            refine lv_iload_n hx hb d_Mo_isStored_144 rfl (lv_at hl 5 rfl) ?_
            refine mo_iald 11 S hK hm (by decide) (by simp only [moLen]; omega) d_Mo_isStored_145 ?_
            refine mo_sl (n := 1) (As := [.int (iN ((M1 11 r)))]) (rest := [.long (jN ((V 21))), .int (iN (r)), .ref (ad 14)]) S hK hZo hZ hA hm (fun μ sz => t_Mo_ten l D cs Z hZo ad μ sz (M1 11 r) (by omega)) (gS k648 k649 k6 k650) (by decide) (by decide +kernel) rfl hl.1 rfl (Nat.le_of_ble_eq_true rfl) ⟨Nat.le_of_ble_eq_true rfl, Nat.le_of_ble_eq_true rfl⟩ d_Mo_isStored_146 (fun x6 q5 => ?_)
            have hp18 := p10_18 (n := d.toNat) (by omega)
            rw [hc11] at q5
            rw [← q5] at hp18
            have hj21 := hV9 (by omega)
            rw [← hV21] at hj21
            refine fm_lrem S (by omega) d_Mo_isStored_149 ?_
            refine mo_last 14 S hK hm (by decide) (by simp only [moLen]; omega) d_Mo_isStored_150 (fun M7 H locs eM7 hm => ?_)
            rw [q5, hV21] at eM7
            have g3 : ∀ k, k ≠ 14 → M7 k = M1 k := fun k hk => by rw [eM7, setA_n hk]
            have gk : ∀ k : Nat, 6 ≤ k → M7 k = (setA (setA M 16 r err) 14 r ((V 21).tmod (10 ^ d.toNat))) k := fun k hk => by rw [eM7]; unfold setA; rw [gk k hk]; rfl
            have e16 : M7 16 r = err := by rw [g3 16 (by decide)]; exact e16
            have hc12 : M7 12 r = sc := by rw [g3 12 (by decide)]; exact hc12
            have h22b : 0 ≤ M7 2 2 ∧ M7 2 2 ≤ 320 := by rw [g3 2 (by decide)]; exact h22b
            refine lv_iload_n hx hb d_Mo_isStored_151 rfl (lv_at hl 4 rfl) ?_
            refine fm_iconst S d_Mo_isStored_152 ?_
            refine fm_icmp_ne (tgt := 182) S (by omega) (by omega) d_Mo_isStored_153 (by decide) (fun c8 => ?_) (fun c8 => ?_)
            · refine lv_aload_n hx hb d_Mo_isStored_182 rfl (lv_at hl 3 rfl) ?_
              refine mo_get 20 S hK hm (by decide) k486 rfl rfl d_Mo_isStored_183 ?_
              refine lv_iload_n hx hb d_Mo_isStored_186 rfl (lv_at hl 5 rfl) ?_
              refine mo_zald S hK hm (by omega) d_Mo_isStored_187 ?_
              refine fm_if_ne (tgt := 195) S (by omega) d_Mo_isStored_188 (by decide) (fun c9 => ?_) (fun c9 => ?_)
              · exfalso; omega
              · refine fm_iconst S d_Mo_isStored_191 ?_
                refine lv_goto (tgt := 196) hx hb d_Mo_isStored_192 (by decide) ?_
                refine mo_zret S hr hlocks hK hm (by omega) d_Mo_isStored_196 ?_
                refine hPP _ _ _ ⟨err, herr, by omega, hVk, hV14, fun k h1 h2 => ?_, fun q hq => ?_, e16, ?_, ?_, h22b⟩
                · rw [gk k h1]; simp [setA, show k ≠ 16 by omega, show k ≠ 15 by omega, show k ≠ 14 by omega]
                · rw [gk 14 (by decide), gk 15 (by decide), gk 16 (by decide)]; simp [setA, uI, hq]
                · rw [gk 14 (by decide), if_pos ⟨by omega, by omega⟩]; simp [setA, uI]
                · rw [gk 15 (by decide), if_neg (by omega)]; simp [setA]
            · refine lv_aload_n hx hb d_Mo_isStored_156 rfl (lv_at hl 3 rfl) ?_
              refine mo_get 19 S hK hm (by decide) k485 rfl rfl d_Mo_isStored_157 ?_
              refine lv_iload_n hx hb d_Mo_isStored_160 rfl (lv_at hl 5 rfl) ?_
              refine lv_aload_n hx hb d_Mo_isStored_161 rfl (lv_at hl 3 rfl) ?_
              refine mo_get 20 S hK hm (by decide) k486 rfl rfl d_Mo_isStored_162 ?_
              refine lv_iload_n hx hb d_Mo_isStored_165 rfl (lv_at hl 5 rfl) ?_
              refine mo_zald S hK hm (by omega) d_Mo_isStored_166 ?_
              refine fm_if_eq (tgt := 174) S (by omega) d_Mo_isStored_167 (by decide) (fun c10 => ?_) (fun c10 => ?_)
              · have hY2 := hYY (by omega)
                have hY3 : Rv M7 4 y := by
                  have h := hY2.1
                  unfold Rv Rg at h ⊢
                  rw [g3 1 (by decide), g3 2 (by decide), g3 3 (by decide), g3 4 (by decide), g2 1 (by decide), g2 2 (by decide), g2 3 (by decide), g2 4 (by decide)]; exact h
                have hX3 : Rv M7 3 x := by
                  have h := hX
                  unfold Rv Rg at h ⊢
                  rw [g3 1 (by decide), g3 2 (by decide), g3 3 (by decide), g3 4 (by decide), g2 1 (by decide), g2 2 (by decide), g2 3 (by decide), g2 4 (by decide)]; exact h
                refine lv_aload_n hx hb d_Mo_isStored_174 rfl (lv_at hl 3 rfl) ?_
                refine lv_iload_n hx hb d_Mo_isStored_175 rfl (lv_at hl 5 rfl) ?_
                refine lv_lload hx hb d_Mo_isStored_176 (lv_at hl 2 rfl) ?_
                refine mo_cl (n := 2) (As := [.int (iN (r)), .long (jN (h))]) (rest := [.int (iN (r)), .ref (ad 15)]) S hK hZo hZ hA hm (fun μ sz hM => t_Mo_left l D cs Z hZo ad μ V M7 sz r h most x y sc hM (by omega) h22b hY3 hY2.2 hX3 hvx hc12 hsc hj hpr2) (gV k671 k673 ks43 k6 k674) (by decide) (by decide +kernel) rfl hl.1 rfl (Nat.le_of_ble_eq_true rfl) ⟨Nat.le_of_ble_eq_true rfl, Nat.le_of_ble_eq_true rfl⟩ d_Mo_isStored_178 (fun x12 V13 M14 H locs q11 hm => ?_)
                obtain ⟨hz, hVk2, hl2, hF3, h22b⟩ := q11
                have hVk : ∀ k, k ≠ 14 → k ≠ 21 → k ≠ 22 → V13 k = V k := fun k a b c => (hVk2 k b c).trans (hVk k a b c)
                have hV14 : V13 14 = (if err = 1 then (if bad ≠ 0 then bad else 1) else V 14) := by rw [hVk2 14 (by decide) (by decide)]; exact hV14
                have e16 : M14 16 r = err := by rw [hF3.1 16 (by decide)]; exact e16
                have gk : ∀ k : Nat, 6 ≤ k → M14 k = (setA (setA M 16 r err) 14 r ((V 21).tmod (10 ^ d.toNat))) k := fun k hk => by rw [hF3.1 k (by omega)]; exact gk k hk
                rw [hz]
                refine mo_last 15 S hK hm (by decide) (by simp only [moLen]; omega) d_Mo_isStored_181 (fun M15 H locs eM15 hm => ?_)
                have gk : ∀ k : Nat, 6 ≤ k → M15 k = (setA (setA (setA M 16 r err) 14 r ((V 21).tmod (10 ^ d.toNat))) 15 r (restS most x y h sc)) k := fun k hk => by rw [eM15]; unfold setA; rw [gk k hk]; rfl
                have e16 : M15 16 r = err := by rw [eM15, setA_n (by decide)]; exact e16
                have h22b : 0 ≤ M15 2 2 ∧ M15 2 2 ≤ 320 := by rw [eM15, setA_n (by decide)]; exact h22b
                refine lv_aload_n hx hb d_Mo_isStored_182 rfl (lv_at hl 3 rfl) ?_
                refine mo_get 20 S hK hm (by decide) k486 rfl rfl d_Mo_isStored_183 ?_
                refine lv_iload_n hx hb d_Mo_isStored_186 rfl (lv_at hl 5 rfl) ?_
                refine mo_zald S hK hm (by omega) d_Mo_isStored_187 ?_
                refine fm_if_ne (tgt := 195) S (by omega) d_Mo_isStored_188 (by decide) (fun c16 => ?_) (fun c16 => ?_)
                · exfalso; omega
                · refine fm_iconst S d_Mo_isStored_191 ?_
                  refine lv_goto (tgt := 196) hx hb d_Mo_isStored_192 (by decide) ?_
                  refine mo_zret S hr hlocks hK hm (by omega) d_Mo_isStored_196 ?_
                  refine hPP _ _ _ ⟨err, herr, by omega, hVk, hV14, fun k h1 h2 => ?_, fun q hq => ?_, e16, ?_, ?_, h22b⟩
                  · rw [gk k h1]; simp [setA, show k ≠ 16 by omega, show k ≠ 15 by omega, show k ≠ 14 by omega]
                  · rw [gk 14 (by decide), gk 15 (by decide), gk 16 (by decide)]; simp [setA, uI, hq]
                  · rw [gk 14 (by decide), if_pos ⟨by omega, by omega⟩]; simp [setA, uI]
                  · rw [gk 15 (by decide), if_pos (by omega)]; rw [if_neg (by omega)]; simp [setA, uI]
              · exfalso; omega
          · exfalso; omega
      · refine lv_aload_n hx hb d_Mo_isStored_97 rfl (lv_at hl 3 rfl) ?_
        refine mo_join (P := fun y10 => (bad ≠ 0 ∧ y10 = bad) ∨ (bad = 0 ∧ y10 = 1)) (g := fun y10 => F0 m 109 ls ([.int (iN (y10)), .ref (ad 0)])) (fun y10 hy10 => ?_) (fun key => ?_)
        · refine mo_puti 14 S hK hm (by decide) k480 d_Mo_isStored_109 (fun V17 H locs eV17 hm => ?_)
          have hV14 : V17 14 = (if err = 1 then (if bad ≠ 0 then bad else 1) else V 14) := by rw [eV17, uF_s, if_pos (by omega)]; split <;> omega
          have hVk : ∀ k, k ≠ 14 → k ≠ 21 → k ≠ 22 → V17 k = V k := fun k a _ _ => by rw [eV17, uF_n a]
          have hV21 : V17 21 = V 21 := by rw [eV17, uF_n (by decide)]
          have hpr2 : V17 1 = (most : Int) ∧ 1 ≤ most ∧ most ≤ 31 := by rw [eV17, uF_n (by decide)]; exact hpr
          refine lv_iload hx hb d_Mo_isStored_112 (lv_at hl 0 rfl) ?_
          refine fm_if_ne (tgt := 151) S (by omega) d_Mo_isStored_114 (by decide) (fun c18 => ?_) (fun c18 => ?_)
          · refine lv_iload_n hx hb d_Mo_isStored_151 rfl (lv_at hl 4 rfl) ?_
            refine fm_iconst S d_Mo_isStored_152 ?_
            refine fm_icmp_ne (tgt := 182) S (by omega) (by omega) d_Mo_isStored_153 (by decide) (fun c19 => ?_) (fun c19 => ?_)
            · refine lv_aload_n hx hb d_Mo_isStored_182 rfl (lv_at hl 3 rfl) ?_
              refine mo_get 20 S hK hm (by decide) k486 rfl rfl d_Mo_isStored_183 ?_
              refine lv_iload_n hx hb d_Mo_isStored_186 rfl (lv_at hl 5 rfl) ?_
              refine mo_zald S hK hm (by omega) d_Mo_isStored_187 ?_
              refine fm_if_ne (tgt := 195) S (by omega) d_Mo_isStored_188 (by decide) (fun c20 => ?_) (fun c20 => ?_)
              · refine fm_iconst S d_Mo_isStored_195 ?_
                refine mo_zret S hr hlocks hK hm (by omega) d_Mo_isStored_196 ?_
                refine hPP _ _ _ ⟨err, herr, by omega, hVk, hV14, fun k h1 h2 => ?_, fun q hq => ?_, e16, ?_, ?_, h22b⟩
                · rw [gk k h1]; simp [setA, show k ≠ 16 by omega, show k ≠ 15 by omega, show k ≠ 14 by omega]
                · rw [gk 14 (by decide), gk 15 (by decide), gk 16 (by decide)]; simp [setA, uI, hq]
                · rw [gk 14 (by decide), if_neg (fun q => by have := q.1; have := q.2; omega)]; simp [setA]; exact hR.1
                · rw [gk 15 (by decide), if_neg (by omega)]; simp [setA]
              · exfalso; omega
            · refine lv_aload_n hx hb d_Mo_isStored_156 rfl (lv_at hl 3 rfl) ?_
              refine mo_get 19 S hK hm (by decide) k485 rfl rfl d_Mo_isStored_157 ?_
              refine lv_iload_n hx hb d_Mo_isStored_160 rfl (lv_at hl 5 rfl) ?_
              refine lv_aload_n hx hb d_Mo_isStored_161 rfl (lv_at hl 3 rfl) ?_
              refine mo_get 20 S hK hm (by decide) k486 rfl rfl d_Mo_isStored_162 ?_
              refine lv_iload_n hx hb d_Mo_isStored_165 rfl (lv_at hl 5 rfl) ?_
              refine mo_zald S hK hm (by omega) d_Mo_isStored_166 ?_
              refine fm_if_eq (tgt := 174) S (by omega) d_Mo_isStored_167 (by decide) (fun c21 => ?_) (fun c21 => ?_)
              · exfalso; omega
              · refine fm_lconst0 S d_Mo_isStored_170 ?_
                refine lv_goto (tgt := 181) hx hb d_Mo_isStored_171 (by decide) ?_
                refine mo_last 15 S hK hm (by decide) (by simp only [moLen]; omega) d_Mo_isStored_181 (fun M22 H locs eM22 hm => ?_)
                have gk : ∀ k : Nat, 6 ≤ k → M22 k = (setA (setA M 16 r err) 15 r (0)) k := fun k hk => by rw [eM22]; unfold setA; rw [gk k hk]; rfl
                have e16 : M22 16 r = err := by rw [eM22, setA_n (by decide)]; exact e16
                have h22b : 0 ≤ M22 2 2 ∧ M22 2 2 ≤ 320 := by rw [eM22, setA_n (by decide)]; exact h22b
                refine lv_aload_n hx hb d_Mo_isStored_182 rfl (lv_at hl 3 rfl) ?_
                refine mo_get 20 S hK hm (by decide) k486 rfl rfl d_Mo_isStored_183 ?_
                refine lv_iload_n hx hb d_Mo_isStored_186 rfl (lv_at hl 5 rfl) ?_
                refine mo_zald S hK hm (by omega) d_Mo_isStored_187 ?_
                refine fm_if_ne (tgt := 195) S (by omega) d_Mo_isStored_188 (by decide) (fun c23 => ?_) (fun c23 => ?_)
                · refine fm_iconst S d_Mo_isStored_195 ?_
                  refine mo_zret S hr hlocks hK hm (by omega) d_Mo_isStored_196 ?_
                  refine hPP _ _ _ ⟨err, herr, by omega, hVk, hV14, fun k h1 h2 => ?_, fun q hq => ?_, e16, ?_, ?_, h22b⟩
                  · rw [gk k h1]; simp [setA, show k ≠ 16 by omega, show k ≠ 15 by omega, show k ≠ 14 by omega]
                  · rw [gk 14 (by decide), gk 15 (by decide), gk 16 (by decide)]; simp [setA, uI, hq]
                  · rw [gk 14 (by decide), if_neg (fun q => by have := q.1; have := q.2; omega)]; simp [setA]; exact hR.1
                  · rw [gk 15 (by decide), if_pos (by omega)]; rw [if_pos (by omega)]; simp [setA, uI]
                · exfalso; omega
          · refine lv_aload_n hx hb d_Mo_isStored_117 rfl (lv_at hl 3 rfl) ?_
            refine mo_get 20 S hK hm (by decide) k486 rfl rfl d_Mo_isStored_118 ?_
            refine lv_iload_n hx hb d_Mo_isStored_121 rfl (lv_at hl 5 rfl) ?_
            refine mo_zald S hK hm (by omega) d_Mo_isStored_122 ?_
            refine fm_if_eq (tgt := 131) S (by omega) d_Mo_isStored_123 (by decide) (fun c24 => ?_) (fun c24 => ?_)
            · exfalso; omega
            · refine lv_iload hx hb d_Mo_isStored_126 (lv_at hl 7 rfl) ?_
              refine fm_if_ne (tgt := 151) S (by omega) d_Mo_isStored_128 (by decide) (fun c25 => ?_) (fun c25 => ?_)
              · refine lv_iload_n hx hb d_Mo_isStored_151 rfl (lv_at hl 4 rfl) ?_
                refine fm_iconst S d_Mo_isStored_152 ?_
                refine fm_icmp_ne (tgt := 182) S (by omega) (by omega) d_Mo_isStored_153 (by decide) (fun c26 => ?_) (fun c26 => ?_)
                · refine lv_aload_n hx hb d_Mo_isStored_182 rfl (lv_at hl 3 rfl) ?_
                  refine mo_get 20 S hK hm (by decide) k486 rfl rfl d_Mo_isStored_183 ?_
                  refine lv_iload_n hx hb d_Mo_isStored_186 rfl (lv_at hl 5 rfl) ?_
                  refine mo_zald S hK hm (by omega) d_Mo_isStored_187 ?_
                  refine fm_if_ne (tgt := 195) S (by omega) d_Mo_isStored_188 (by decide) (fun c27 => ?_) (fun c27 => ?_)
                  · refine fm_iconst S d_Mo_isStored_195 ?_
                    refine mo_zret S hr hlocks hK hm (by omega) d_Mo_isStored_196 ?_
                    refine hPP _ _ _ ⟨err, herr, by omega, hVk, hV14, fun k h1 h2 => ?_, fun q hq => ?_, e16, ?_, ?_, h22b⟩
                    · rw [gk k h1]; simp [setA, show k ≠ 16 by omega, show k ≠ 15 by omega, show k ≠ 14 by omega]
                    · rw [gk 14 (by decide), gk 15 (by decide), gk 16 (by decide)]; simp [setA, uI, hq]
                    · rw [gk 14 (by decide), if_neg (fun q => by have := q.1; have := q.2; omega)]; simp [setA]; exact hR.1
                    · rw [gk 15 (by decide), if_neg (by omega)]; simp [setA]
                  · exfalso; omega
                · refine lv_aload_n hx hb d_Mo_isStored_156 rfl (lv_at hl 3 rfl) ?_
                  refine mo_get 19 S hK hm (by decide) k485 rfl rfl d_Mo_isStored_157 ?_
                  refine lv_iload_n hx hb d_Mo_isStored_160 rfl (lv_at hl 5 rfl) ?_
                  refine lv_aload_n hx hb d_Mo_isStored_161 rfl (lv_at hl 3 rfl) ?_
                  refine mo_get 20 S hK hm (by decide) k486 rfl rfl d_Mo_isStored_162 ?_
                  refine lv_iload_n hx hb d_Mo_isStored_165 rfl (lv_at hl 5 rfl) ?_
                  refine mo_zald S hK hm (by omega) d_Mo_isStored_166 ?_
                  refine fm_if_eq (tgt := 174) S (by omega) d_Mo_isStored_167 (by decide) (fun c28 => ?_) (fun c28 => ?_)
                  · exfalso; omega
                  · refine fm_lconst0 S d_Mo_isStored_170 ?_
                    refine lv_goto (tgt := 181) hx hb d_Mo_isStored_171 (by decide) ?_
                    refine mo_last 15 S hK hm (by decide) (by simp only [moLen]; omega) d_Mo_isStored_181 (fun M29 H locs eM29 hm => ?_)
                    have gk : ∀ k : Nat, 6 ≤ k → M29 k = (setA (setA M 16 r err) 15 r (0)) k := fun k hk => by rw [eM29]; unfold setA; rw [gk k hk]; rfl
                    have e16 : M29 16 r = err := by rw [eM29, setA_n (by decide)]; exact e16
                    have h22b : 0 ≤ M29 2 2 ∧ M29 2 2 ≤ 320 := by rw [eM29, setA_n (by decide)]; exact h22b
                    refine lv_aload_n hx hb d_Mo_isStored_182 rfl (lv_at hl 3 rfl) ?_
                    refine mo_get 20 S hK hm (by decide) k486 rfl rfl d_Mo_isStored_183 ?_
                    refine lv_iload_n hx hb d_Mo_isStored_186 rfl (lv_at hl 5 rfl) ?_
                    refine mo_zald S hK hm (by omega) d_Mo_isStored_187 ?_
                    refine fm_if_ne (tgt := 195) S (by omega) d_Mo_isStored_188 (by decide) (fun c30 => ?_) (fun c30 => ?_)
                    · refine fm_iconst S d_Mo_isStored_195 ?_
                      refine mo_zret S hr hlocks hK hm (by omega) d_Mo_isStored_196 ?_
                      refine hPP _ _ _ ⟨err, herr, by omega, hVk, hV14, fun k h1 h2 => ?_, fun q hq => ?_, e16, ?_, ?_, h22b⟩
                      · rw [gk k h1]; simp [setA, show k ≠ 16 by omega, show k ≠ 15 by omega, show k ≠ 14 by omega]
                      · rw [gk 14 (by decide), gk 15 (by decide), gk 16 (by decide)]; simp [setA, uI, hq]
                      · rw [gk 14 (by decide), if_neg (fun q => by have := q.1; have := q.2; omega)]; simp [setA]; exact hR.1
                      · rw [gk 15 (by decide), if_pos (by omega)]; rw [if_pos (by omega)]; simp [setA, uI]
                    · exfalso; omega
              · refine lv_aload_n hx hb d_Mo_isStored_131 rfl (lv_at hl 3 rfl) ?_
                refine mo_get 18 S hK hm (by decide) k484 rfl rfl d_Mo_isStored_132 ?_
                refine lv_iload_n hx hb d_Mo_isStored_135 rfl (lv_at hl 5 rfl) ?_
                refine lv_aload_n hx hb d_Mo_isStored_136 rfl (lv_at hl 3 rfl) ?_
                refine mo_get 21 S hK hm (by decide) k487 rfl rfl d_Mo_isStored_137 ?_
                refine lv_aload_n hx hb d_Mo_isStored_140 rfl (lv_at hl 3 rfl) ?_
                refine mo_get 15 S hK hm (by decide) k481 rfl rfl d_Mo_isStored_141 ?_
                refine lv_iload_n hx hb d_Mo_isStored_144 rfl (lv_at hl 5 rfl) ?_
                refine mo_iald 11 S hK hm (by decide) (by simp only [moLen]; omega) d_Mo_isStored_145 ?_
                refine mo_sl (n := 1) (As := [.int (iN ((M1 11 r)))]) (rest := [.long (jN ((V17 21))), .int (iN (r)), .ref (ad 14)]) S hK hZo hZ hA hm (fun μ sz => t_Mo_ten l D cs Z hZo ad μ sz (M1 11 r) (by omega)) (gS k648 k649 k6 k650) (by decide) (by decide +kernel) rfl hl.1 rfl (Nat.le_of_ble_eq_true rfl) ⟨Nat.le_of_ble_eq_true rfl, Nat.le_of_ble_eq_true rfl⟩ d_Mo_isStored_146 (fun x32 q31 => ?_)
                have hp18 := p10_18 (n := d.toNat) (by omega)
                rw [hc11] at q31
                rw [← q31] at hp18
                have hj21 := hV9 (by omega)
                rw [← hV21] at hj21
                refine fm_lrem S (by omega) d_Mo_isStored_149 ?_
                refine mo_last 14 S hK hm (by decide) (by simp only [moLen]; omega) d_Mo_isStored_150 (fun M33 H locs eM33 hm => ?_)
                rw [q31, hV21] at eM33
                have g3 : ∀ k, k ≠ 14 → M33 k = M1 k := fun k hk => by rw [eM33, setA_n hk]
                have gk : ∀ k : Nat, 6 ≤ k → M33 k = (setA (setA M 16 r err) 14 r ((V 21).tmod (10 ^ d.toNat))) k := fun k hk => by rw [eM33]; unfold setA; rw [gk k hk]; rfl
                have e16 : M33 16 r = err := by rw [g3 16 (by decide)]; exact e16
                have hc12 : M33 12 r = sc := by rw [g3 12 (by decide)]; exact hc12
                have h22b : 0 ≤ M33 2 2 ∧ M33 2 2 ≤ 320 := by rw [g3 2 (by decide)]; exact h22b
                refine lv_iload_n hx hb d_Mo_isStored_151 rfl (lv_at hl 4 rfl) ?_
                refine fm_iconst S d_Mo_isStored_152 ?_
                refine fm_icmp_ne (tgt := 182) S (by omega) (by omega) d_Mo_isStored_153 (by decide) (fun c34 => ?_) (fun c34 => ?_)
                · refine lv_aload_n hx hb d_Mo_isStored_182 rfl (lv_at hl 3 rfl) ?_
                  refine mo_get 20 S hK hm (by decide) k486 rfl rfl d_Mo_isStored_183 ?_
                  refine lv_iload_n hx hb d_Mo_isStored_186 rfl (lv_at hl 5 rfl) ?_
                  refine mo_zald S hK hm (by omega) d_Mo_isStored_187 ?_
                  refine fm_if_ne (tgt := 195) S (by omega) d_Mo_isStored_188 (by decide) (fun c35 => ?_) (fun c35 => ?_)
                  · refine fm_iconst S d_Mo_isStored_195 ?_
                    refine mo_zret S hr hlocks hK hm (by omega) d_Mo_isStored_196 ?_
                    refine hPP _ _ _ ⟨err, herr, by omega, hVk, hV14, fun k h1 h2 => ?_, fun q hq => ?_, e16, ?_, ?_, h22b⟩
                    · rw [gk k h1]; simp [setA, show k ≠ 16 by omega, show k ≠ 15 by omega, show k ≠ 14 by omega]
                    · rw [gk 14 (by decide), gk 15 (by decide), gk 16 (by decide)]; simp [setA, uI, hq]
                    · rw [gk 14 (by decide), if_pos ⟨by omega, by omega⟩]; simp [setA, uI]
                    · rw [gk 15 (by decide), if_neg (by omega)]; simp [setA]
                  · exfalso; omega
                · refine lv_aload_n hx hb d_Mo_isStored_156 rfl (lv_at hl 3 rfl) ?_
                  refine mo_get 19 S hK hm (by decide) k485 rfl rfl d_Mo_isStored_157 ?_
                  refine lv_iload_n hx hb d_Mo_isStored_160 rfl (lv_at hl 5 rfl) ?_
                  refine lv_aload_n hx hb d_Mo_isStored_161 rfl (lv_at hl 3 rfl) ?_
                  refine mo_get 20 S hK hm (by decide) k486 rfl rfl d_Mo_isStored_162 ?_
                  refine lv_iload_n hx hb d_Mo_isStored_165 rfl (lv_at hl 5 rfl) ?_
                  refine mo_zald S hK hm (by omega) d_Mo_isStored_166 ?_
                  refine fm_if_eq (tgt := 174) S (by omega) d_Mo_isStored_167 (by decide) (fun c36 => ?_) (fun c36 => ?_)
                  · exfalso; omega
                  · refine fm_lconst0 S d_Mo_isStored_170 ?_
                    refine lv_goto (tgt := 181) hx hb d_Mo_isStored_171 (by decide) ?_
                    refine mo_last 15 S hK hm (by decide) (by simp only [moLen]; omega) d_Mo_isStored_181 (fun M37 H locs eM37 hm => ?_)
                    have gk : ∀ k : Nat, 6 ≤ k → M37 k = (setA (setA (setA M 16 r err) 14 r ((V 21).tmod (10 ^ d.toNat))) 15 r (0)) k := fun k hk => by rw [eM37]; unfold setA; rw [gk k hk]; rfl
                    have e16 : M37 16 r = err := by rw [eM37, setA_n (by decide)]; exact e16
                    have h22b : 0 ≤ M37 2 2 ∧ M37 2 2 ≤ 320 := by rw [eM37, setA_n (by decide)]; exact h22b
                    refine lv_aload_n hx hb d_Mo_isStored_182 rfl (lv_at hl 3 rfl) ?_
                    refine mo_get 20 S hK hm (by decide) k486 rfl rfl d_Mo_isStored_183 ?_
                    refine lv_iload_n hx hb d_Mo_isStored_186 rfl (lv_at hl 5 rfl) ?_
                    refine mo_zald S hK hm (by omega) d_Mo_isStored_187 ?_
                    refine fm_if_ne (tgt := 195) S (by omega) d_Mo_isStored_188 (by decide) (fun c38 => ?_) (fun c38 => ?_)
                    · refine fm_iconst S d_Mo_isStored_195 ?_
                      refine mo_zret S hr hlocks hK hm (by omega) d_Mo_isStored_196 ?_
                      refine hPP _ _ _ ⟨err, herr, by omega, hVk, hV14, fun k h1 h2 => ?_, fun q hq => ?_, e16, ?_, ?_, h22b⟩
                      · rw [gk k h1]; simp [setA, show k ≠ 16 by omega, show k ≠ 15 by omega, show k ≠ 14 by omega]
                      · rw [gk 14 (by decide), gk 15 (by decide), gk 16 (by decide)]; simp [setA, uI, hq]
                      · rw [gk 14 (by decide), if_pos ⟨by omega, by omega⟩]; simp [setA, uI]
                      · rw [gk 15 (by decide), if_pos (by omega)]; rw [if_pos (by omega)]; simp [setA, uI]
                    · exfalso; omega
        · refine lv_iload hx hb d_Mo_isStored_98 (lv_at hl 0 rfl) ?_
          refine fm_if_eq (tgt := 108) S (by omega) d_Mo_isStored_100 (by decide) (fun c39 => ?_) (fun c39 => ?_)
          · refine fm_iconst S d_Mo_isStored_108 ?_
            exact key _ (by omega)
          · refine lv_iload hx hb d_Mo_isStored_103 (lv_at hl 1 rfl) ?_
            refine lv_goto (tgt := 109) hx hb d_Mo_isStored_105 (by decide) ?_
            exact key _ (by omega)
    · refine lv_iload hx hb d_Mo_isStored_70 (lv_at hl 0 rfl) ?_
      refine fm_if_ne (tgt := 82) S (by omega) d_Mo_isStored_72 (by decide) (fun c40 => ?_) (fun c40 => ?_)
      · refine fm_iconst S d_Mo_isStored_82 ?_
        refine lv_goto (tgt := 87) hx hb d_Mo_isStored_83 (by decide) ?_
        exact key _ (by omega)
      · refine lv_aload_n hx hb d_Mo_isStored_75 rfl (lv_at hl 3 rfl) ?_
        refine mo_get 22 S hK hm (by decide) k488 rfl rfl d_Mo_isStored_76 ?_
        refine fm_if_eq (tgt := 86) S (by omega) d_Mo_isStored_79 (by decide) (fun c41 => ?_) (fun c41 => ?_)
        · refine fm_iconst S d_Mo_isStored_86 ?_
          exact key _ (by omega)
        · refine fm_iconst S d_Mo_isStored_82 ?_
          refine lv_goto (tgt := 87) hx hb d_Mo_isStored_83 (by decide) ?_
          exact key _ (by omega)
  · refine lv_iload hx hb d_Mo_isStored_53 (lv_at hl 0 rfl) ?_
    refine fm_if_eq (tgt := 62) S (by omega) d_Mo_isStored_55 (by decide) (fun c42 => ?_) (fun c42 => ?_)
    · refine fm_iconst S d_Mo_isStored_62 ?_
      exact key _ (by omega)
    · refine fm_iconst S d_Mo_isStored_58 ?_
      refine lv_goto (tgt := 63) hx hb d_Mo_isStored_59 (by decide) ?_
      exact key _ (by omega)
