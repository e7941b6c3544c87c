set_option maxHeartbeats 4000000 in
set_option maxRecDepth 100000 in
/-- L_mul1 -/
theorem L_mul1 {p : Program} {l : Launch} {e : Env} {s : State} {m : MethodId} {args : Array Value} {below : List Frame} {meth : Method} {c : Code} {Q : State → Prop} {D : va_G} {cs : Nat → ClassId} {Z : (Nat → Prop) → State → Heap → Prop} {ad : Nat → Nat} {μ0 : fm_Mu} {A : Nat → Prop}  (S : CallFix p m c c_Mo_multiply 6 s args wA "ArithmeticFormsModel") (hK : va_K D clsA (tysA cs) s) (hZo : fm_Zok Z) (hZ : Z A s s.heap) (hA : ∀ q, s.heap.size ≤ q → A q) (V : Nat → Int) (M0 : Nat → Int → Int) (na NA nb NB : Nat) (xa sa xb sb : Int) (hga : Rg M0 0 na NA xa sa) (hgb : Rg M0 1 nb NB xb sb) (hbd : na ≤ 100 ∧ nb ≤ 100) (n : Int) (hnn : n = na + nb) (kk38 : ∀ (M : Nat → Int → Int) (k : Int) (H : Heap) (locs : List Loc) (ls : Array Slot), (k = n) → (ZeI M0 M k) → lv_has ls 6 [(2, .int (iN (k))), (0, .ref (ad 0)), (1, .int (iN (n)))] → moW D A s.heap μ0 cs ad V M H locs → W p l e ({ frames := 2, cells := 0, slots := 0, locals := 47 }) s m args below meth c H locs 0 0 Q (F0 m 38 ls [])) : ∀ (fu : Nat) (M : Nat → Int → Int) (k : Int) (H : Heap) (locs : List Loc) (ls : Array Slot), n - k < (fu : Int) → (0 ≤ k ∧ k ≤ n) → (ZeI M0 M k) → lv_has ls 6 [(2, .int (iN (k))), (0, .ref (ad 0)), (1, .int (iN (n)))] → moW D A s.heap μ0 cs ad V M H locs → W p l e ({ frames := 2, cells := 0, slots := 0, locals := 47 }) s m args below meth c H locs 0 0 Q (F0 m 16 ls []) := by
  obtain ⟨hx, hb, hml, hown, hts⟩ := id S
  intro fu
  induction fu with
  | zero =>
    intro M k H locs ls hn hk hc hl hm
    exfalso; omega
  | succ fu ih =>
    intro M k H locs ls hn hk hc hl hm
    refine lv_iload_n hx hb d_Mo_multiply_16 rfl (lv_at hl 0 rfl) ?_
    refine lv_iload_n hx hb d_Mo_multiply_17 rfl (lv_at hl 2 rfl) ?_
    refine fm_icmp_ge (tgt := 38) S (by omega) (by omega) d_Mo_multiply_18 (by decide) (fun c1 => ?_) (fun c1 => ?_)
    · exact kk38 M k _ _ _ (by omega) (hc) (lv_sub hl [0, 1, 2] rfl) hm
    · refine lv_aload_n hx hb d_Mo_multiply_21 rfl (lv_at hl 1 rfl) ?_
      refine mo_get 2 S hK hm (by decide) k468 rfl rfl d_Mo_multiply_22 ?_
      refine fm_sipush S d_Mo_multiply_25 (by decide) ?_
      refine lv_iload_n hx hb d_Mo_multiply_28 rfl (lv_at hl 0 rfl) ?_
      refine fm_iadd S d_Mo_multiply_29 ?_
      refine fm_iconst S d_Mo_multiply_30 ?_
      refine mo_iast 1 S hK hm (by decide) (by simp only [moLen]; omega) d_Mo_multiply_31 (fun M2 H locs eM2 hm => ?_)
      refine lv_iinc (v := iN ((k + 1))) (lv' := [(2, .int (iN ((k + 1)))), (0, .ref (ad 0)), (1, .int (iN (n)))]) hx hb d_Mo_multiply_32 hl (k := 0) rfl (iN_add _ _) (by decide) rfl (fun ls hl => ?_)
      refine lv_goto (tgt := 16) hx hb d_Mo_multiply_35 (by decide) ?_
      exact ih M2 (k + 1) _ _ _ (by omega) (by omega) (hc.step (by omega) eM2) (lv_sub hl [0, 1, 2] rfl) hm

set_option maxHeartbeats 4000000 in
set_option maxRecDepth 100000 in
/-- L_mul2 -/
theorem L_mul2 {p : Program} {l : Launch} {e : Env} {s : State} {m : MethodId} {args : Array Value} {below : List Frame} {meth : Method} {c : Code} {Q : State → Prop} {D : va_G} {cs : Nat → ClassId} {Z : (Nat → Prop) → State → Heap → Prop} {ad : Nat → Nat} {μ0 : fm_Mu} {A : Nat → Prop}  (S : CallFix p m c c_Mo_multiply 6 s args wA "ArithmeticFormsModel") (hK : va_K D clsA (tysA cs) s) (hZo : fm_Zok Z) (hZ : Z A s s.heap) (hA : ∀ q, s.heap.size ≤ q → A q) (V : Nat → Int) (M0 : Nat → Int → Int) (na NA nb NB : Nat) (xa sa xb sb : Int) (hga : Rg M0 0 na NA xa sa) (hgb : Rg M0 1 nb NB xb sb) (hbd : na ≤ 100 ∧ nb ≤ 100) (n : Int) (hnn : n = na + nb) (i B a : Int) (ii : Nat) (hi : i = ii ∧ ii < na) (ha : a = ((NA / 10 ^ ii % 10 : Nat) : Int)) (kk134 : ∀ (M : Nat → Int → Int) (k : Int) (cy : Int) (kk : Nat) (H : Heap) (locs : List Loc) (ls : Array Slot), (kk = nb) → (0 ≤ cy ∧ cy ≤ 9) → (MuI M0 M (na + nb) (ii + nb) (B + a * ((NB % 10 ^ kk : Nat) : Int) * 10 ^ ii - cy * 10 ^ (ii + kk))) → lv_has ls 6 [(4, .int (iN (k))), (3, .int (iN (cy))), (0, .ref (ad 0)), (1, .int (iN (n))), (2, .int (iN (i)))] → moW D A s.heap μ0 cs ad V M H locs → W p l e ({ frames := 2, cells := 0, slots := 0, locals := 47 }) s m args below meth c H locs 0 0 Q (F0 m 134 ls [])) : ∀ (fu : Nat) (M : Nat → Int → Int) (k : Int) (cy : Int) (kk : Nat) (H : Heap) (locs : List Loc) (ls : Array Slot), nb - k < (fu : Int) → (k = kk ∧ kk ≤ nb ∧ 0 ≤ cy ∧ cy ≤ 9) → (MuI M0 M (na + nb) (ii + nb) (B + a * ((NB % 10 ^ kk : Nat) : Int) * 10 ^ ii - cy * 10 ^ (ii + kk))) → lv_has ls 6 [(4, .int (iN (k))), (3, .int (iN (cy))), (0, .ref (ad 0)), (1, .int (iN (n))), (2, .int (iN (i)))] → moW D A s.heap μ0 cs ad V M H locs → W p l e ({ frames := 2, cells := 0, slots := 0, locals := 47 }) s m args below meth c H locs 0 0 Q (F0 m 55 ls []) := by
  obtain ⟨hx, hb, hml, hown, hts⟩ := id S
  intro fu
  induction fu with
  | zero =>
    intro M k cy kk H locs ls hn hk hc hl hm
    exfalso; omega
  | succ fu ih =>
    intro M k cy kk H locs ls hn hk hc hl hm
    have g0 := hc.1.rg (by decide) (by omega) hga
    have g1 := hc.1.rg (by decide) (by omega) hgb
    have e21 := g1.1
    refine lv_iload hx hb d_Mo_multiply_55 (lv_at hl 0 rfl) ?_
    refine lv_aload_n hx hb d_Mo_multiply_57 rfl (lv_at hl 2 rfl) ?_
    refine mo_get 3 S hK hm (by decide) k469 rfl rfl d_Mo_multiply_58 ?_
    refine fm_iconst S d_Mo_multiply_61 ?_
    refine mo_iald 2 S hK hm (by decide) (by simp only [moLen]; omega) d_Mo_multiply_62 ?_
    refine fm_icmp_ge (tgt := 134) S (by omega) (by omega) d_Mo_multiply_63 (by decide) (fun c1 => ?_) (fun c1 => ?_)
    · exact kk134 M k cy kk _ _ _ (by omega) (by omega) (hc) (lv_sub hl [0, 1, 2, 3, 4] rfl) hm
    · have hA : M 1 (0 + i) = a := by
        rw [show (0 : Int) + i = 320 * 0 + i by omega, g0.dig (by omega) (by omega), ha, show i.toNat = ii by omega]
      have hB : M 1 (320 + k) = ((NB / 10 ^ kk % 10 : Nat) : Int) := by
        rw [show (320 : Int) + k = 320 * 1 + k by omega, g1.dig (by omega) (by omega), show k.toNat = kk by omega]
      have hm1 := Nat.mod_lt (NA / 10 ^ ii) (show 10 > 0 by decide)
      have hm2 := Nat.mod_lt (NB / 10 ^ kk) (show 10 > 0 by decide)
      have hC := hc.2.2.1 (ii + kk) (by omega) (by omega)
      rw [show 640 + ((ii : Int) + kk) = 640 + i + k by omega] at hC
      have hAB : 0 ≤ M 1 (0 + i) * M 1 (320 + k) ∧ M 1 (0 + i) * M 1 (320 + k) ≤ 81 := by
        rw [hA, hB, ha]
        exact prod81 (by omega) (by omega)
      refine lv_aload_n hx hb d_Mo_multiply_66 rfl (lv_at hl 2 rfl) ?_
      refine mo_get 2 S hK hm (by decide) k468 rfl rfl d_Mo_multiply_67 ?_
      refine fm_sipush S d_Mo_multiply_70 (by decide) ?_
      refine lv_iload_n hx hb d_Mo_multiply_73 rfl (lv_at hl 4 rfl) ?_
      refine fm_iadd S d_Mo_multiply_74 ?_
      refine lv_iload hx hb d_Mo_multiply_75 (lv_at hl 0 rfl) ?_
      refine fm_iadd S d_Mo_multiply_77 ?_
      refine mo_iald 1 S hK hm (by decide) (by simp only [moLen]; omega) d_Mo_multiply_78 ?_
      refine lv_aload_n hx hb d_Mo_multiply_79 rfl (lv_at hl 2 rfl) ?_
      refine mo_get 2 S hK hm (by decide) k468 rfl rfl d_Mo_multiply_80 ?_
      refine fm_iconst S d_Mo_multiply_83 ?_
      refine lv_iload_n hx hb d_Mo_multiply_84 rfl (lv_at hl 4 rfl) ?_
      refine fm_iadd S d_Mo_multiply_85 ?_
      refine mo_iald 1 S hK hm (by decide) (by simp only [moLen]; omega) d_Mo_multiply_86 ?_
      refine lv_aload_n hx hb d_Mo_multiply_87 rfl (lv_at hl 2 rfl) ?_
      refine mo_get 2 S hK hm (by decide) k468 rfl rfl d_Mo_multiply_88 ?_
      refine fm_sipush S d_Mo_multiply_91 (by decide) ?_
      refine lv_iload hx hb d_Mo_multiply_94 (lv_at hl 0 rfl) ?_
      refine fm_iadd S d_Mo_multiply_96 ?_
      refine mo_iald 1 S hK hm (by decide) (by simp only [moLen]; omega) d_Mo_multiply_97 ?_
      refine fm_imul S d_Mo_multiply_98 ?_
      refine fm_iadd S d_Mo_multiply_99 ?_
      refine lv_iload_n hx hb d_Mo_multiply_100 rfl (lv_at hl 1 rfl) ?_
      refine fm_iadd S d_Mo_multiply_101 ?_
      refine fm_topi (fun x2 hx2 => ?_)
      refine lv_istore (lv' := [(5, .int (iN (x2))), (4, .int (iN (k))), (3, .int (iN (cy))), (0, .ref (ad 0)), (1, .int (iN (n))), (2, .int (iN (i)))]) hx hb d_Mo_multiply_102 hl (by decide) rfl (fun ls hl => ?_)
      refine lv_aload_n hx hb d_Mo_multiply_104 rfl (lv_at hl 3 rfl) ?_
      refine mo_get 2 S hK hm (by decide) k468 rfl rfl d_Mo_multiply_105 ?_
      refine fm_sipush S d_Mo_multiply_108 (by decide) ?_
      refine lv_iload_n hx hb d_Mo_multiply_111 rfl (lv_at hl 5 rfl) ?_
      refine fm_iadd S d_Mo_multiply_112 ?_
      refine lv_iload hx hb d_Mo_multiply_113 (lv_at hl 1 rfl) ?_
      refine fm_iadd S d_Mo_multiply_115 ?_
      refine lv_iload hx hb d_Mo_multiply_116 (lv_at hl 0 rfl) ?_
      refine fm_bipush S d_Mo_multiply_118 (by decide) ?_
      refine fm_iremN S (by omega) d_Mo_multiply_120 ?_
      refine mo_iast 1 S hK hm (by decide) (by simp only [moLen]; omega) d_Mo_multiply_121 (fun M3 H locs eM3 hm => ?_)
      refine lv_iload hx hb d_Mo_multiply_122 (lv_at hl 0 rfl) ?_
      refine fm_bipush S d_Mo_multiply_124 (by decide) ?_
      refine fm_idivN S (by omega) d_Mo_multiply_126 ?_
      refine fm_topi (fun x4 hx4 => ?_)
      refine lv_istore_n (lv' := [(3, .int (iN (x4))), (5, .int (iN (x2))), (4, .int (iN (k))), (0, .ref (ad 0)), (1, .int (iN (n))), (2, .int (iN (i)))]) hx hb d_Mo_multiply_127 rfl hl (by decide) rfl (fun ls hl => ?_)
      refine lv_iinc (v := iN ((k + 1))) (lv' := [(4, .int (iN ((k + 1)))), (3, .int (iN (x4))), (5, .int (iN (x2))), (0, .ref (ad 0)), (1, .int (iN (n))), (2, .int (iN (i)))]) hx hb d_Mo_multiply_128 hl (k := 2) rfl (iN_add _ _) (by decide) rfl (fun ls hl => ?_)
      refine lv_goto (tgt := 55) hx hb d_Mo_multiply_131 (by decide) ?_
      exact ih M3 (k + 1) x4 (kk + 1) _ _ _ (by omega) (by omega) (hc.put (k := ii + kk) (by omega) (by omega) (by omega) (Nat.le_refl _) (by omega) (by omega) eM3 (by rw [hx4]; exact mul_in rfl (by rw [hx2, hA, hB]))) (lv_sub hl [0, 1, 3, 4, 5] rfl) hm

set_option maxHeartbeats 4000000 in
set_option maxRecDepth 100000 in
/-- L_mul3 -/
theorem L_mul3 {p : Program} {l : Launch} {e : Env} {s : State} {m : MethodId} {args : Array Value} {below : List Frame} {meth : Method} {c : Code} {Q : State → Prop} {D : va_G} {cs : Nat → ClassId} {Z : (Nat → Prop) → State → Heap → Prop} {ad : Nat → Nat} {μ0 : fm_Mu} {A : Nat → Prop}  (S : CallFix p m c c_Mo_multiply 6 s args wA "ArithmeticFormsModel") (hK : va_K D clsA (tysA cs) s) (hZo : fm_Zok Z) (hZ : Z A s s.heap) (hA : ∀ q, s.heap.size ≤ q → A q) (V : Nat → Int) (M0 : Nat → Int → Int) (na NA nb NB : Nat) (xa sa xb sb : Int) (hga : Rg M0 0 na NA xa sa) (hgb : Rg M0 1 nb NB xb sb) (hbd : na ≤ 100 ∧ nb ≤ 100) (n : Int) (hnn : n = na + nb) (kk161 : ∀ (M : Nat → Int → Int) (i : Int) (ii : Nat) (H : Heap) (locs : List Loc) (ls : Array Slot), (i = na ∧ ii = na) → (MuI M0 M (na + nb) (ii + nb) (((NA % 10 ^ ii : Nat) : Int) * NB)) → lv_has ls 6 [(2, .int (iN (i))), (0, .ref (ad 0)), (1, .int (iN (n)))] → moW D A s.heap μ0 cs ad V M H locs → W p l e ({ frames := 2, cells := 0, slots := 0, locals := 47 }) s m args below meth c H locs 0 0 Q (F0 m 161 ls [])) : ∀ (fu : Nat) (M : Nat → Int → Int) (i : Int) (ii : Nat) (H : Heap) (locs : List Loc) (ls : Array Slot), na - i < (fu : Int) → (i = ii ∧ ii ≤ na) → (MuI M0 M (na + nb) (ii + nb) (((NA % 10 ^ ii : Nat) : Int) * NB)) → lv_has ls 6 [(2, .int (iN (i))), (0, .ref (ad 0)), (1, .int (iN (n)))] → moW D A s.heap μ0 cs ad V M H locs → W p l e ({ frames := 2, cells := 0, slots := 0, locals := 47 }) s m args below meth c H locs 0 0 Q (F0 m 40 ls []) := by
  obtain ⟨hx, hb, hml, hown, hts⟩ := id S
  intro fu
  induction fu with
  | zero =>
    intro M i ii H locs ls hn hi hc hl hm
    exfalso; omega
  | succ fu ih =>
    intro M i ii H locs ls hn hi hc hl hm
    have g0 := hc.1.rg (by decide) (by omega) hga
    have e20 := g0.1
    refine lv_iload_n hx hb d_Mo_multiply_40 rfl (lv_at hl 0 rfl) ?_
    refine lv_aload_n hx hb d_Mo_multiply_41 rfl (lv_at hl 1 rfl) ?_
    refine mo_get 3 S hK hm (by decide) k469 rfl rfl d_Mo_multiply_42 ?_
    refine fm_iconst S d_Mo_multiply_45 ?_
    refine mo_iald 2 S hK hm (by decide) (by simp only [moLen]; omega) d_Mo_multiply_46 ?_
    refine fm_icmp_ge (tgt := 161) S (by omega) (by omega) d_Mo_multiply_47 (by decide) (fun c1 => ?_) (fun c1 => ?_)
    · exact kk161 M i ii _ _ _ (by omega) (hc) (lv_sub hl [0, 1, 2] rfl) hm
    · refine fm_iconst S d_Mo_multiply_50 ?_
      refine lv_istore_n (lv' := [(3, .int (iN (0))), (2, .int (iN (i))), (0, .ref (ad 0)), (1, .int (iN (n)))]) hx hb d_Mo_multiply_51 rfl hl (by decide) rfl (fun ls hl => ?_)
      refine fm_iconst S d_Mo_multiply_52 ?_
      refine lv_istore (lv' := [(4, .int (iN (0))), (3, .int (iN (0))), (2, .int (iN (i))), (0, .ref (ad 0)), (1, .int (iN (n)))]) hx hb d_Mo_multiply_53 hl (by decide) rfl (fun ls hl => ?_)
      obtain ⟨a, ha⟩ : ∃ a : Int, a = ((NA / 10 ^ ii % 10 : Nat) : Int) := ⟨_, rfl⟩
      refine L_mul2 (Z := Z) S hK hZo hZ hA V M0 na NA nb NB xa sa xb sb hga hgb hbd n hnn i (((NA % 10 ^ ii : Nat) : Int) * NB) a ii (by omega) ha (fun M2 k cy kk H locs ls hk hcy hc hl hm => ?_) (nb + 1) M 0 0 0 _ _ _ (by omega) (by omega) (by simpa [Nat.mod_one] using hc) (lv_sub hl [0, 1, 3, 4, 2] rfl) hm
      subst hk
      have g1 := hc.1.rg (by decide) (by omega) hgb
      have e21 := g1.1
      have hz : M2 1 (640 + i + M2 2 1) = 0 := by
        have h := hc.2.2.2.1 (ii + kk) (by omega) (by omega)
        rw [show 640 + i + M2 2 1 = 640 + ((ii : Int) + kk) by omega]; exact h
      refine lv_aload_n hx hb d_Mo_multiply_134 rfl (lv_at hl 2 rfl) ?_
      refine mo_get 2 S hK hm (by decide) k468 rfl rfl d_Mo_multiply_135 ?_
      refine fm_sipush S d_Mo_multiply_138 (by decide) ?_
      refine lv_iload_n hx hb d_Mo_multiply_141 rfl (lv_at hl 4 rfl) ?_
      refine fm_iadd S d_Mo_multiply_142 ?_
      refine lv_aload_n hx hb d_Mo_multiply_143 rfl (lv_at hl 2 rfl) ?_
      refine mo_get 3 S hK hm (by decide) k469 rfl rfl d_Mo_multiply_144 ?_
      refine fm_iconst S d_Mo_multiply_147 ?_
      refine mo_iald 2 S hK hm (by decide) (by simp only [moLen]; omega) d_Mo_multiply_148 ?_
      refine fm_iadd S d_Mo_multiply_149 ?_
      refine lv_dup2_11 hx hb d_Mo_multiply_150 rfl rfl ?_
      refine mo_iald 1 S hK hm (by decide) (by simp only [moLen]; omega) d_Mo_multiply_151 ?_
      refine lv_iload_n hx hb d_Mo_multiply_152 rfl (lv_at hl 1 rfl) ?_
      refine fm_iadd S d_Mo_multiply_153 ?_
      refine mo_iast 1 S hK hm (by decide) (by simp only [moLen]; omega) d_Mo_multiply_154 (fun M3 H locs eM3 hm => ?_)
      refine lv_iinc (v := iN ((i + 1))) (lv' := [(2, .int (iN ((i + 1)))), (4, .int (iN (k))), (3, .int (iN (cy))), (0, .ref (ad 0)), (1, .int (iN (n)))]) hx hb d_Mo_multiply_155 hl (k := 4) rfl (iN_add _ _) (by decide) rfl (fun ls hl => ?_)
      refine lv_goto (tgt := 40) hx hb d_Mo_multiply_158 (by decide) ?_
      exact ih M3 (i + 1) (ii + 1) _ _ _ (by omega) (by omega) (hc.put (k := ii + kk) (by omega) (by omega) (by omega) (by omega) (by omega) (by rw [hz]; omega) eM3 (by rw [hz, ha]; exact mul_out hgb.lt)) (lv_sub hl [0, 3, 4] rfl) hm

set_option maxHeartbeats 4000000 in
set_option maxRecDepth 100000 in
/-- multiply() -/
theorem t_Mo_multiply (l : Launch) (D : va_G) (cs : Nat → ClassId) (Z : (Nat → Prop) → State → Heap → Prop) (hZo : fm_Zok Z) (ad : Nat → Nat) (μ : fm_Mu) (V : Nat → Int) (M : Nat → Int → Int) (sz : Nat) (most : Nat) (na : Nat) (NA : Nat) (nb : Nat) (NB : Nat) (xa : Int) (sa : Int) (xb : Int) (sb : Int) (hM : moS cs μ ad V M) (hga : Rg M 0 na NA xa sa) (hgb : Rg M 1 nb NB xb sb) (hbd : na ≤ 100 ∧ nb ≤ 100 ∧ -150 ≤ xa ∧ -150 ≤ xb ∧ xa ≤ 150 ∧ xb ≤ 150) (hsz : -1 ≤ sa ∧ sa ≤ 1 ∧ -1 ≤ sb ∧ sb ≤ 1) (hpr : V 1 = (most : Int) ∧ 1 ≤ most ∧ most ≤ 31) : Met l y_Mo_multiply (Cond.code y_Mo_multiply c_Mo_multiply 6 (some .int) :: wA) ({ frames := 2, cells := 0, slots := 0, locals := 47 }) (fm_Pc D clsA (tysA cs) Z μ sz [.ref (ad 0)]) (moQi D cs ad μ sz (fun z V' M' => V' = V ∧ Fr M M' 2 ∧ cutOk M' 2 most (NA * NB) (xa + xb) (sa * sb) z)) 0 0 (fm_A μ sz) := by
  refine mo_of hM (by decide +kernel) (Nat.le_of_ble_eq_true rfl) (fun p e s m below meth c S hr hlocks hsz hm hK hZ hA ls hl => ?_)
  subst hsz
  obtain ⟨hx, hb, hml, hown, hts⟩ := id S
  have hl : lv_has ls 6 [(0, .ref (ad 0))] := hl
  have e20 := hga.1
  have e21 := hgb.1
  have e30 := hga.2.1
  have e31 := hgb.2.1
  have e40 := hga.2.2.1
  have e41 := hgb.2.2.1
  refine lv_aload_n hx hb d_Mo_multiply_0 rfl (lv_at hl 0 rfl) ?_
  refine mo_get 3 S hK hm (by decide) k469 rfl rfl d_Mo_multiply_1 ?_
  refine fm_iconst S d_Mo_multiply_4 ?_
  refine mo_iald 2 S hK hm (by decide) (by simp only [moLen]; omega) d_Mo_multiply_5 ?_
  refine lv_aload_n hx hb d_Mo_multiply_6 rfl (lv_at hl 0 rfl) ?_
  refine mo_get 3 S hK hm (by decide) k469 rfl rfl d_Mo_multiply_7 ?_
  refine fm_iconst S d_Mo_multiply_10 ?_
  refine mo_iald 2 S hK hm (by decide) (by simp only [moLen]; omega) d_Mo_multiply_11 ?_
  refine fm_iadd S d_Mo_multiply_12 ?_
  refine fm_topi (fun x1 hx1 => ?_)
  refine lv_istore_n (lv' := [(1, .int (iN (x1))), (0, .ref (ad 0))]) hx hb d_Mo_multiply_13 rfl hl (by decide) rfl (fun ls hl => ?_)
  refine fm_iconst S d_Mo_multiply_14 ?_
  refine lv_istore_n (lv' := [(2, .int (iN (0))), (1, .int (iN (x1))), (0, .ref (ad 0))]) hx hb d_Mo_multiply_15 rfl hl (by decide) rfl (fun ls hl => ?_)
  refine L_mul1 (Z := Z) S hK hZo hZ hA V M na NA nb NB xa sa xb sb hga hgb (by omega) x1 (by omega) (fun M2 k H locs ls hk hz hl hm => ?_) ((na + nb) + 1) M 0 _ _ _ (by omega) (by omega) (ZeI.start M) (lv_sub hl [0, 2, 1] rfl) hm
  refine fm_iconst S d_Mo_multiply_38 ?_
  refine lv_istore_n (lv' := [(2, .int (iN (0))), (0, .ref (ad 0)), (1, .int (iN (x1)))]) hx hb d_Mo_multiply_39 rfl hl (by decide) rfl (fun ls hl => ?_)
  have hz2 : ZeI M M2 ((na + nb : Nat) : Int) := by rw [hk, hx1, e20, e21] at hz; simpa using hz
  refine L_mul3 (Z := Z) S hK hZo hZ hA V M na NA nb NB xa sa xb sb hga hgb (by omega) x1 (by omega) (fun M3 i ii H locs ls hi hc hl hm => ?_) (na + 1) M2 0 0 _ _ _ (by omega) (by omega) (by simpa [Nat.mod_one] using hz2.mu nb) (lv_sub hl [0, 1, 2] rfl) hm
  obtain ⟨hi1, hi2⟩ := hi
  subst hi2
  rw [Nat.mod_eq_of_lt hga.lt] at hc
  refine lv_aload_n hx hb d_Mo_multiply_161 rfl (lv_at hl 1 rfl) ?_
  refine mo_get 3 S hK hm (by decide) k469 rfl rfl d_Mo_multiply_162 ?_
  refine fm_iconst S d_Mo_multiply_165 ?_
  refine lv_iload_n hx hb d_Mo_multiply_166 rfl (lv_at hl 2 rfl) ?_
  refine mo_iast 2 S hK hm (by decide) (by simp only [moLen]; omega) d_Mo_multiply_167 (fun M4 H locs eM4 hm => ?_)
  refine lv_aload_n hx hb d_Mo_multiply_168 rfl (lv_at hl 1 rfl) ?_
  refine mo_get 4 S hK hm (by decide) k470 rfl rfl d_Mo_multiply_169 ?_
  refine fm_iconst S d_Mo_multiply_172 ?_
  refine lv_aload_n hx hb d_Mo_multiply_173 rfl (lv_at hl 1 rfl) ?_
  refine mo_get 4 S hK hm (by decide) k470 rfl rfl d_Mo_multiply_174 ?_
  refine fm_iconst S d_Mo_multiply_177 ?_
  refine mo_iald 3 S hK hm (by decide) (by simp only [moLen]; omega) d_Mo_multiply_178 ?_
  refine lv_aload_n hx hb d_Mo_multiply_179 rfl (lv_at hl 1 rfl) ?_
  refine mo_get 4 S hK hm (by decide) k470 rfl rfl d_Mo_multiply_180 ?_
  refine fm_iconst S d_Mo_multiply_183 ?_
  refine mo_iald 3 S hK hm (by decide) (by simp only [moLen]; omega) d_Mo_multiply_184 ?_
  refine fm_iadd S d_Mo_multiply_185 ?_
  refine mo_iast 3 S hK hm (by decide) (by simp only [moLen]; omega) d_Mo_multiply_186 (fun M5 H locs eM5 hm => ?_)
  refine lv_aload_n hx hb d_Mo_multiply_187 rfl (lv_at hl 1 rfl) ?_
  refine mo_get 5 S hK hm (by decide) k471 rfl rfl d_Mo_multiply_188 ?_
  refine fm_iconst S d_Mo_multiply_191 ?_
  refine lv_aload_n hx hb d_Mo_multiply_192 rfl (lv_at hl 1 rfl) ?_
  refine mo_get 5 S hK hm (by decide) k471 rfl rfl d_Mo_multiply_193 ?_
  refine fm_iconst S d_Mo_multiply_196 ?_
  refine mo_iald 4 S hK hm (by decide) (by simp only [moLen]; omega) d_Mo_multiply_197 ?_
  refine lv_aload_n hx hb d_Mo_multiply_198 rfl (lv_at hl 1 rfl) ?_
  refine mo_get 5 S hK hm (by decide) k471 rfl rfl d_Mo_multiply_199 ?_
  refine fm_iconst S d_Mo_multiply_202 ?_
  refine mo_iald 4 S hK hm (by decide) (by simp only [moLen]; omega) d_Mo_multiply_203 ?_
  refine fm_imul S d_Mo_multiply_204 ?_
  refine mo_iast 4 S hK hm (by decide) (by simp only [moLen]; omega) d_Mo_multiply_205 (fun M6 H locs eM6 hm => ?_)
  obtain ⟨frS, rgS⟩ := MuI.fin (M3 := M6) hc eM4 eM5 eM6 (by omega) hga.2.1 hgb.2.1 hga.2.2.1 hgb.2.2.1
  refine lv_aload_n hx hb d_Mo_multiply_206 rfl (lv_at hl 1 rfl) ?_
  refine fm_iconst S d_Mo_multiply_207 ?_
  refine lv_aload_n hx hb d_Mo_multiply_208 rfl (lv_at hl 1 rfl) ?_
  refine mo_get 1 S hK hm (by decide) k467 rfl rfl d_Mo_multiply_209 ?_
  refine mo_ciS (n := 2) (As := [.int (iN (2)), .int (iN ((V 1)))]) (rest := []) S hK hZo hZ hA hm (fun μ sz hM => t_Mo_cut l D cs Z hZo ad μ V M6 sz 2 (V 1) most (ii + nb) (NA * NB) (xa + xb) (sa * sb) hM (by omega) (by omega) (by omega) (by omega) rgS) (gV k555 k557 ks21 k6 k558) (by decide) (by decide +kernel) rfl hl.1 rfl (Nat.le_of_ble_eq_true rfl) ⟨Nat.le_of_ble_eq_true rfl, Nat.le_of_ble_eq_true rfl⟩ d_Mo_multiply_212 (fun x9 M8 H locs q7 hm => ?_)
  obtain ⟨frM8, cuM8⟩ := q7
  refine mo_iret S hr hlocks hK hm d_Mo_multiply_215 ?_
  exact ⟨rfl, frS.tr frM8, cuM8⟩
