def Lv (H : Int → Int) : Int := H 0 * 100000000000000000000000000000000 + H 1 * 1000000000000000000000000 + H 2 * 10000000000000000 + H 3 * 100000000 + H 4
def l5 (H : Int → Int) : Prop := ∀ q : Int, 0 ≤ q → q < 5 → 0 ≤ H q ∧ H q < 100000000
theorem l5s {H : Int → Int} (h : l5 H) : fOk (fun q => H (q + 1)) := fun q a b => h (q + 1) (by omega) (by omega)
theorem Lv_s {H : Int → Int} : Lv H = H 0 * 100000000000000000000000000000000 + L4 (fun q => H (q + 1)) := by unfold Lv L4; simp only [Int.zero_add, show (1 : Int) + 1 = 2 from rfl, show (2 : Int) + 1 = 3 from rfl, show (3 : Int) + 1 = 4 from rfl]; omega
theorem Lv_up {H H' : Int → Int} {j x : Int} (hj : 0 ≤ j ∧ j < 5) (e : H' = uI H j x) : Lv H' = Lv H + (x - H j) * 10 ^ (8 * (4 - j)).toNat := by
  subst e
  unfold Lv uI
  rcases (show j = 0 ∨ j = 1 ∨ j = 2 ∨ j = 3 ∨ j = 4 by omega) with h | h | h | h | h <;> subst h <;> simp <;> omega

set_option maxHeartbeats 4000000 in
set_option maxRecDepth 100000 in
/-- K_re -/
theorem K_re {p : Program} {l : Launch} {e : Env} {s : State} {m : MethodId} {args : Array Value} {below : List Frame} {meth : Method} {c : Code} {Q : State → Prop} {D : va_G} {cs : Nat → ClassId} {Z : (Nat → Prop) → State → Heap → Prop} {A : Nat → Prop}  (S : CallFix p m c c_Ca_reaches 3 s args wA "ArithmeticForms$Calculator") (hK : va_K D clsA (tysA cs) s) (hZo : fm_Zok Z) (tT : Nat) (hZc : ∀ A U H, Z A U H → Zc tT A U H) (hZ : Z A s s.heap) (hA : ∀ q, s.heap.size ≤ q → A q) (μ0 : fm_Mu) (k w lf on P : Nat) (X : Int → Int) (h a : Nat) (co v : Int) (F : Int → Int) (hX : l5 X) (hX0 : X 0 = 0) (hd : dF F v) (hlocks : meth.locks = false) (hr : meth.sig.returnType = some .boolean) (hsz : A = fm_A μ0 s.heap.size) (hQ : Q = MQ below (fm_Qi D clsA (tysA cs) μ0 s.heap.size (fun z μ' => z = (if (mN v : Int) ≤ Lv X then 1 else 0) ∧ μ' = μ0)) args s 0 0 (fm_A μ0 s.heap.size)) (kk68 : ∀ (μ1 : fm_Mu) (i : Int) (H : Heap) (locs : List Loc) (ls : Array Slot), (i = 4) → (∀ q : Int, 0 ≤ q → q < i → X (q + 1) = F q) → (μ1 k = some (oE 1 [.int (iN ((P : Int))), .ref w, .ref lf, .ref on])) → (μ1 lf = some (lE cs 5 X)) → (μ1 h = some (oE 2 [.int (iN (co)), .int (iN ((sgn v))), .int (iN ((tp v))), .int (iN ((nd (cN v) : Int))), .ref a])) → (μ1 a = some (lE cs 4 F)) → fm_O μ0 μ1 [] → lv_has ls 3 [(2, .int (iN (i))), (0, .ref k), (1, .ref h)] → fm_W D clsA A s.heap μ1 H locs → W p l e ({ frames := 0, cells := 0, slots := 0, locals := 0 }) s m args below meth c H locs 0 0 Q (F0 m 68 ls [])) : ∀ (fu : Nat) (μ1 : fm_Mu) (i : Int) (H : Heap) (locs : List Loc) (ls : Array Slot), 10 - i < (fu : Int) → (0 ≤ i ∧ i ≤ 4) → (∀ q : Int, 0 ≤ q → q < i → X (q + 1) = F q) → (μ1 k = some (oE 1 [.int (iN ((P : Int))), .ref w, .ref lf, .ref on])) → (μ1 lf = some (lE cs 5 X)) → (μ1 h = some (oE 2 [.int (iN (co)), .int (iN ((sgn v))), .int (iN ((tp v))), .int (iN ((nd (cN v) : Int))), .ref a])) → (μ1 a = some (lE cs 4 F)) → fm_O μ0 μ1 [] → lv_has ls 3 [(2, .int (iN (i))), (0, .ref k), (1, .ref h)] → fm_W D clsA A s.heap μ1 H locs → W p l e ({ frames := 0, cells := 0, slots := 0, locals := 0 }) s m args below meth c H locs 0 0 Q (F0 m 15 ls []) := by
  subst hQ
  subst hsz
  obtain ⟨hx, hb, hml, hown, hts⟩ := id S
  have hzc := hZc _ _ _ hZ
  intro fu
  induction fu with
  | zero =>
    intro μ1 i H locs ls hn hi hq c_k c_lf c_h c_a hO0 hl hw
    exfalso; omega
  | succ fu ih =>
    intro μ1 i H locs ls hn hi hq c_k c_lf c_h c_a hO0 hl hw
    refine lv_iload_n hx hb d_Ca_reaches_15 rfl (lv_at hl 0 rfl) ?_
    refine fm_iconst S d_Ca_reaches_16 ?_
    refine fm_icmp_ge (tgt := 68) S (by omega) (by omega) d_Ca_reaches_17 (by decide) (fun c1 => ?_) (fun c1 => ?_)
    · exact kk68 μ1 i _ _ _ (by omega) (hq) c_k c_lf c_h c_a hO0 (lv_sub hl [0, 1, 2] rfl) hw
    · have hf := hd.1 i (by omega) (by omega)
      have hg := hX (i + 1) (by omega) (by omega)
      refine lv_aload_n hx hb d_Ca_reaches_20 rfl (lv_at hl 1 rfl) ?_
      refine fm_get S hK hw c_k i_Ca rfl 2 (by decide) (hts _ k101) (fun _ h => h) rfl d_Ca_reaches_21 ?_
      refine lv_iload_n hx hb d_Ca_reaches_24 rfl (lv_at hl 0 rfl) ?_
      refine fm_iconst S d_Ca_reaches_25 ?_
      refine fm_iadd S d_Ca_reaches_26 ?_
      refine cl_lald S hK hw c_lf (by omega) d_Ca_reaches_27 ?_
      refine lv_aload_n hx hb d_Ca_reaches_28 rfl (lv_at hl 2 rfl) ?_
      refine fm_get S hK hw c_h i_De rfl 4 (by decide) (hts _ k45) (fun _ h => h) rfl d_Ca_reaches_29 ?_
      refine lv_iload_n hx hb d_Ca_reaches_32 rfl (lv_at hl 0 rfl) ?_
      refine cl_lald S hK hw c_a (by omega) d_Ca_reaches_33 ?_
      refine fm_lcmp S (by omega) (by omega) d_Ca_reaches_34 ?_
      refine fm_if_eq (tgt := 62) S (fm_cmp_in _ _) d_Ca_reaches_35 (by decide) (fun c2 => ?_) (fun c2 => ?_)
      · rw [fm_cmp_eq] at c2
        refine lv_iinc (v := iN ((i + 1))) (lv' := [(2, .int (iN ((i + 1)))), (0, .ref k), (1, .ref h)]) hx hb d_Ca_reaches_62 hl (k := 0) rfl (iN_add _ _) (by decide) rfl (fun ls hl => ?_)
        refine lv_goto (tgt := 15) hx hb d_Ca_reaches_65 (by decide) ?_
        exact ih μ1 (i + 1) _ _ _ (by omega) (by omega) (by intro q h1 h2; by_cases h3 : q = i; rw [h3]; assumption; exact hq q h1 (by omega)) c_k c_lf c_h c_a hO0 (lv_sub hl [0, 1, 2] rfl) hw
      · rw [fm_cmp_eq] at c2
        refine lv_aload_n hx hb d_Ca_reaches_38 rfl (lv_at hl 1 rfl) ?_
        refine fm_get S hK hw c_k i_Ca rfl 2 (by decide) (hts _ k101) (fun _ h => h) rfl d_Ca_reaches_39 ?_
        refine lv_iload_n hx hb d_Ca_reaches_42 rfl (lv_at hl 0 rfl) ?_
        refine fm_iconst S d_Ca_reaches_43 ?_
        refine fm_iadd S d_Ca_reaches_44 ?_
        refine cl_lald S hK hw c_lf (by omega) d_Ca_reaches_45 ?_
        refine lv_aload_n hx hb d_Ca_reaches_46 rfl (lv_at hl 2 rfl) ?_
        refine fm_get S hK hw c_h i_De rfl 4 (by decide) (hts _ k45) (fun _ h => h) rfl d_Ca_reaches_47 ?_
        refine lv_iload_n hx hb d_Ca_reaches_50 rfl (lv_at hl 0 rfl) ?_
        refine cl_lald S hK hw c_a (by omega) d_Ca_reaches_51 ?_
        refine fm_lcmp S (by omega) (by omega) d_Ca_reaches_52 ?_
        refine fm_if_le (tgt := 60) S (fm_cmp_in _ _) d_Ca_reaches_53 (by decide) (fun c3 => ?_) (fun c3 => ?_)
        · rw [fm_cmp_le] at c3
          refine fm_iconst S d_Ca_reaches_60 ?_
          refine fm_zret S hr hlocks hK hw (by omega) d_Ca_reaches_61 ?_
          refine ⟨?_, funext (fun q => hO0 q nm0)⟩
          have hlx := lim_lex (F := fun q => X (q + 1)) (G := F) (l5s hX) hd.1 (i := i) (by omega) hq (by assumption)
          rw [hd.2] at hlx
          rw [Lv_s, hX0]
          rw [if_neg]
          have hlx2 := hlx.mp (show X (i + 1) < F i by omega)
          omega
        · rw [fm_cmp_le] at c3
          refine fm_iconst S d_Ca_reaches_56 ?_
          refine lv_goto (tgt := 61) hx hb d_Ca_reaches_57 (by decide) ?_
          refine fm_zret S hr hlocks hK hw (by omega) d_Ca_reaches_61 ?_
          refine ⟨?_, funext (fun q => hO0 q nm0)⟩
          have hlx := lim_lex (F := fun q => X (q + 1)) (G := F) (l5s hX) hd.1 (i := i) (by omega) hq (by assumption)
          rw [hd.2] at hlx
          rw [Lv_s, hX0]
          rw [if_pos]
          have hlx2 := mt hlx.mpr (show ¬ X (i + 1) < F i by omega)
          omega

set_option maxHeartbeats 4000000 in
set_option maxRecDepth 100000 in
/-- reaches(b) -/
theorem t_Ca_reaches (l : Launch) (D : va_G) (cs : Nat → ClassId) (Z : (Nat → Prop) → State → Heap → Prop) (hZo : fm_Zok Z) (tT : Nat) (hZc : ∀ A U H, Z A U H → Zc tT A U H) (μ : fm_Mu) (sz : Nat) (k : Nat) (w : Nat) (lf : Nat) (on : Nat) (P : Nat) (X : Int → Int) (h : Nat) (a : Nat) (co : Int) (v : Int) (F : Int → Int) (hX : l5 X) (hd : dF F v) (hv : dB v) (c_k : μ k = some (oE 1 [.int (iN ((P : Int))), .ref w, .ref lf, .ref on])) (c_lf : μ lf = some (lE cs 5 X)) (c_h : μ h = some (oE 2 [.int (iN (co)), .int (iN ((sgn v))), .int (iN ((tp v))), .int (iN ((nd (cN v) : Int))), .ref a])) (c_a : μ a = some (lE cs 4 F)) : Met l y_Ca_reaches (Cond.code y_Ca_reaches c_Ca_reaches 3 (some .boolean) :: wA) ({ frames := 0, cells := 0, slots := 0, locals := 0 }) (fm_Pc D clsA (tysA cs) Z μ sz [.ref k, .ref h]) (fm_Qi D clsA (tysA cs) μ sz (fun z μ' => z = (if (mN v : Int) ≤ Lv X then 1 else 0) ∧ μ' = μ)) 0 0 (fm_A μ sz) := by
  refine cl_of (by decide +kernel) (Nat.le_of_ble_eq_true rfl) (fun p e s m below meth c S hr hlocks hnm hsz hw hK hZ hA ls hl => ?_)
  subst hsz
  replace S : CallFix p m c c_Ca_reaches 3 s _ wA "ArithmeticForms$Calculator" := S
  obtain ⟨hx, hb, hml, hown, hts⟩ := id S
  have hzc := hZc _ _ _ hZ
  have hO0 : fm_O μ μ [] := fm_O.rf
  have hl : lv_has ls 3 [(0, .ref k), (1, .ref h)] := hl
  have hx0 := hX 0 (by decide) (by decide)
  have hmn := mN_lt hv
  rw [p32] at hmn
  refine lv_aload_n hx hb d_Ca_reaches_0 rfl (lv_at hl 0 rfl) ?_
  refine fm_get S hK hw c_k i_Ca rfl 2 (by decide) (hts _ k101) (fun _ h => h) rfl d_Ca_reaches_1 ?_
  refine fm_iconst S d_Ca_reaches_4 ?_
  refine cl_lald S hK hw c_lf (by omega) d_Ca_reaches_5 ?_
  refine fm_lconst0 S d_Ca_reaches_6 ?_
  refine fm_lcmp S (by omega) (by omega) d_Ca_reaches_7 ?_
  refine fm_if_eq (tgt := 13) S (fm_cmp_in _ _) d_Ca_reaches_8 (by decide) (fun c1 => ?_) (fun c1 => ?_)
  · rw [fm_cmp_eq] at c1
    refine fm_iconst S d_Ca_reaches_13 ?_
    refine lv_istore_n (lv' := [(2, .int (iN (0))), (0, .ref k), (1, .ref h)]) hx hb d_Ca_reaches_14 rfl hl (by decide) rfl (fun ls hl => ?_)
    refine K_re (Z := Z) S hK hZo tT hZc hZ hA μ k w lf on P X h a co v F hX (by omega) hd hlocks hr rfl rfl (fun μ2 i H locs ls hi hq c_k c_lf c_h c_a hO0 hl hw => ?_) (20) μ 0 _ _ _ (by omega) (by omega) (by intro q h1 h2; omega) c_k c_lf c_h c_a hO0 (lv_sub hl [0, 1, 2] rfl) hw
    refine fm_iconst S d_Ca_reaches_68 ?_
    refine fm_zret S hr hlocks hK hw (by omega) d_Ca_reaches_69 ?_
    refine ⟨?_, funext (fun q => hO0 q nm0)⟩
    rw [if_pos]
    have h1 := lim_same (F := fun q => X (q + 1)) (G := F) (fun q a b => hq q a (by omega))
    rw [hd.2] at h1
    rw [Lv_s]
    omega
  · rw [fm_cmp_eq] at c1
    refine fm_iconst S d_Ca_reaches_11 ?_
    refine fm_zret S hr hlocks hK hw (by omega) d_Ca_reaches_12 ?_
    refine ⟨?_, rfl⟩
    rw [if_pos]
    have hl4 := L4_lt (l5s hX)
    rw [Lv_s]
    omega

def RdI (X X1 F : Int → Int) (t bor : Int) (n : Nat) : Prop := Lv X1 + bor * 10 ^ (8 * (4 - n)) = Lv X - t * (L4 F - pS F n) ∧ (∀ q : Int, (n : Int) < q → q < 5 → 0 ≤ X1 q ∧ X1 q < 100000000) ∧ (∀ q : Int, 0 ≤ q → q ≤ n → X1 q = X q) ∧ (-200000000 ≤ bor ∧ bor ≤ 200000000)
theorem rd_in {x t f bor : Int} (hx : 0 ≤ x ∧ x < 100000000) (hf : 0 ≤ f ∧ f < 100000000) (ht : 0 ≤ t ∧ t ≤ 100000000) (hb : -200000000 ≤ bor ∧ bor ≤ 200000000) : 0 ≤ t * f ∧ t * f ≤ 10000000000000000 ∧ inJ (x - t * f + bor) ∧ -200000000 ≤ (x - t * f + bor) / 100000000 ∧ (x - t * f + bor) / 100000000 ≤ 200000000 := by
  have h1 := Int.mul_nonneg ht.1 hf.1
  have h2 : t * f ≤ 100000000 * f := Int.mul_le_mul_of_nonneg_right ht.2 hf.1
  omega
theorem RdI.step {X X1 X2 F : Int → Int} {t bor rest bor2 : Int} {n : Nat} (h : RdI X X1 F t bor (n + 1)) (hn : n < 4) (hX : l5 X) (hF : fOk F) (ht : 0 ≤ t ∧ t ≤ 100000000) (hr : rest = X1 (n + 1) - t * F n + bor) (hb2 : bor2 = rest / 100000000) (e : X2 = uI X1 (n + 1) (rest - bor2 * 100000000)) : RdI X X2 F t bor2 n := by
  obtain ⟨h1, h2, h3, h4⟩ := h
  have hf := hF n (by omega) (by omega)
  have hx := hX (n + 1) (by omega) (by omega)
  have hx1 : X1 (n + 1) = X (n + 1) := h3 (n + 1) (by omega) (by omega)
  have hb := rd_in (x := X1 (n + 1)) (by rw [hx1]; exact hx) hf ht h4
  refine ⟨?_, fun q a b => ?_, fun q a b => ?_, by rw [hb2, hr]; exact hb.2.2.2⟩
  · rw [Lv_up (by omega) e]
    have hp : pS F (n + 1) = pS F n + F n * 10 ^ (8 * (3 - n)) := rfl
    rw [hp] at h1
    rw [show (8 * (4 - ((n : Int) + 1))).toNat = 8 * (3 - n) by omega, show 8 * (4 - n) = 8 * (3 - n) + 8 by omega, Int.pow_add, show (10 : Int) ^ 8 = 100000000 by decide]
    rw [show 8 * (4 - (n + 1)) = 8 * (3 - n) by omega] at h1
    generalize (10 : Int) ^ (8 * (3 - n)) = W at h1 ⊢
    have e1 : (rest - bor2 * 100000000 - X1 (n + 1)) * W = - (t * (F n * W)) + bor * W - bor2 * (W * 100000000) := by
      rw [hr, show X1 (n + 1) - t * F n + bor - bor2 * 100000000 - X1 (n + 1) = - (t * F n) + bor - bor2 * 100000000 by omega, Int.sub_mul, Int.add_mul, Int.neg_mul, Int.mul_assoc t, Int.mul_assoc bor2, Int.mul_comm 100000000]
    have e2 : t * (L4 F - (pS F n + F n * W)) = t * (L4 F - pS F n) - t * (F n * W) := by rw [← Int.mul_sub]; congr 1; omega
    rw [e1]
    rw [e2] at h1
    omega
  · by_cases hq : q = n + 1
    · rw [hq, e, uI_s]; omega
    · rw [e, uI_n hq]; exact h2 q (by omega) b
  · rw [e, uI_n (by omega)]; exact h3 q a (by omega)
theorem RdI.fin {X X1 X2 F : Int → Int} {t bor : Int} (h : RdI X X1 F t bor 0) (hX : l5 X) (h0 : 0 ≤ Lv X - t * L4 F) (ht : 0 ≤ t * L4 F) (e : X2 = uI X1 0 (X1 0 + bor)) : Lv X2 = Lv X - t * L4 F ∧ l5 X2 := by
  obtain ⟨h1, h2, h3, h4⟩ := h
  have e1 : Lv X2 = Lv X - t * L4 F := by
    rw [Lv_up (by decide) e, show X1 0 + bor - X1 0 = bor by omega]
    have : pS F 0 = 0 := rfl
    rw [this, Int.sub_zero] at h1
    exact h1
  refine ⟨e1, fun q a b => ?_⟩
  have lim : ∀ q : Int, 0 < q → q < 5 → 0 ≤ X2 q ∧ X2 q < 100000000 := fun q a b => by rw [e, uI_n (by omega)]; exact h2 q (by omega) b
  by_cases hq : q = 0
  · subst hq
    have a1 := lim 1 (by decide) (by decide)
    have a2 := lim 2 (by decide) (by decide)
    have a3 := lim 3 (by decide) (by decide)
    have a4 := lim 4 (by decide) (by decide)
    have b0 := hX 0 (by decide) (by decide)
    have b1 := hX 1 (by decide) (by decide)
    have b2 := hX 2 (by decide) (by decide)
    have b3 := hX 3 (by decide) (by decide)
    have b4 := hX 4 (by decide) (by decide)
    unfold Lv at e1 h0
    generalize t * L4 F = TB at *
    omega
  · exact lim q (by omega) b

set_option maxHeartbeats 4000000 in
set_option maxRecDepth 100000 in
/-- K_rd -/
theorem K_rd {p : Program} {l : Launch} {e : Env} {s : State} {m : MethodId} {args : Array Value} {below : List Frame} {meth : Method} {c : Code} {Q : State → Prop} {D : va_G} {cs : Nat → ClassId} {Z : (Nat → Prop) → State → Heap → Prop} {A : Nat → Prop}  (S : CallFix p m c c_Ca_reduce 9 s args wA "ArithmeticForms$Calculator") (hK : va_K D clsA (tysA cs) s) (hZo : fm_Zok Z) (tT : Nat) (hZc : ∀ A U H, Z A U H → Zc tT A U H) (hZ : Z A s s.heap) (hA : ∀ q, s.heap.size ≤ q → A q) (μ0 : fm_Mu) (k w lf on P : Nat) (X : Int → Int) (h a : Nat) (co v : Int) (F : Int → Int) (t : Int) (hX : l5 X) (hd : dF F v) (ht : 0 ≤ t ∧ t ≤ 100000000) (kk69 : ∀ (μ1 : fm_Mu) (i : Int) (bor : Int) (n : Nat) (X1 : Int → Int) (H : Heap) (locs : List Loc) (ls : Array Slot), (n = 0) → (RdI X X1 F t bor n) → (μ1 k = some (oE 1 [.int (iN ((P : Int))), .ref w, .ref lf, .ref on])) → (μ1 lf = some (lE cs 5 X1)) → (μ1 h = some (oE 2 [.int (iN (co)), .int (iN ((sgn v))), .int (iN ((tp v))), .int (iN ((nd (cN v) : Int))), .ref a])) → (μ1 a = some (lE cs 4 F)) → fm_O μ0 μ1 [lf] → lv_has ls 9 [(6, .int (iN (i))), (4, .long (jN (bor))), (0, .ref k), (1, .ref h), (2, .long (jN (t)))] → fm_W D clsA A s.heap μ1 H locs → W p l e ({ frames := 1, cells := 0, slots := 0, locals := 25 }) s m args below meth c H locs 0 0 Q (F0 m 69 ls [])) : ∀ (fu : Nat) (μ1 : fm_Mu) (i : Int) (bor : Int) (n : Nat) (X1 : Int → Int) (H : Heap) (locs : List Loc) (ls : Array Slot), i + 5 < (fu : Int) → (i = (n : Int) - 1 ∧ n ≤ 4) → (RdI X X1 F t bor n) → (μ1 k = some (oE 1 [.int (iN ((P : Int))), .ref w, .ref lf, .ref on])) → (μ1 lf = some (lE cs 5 X1)) → (μ1 h = some (oE 2 [.int (iN (co)), .int (iN ((sgn v))), .int (iN ((tp v))), .int (iN ((nd (cN v) : Int))), .ref a])) → (μ1 a = some (lE cs 4 F)) → fm_O μ0 μ1 [lf] → lv_has ls 9 [(6, .int (iN (i))), (4, .long (jN (bor))), (0, .ref k), (1, .ref h), (2, .long (jN (t)))] → fm_W D clsA A s.heap μ1 H locs → W p l e ({ frames := 1, cells := 0, slots := 0, locals := 25 }) s m args below meth c H locs 0 0 Q (F0 m 6 ls []) := by
  obtain ⟨hx, hb, hml, hown, hts⟩ := id S
  have hzc := hZc _ _ _ hZ
  intro fu
  induction fu with
  | zero =>
    intro μ1 i bor n X1 H locs ls hn hi hRd c_k c_lf c_h c_a hO0 hl hw
    exfalso; omega
  | succ fu ih =>
    intro μ1 i bor n X1 H locs ls hn hi hRd c_k c_lf c_h c_a hO0 hl hw
    refine lv_iload hx hb d_Ca_reduce_6 (lv_at hl 0 rfl) ?_
    refine fm_if_lt (tgt := 69) S (by omega) d_Ca_reduce_8 (by decide) (fun c1 => ?_) (fun c1 => ?_)
    · exact kk69 μ1 i bor n X1 _ _ _ (by omega) (hRd) c_k c_lf c_h c_a hO0 (lv_sub hl [0, 1, 2, 3, 4] rfl) hw
    · obtain ⟨n2, hn2⟩ : ∃ n2 : Nat, n = n2 + 1 := ⟨n - 1, by omega⟩
      subst hn2
      have hx1 : X1 (i + 1) = X (i + 1) := hRd.2.2.1 (i + 1) (by omega) (by omega)
      have hxx := hX (i + 1) (by omega) (by omega)
      have hff := hd.1 i (by omega) (by omega)
      have hrb := rd_in (x := X1 (i + 1)) (by rw [hx1]; exact hxx) hff ht hRd.2.2.2
      refine lv_aload_n hx hb d_Ca_reduce_11 rfl (lv_at hl 2 rfl) ?_
      refine fm_get S hK hw c_k i_Ca rfl 2 (by decide) (hts _ k101) (fun _ h => h) rfl d_Ca_reduce_12 ?_
      refine lv_iload hx hb d_Ca_reduce_15 (lv_at hl 0 rfl) ?_
      refine fm_iconst S d_Ca_reduce_17 ?_
      refine fm_iadd S d_Ca_reduce_18 ?_
      refine cl_lald S hK hw c_lf (by omega) d_Ca_reduce_19 ?_
      refine lv_lload_n hx hb d_Ca_reduce_20 rfl (lv_at hl 4 rfl) ?_
      refine lv_aload_n hx hb d_Ca_reduce_21 rfl (lv_at hl 3 rfl) ?_
      refine fm_get S hK hw c_h i_De rfl 4 (by decide) (hts _ k45) (fun _ h => h) rfl d_Ca_reduce_22 ?_
      refine lv_iload hx hb d_Ca_reduce_25 (lv_at hl 0 rfl) ?_
      refine cl_lald S hK hw c_a (by omega) d_Ca_reduce_27 ?_
      refine fm_lmul S d_Ca_reduce_28 ?_
      refine fm_lsub S d_Ca_reduce_29 ?_
      refine lv_lload hx hb d_Ca_reduce_30 (lv_at hl 1 rfl) ?_
      refine fm_ladd S d_Ca_reduce_32 ?_
      refine fm_topl (fun x2 hx2 => ?_)
      refine lv_lstore (lv' := [(7, .long (jN (x2))), (6, .int (iN (i))), (4, .long (jN (bor))), (0, .ref k), (1, .ref h), (2, .long (jN (t)))]) hx hb d_Ca_reduce_33 hl (by decide) rfl (fun ls hl => ?_)
      have hrj := hrb.2.2.1
      rw [← hx2] at hrj
      refine lv_lload hx hb d_Ca_reduce_35 (lv_at hl 0 rfl) ?_
      refine lv_ldc2 (v := jN 100000000) hx hb hown (hts _ k211) d_Ca_reduce_37 ?_
      refine fm_callSl (va_runS (As := [.long (jN (x2)), .long (jN (100000000))]) (rest := []) S (t_Ma_floorDiv l D cs Z hZo tT hZc μ1 _ x2 100000000 (by omega) (by omega) (by omega)) (va_cwS 2 hts (gS k212 k213 k4 k214) rfl rfl rfl (by decide +kernel) (by decide)) (fm_pre hZo hK hw hZ hA _) rfl rfl hl.1 rfl (lv_room (Nat.le_of_ble_eq_true rfl)) d_Ca_reduce_40 ⟨Nat.le_of_ble_eq_true rfl, Nat.le_of_ble_eq_true rfl⟩) (fun x4 q3 => ?_)
      refine lv_lstore (lv' := [(4, .long (jN (x4))), (7, .long (jN (x2))), (6, .int (iN (i))), (0, .ref k), (1, .ref h), (2, .long (jN (t)))]) hx hb d_Ca_reduce_43 hl (by decide) rfl (fun ls hl => ?_)
      refine lv_aload_n hx hb d_Ca_reduce_45 rfl (lv_at hl 3 rfl) ?_
      refine fm_get S hK hw c_k i_Ca rfl 2 (by decide) (hts _ k101) (fun _ h => h) rfl d_Ca_reduce_46 ?_
      refine lv_iload hx hb d_Ca_reduce_49 (lv_at hl 2 rfl) ?_
      refine fm_iconst S d_Ca_reduce_51 ?_
      refine fm_iadd S d_Ca_reduce_52 ?_
      refine lv_lload hx hb d_Ca_reduce_53 (lv_at hl 1 rfl) ?_
      refine lv_lload hx hb d_Ca_reduce_55 (lv_at hl 0 rfl) ?_
      refine lv_ldc2 (v := jN 100000000) hx hb hown (hts _ k211) d_Ca_reduce_57 ?_
      refine fm_lmul S d_Ca_reduce_60 ?_
      refine fm_lsub S d_Ca_reduce_61 ?_
      refine cl_last S hK hw c_lf (by omega) d_Ca_reduce_62 (fun F5 μ6 H locs eF5 hw hq hO => ?_)
      have k_k : μ6 k = some (oE 1 [.int (iN ((P : Int))), .ref w, .ref lf, .ref on]) := hO.at (nmc (fm_kn c_k c_lf rfl) nm0) c_k
      have k_h : μ6 h = some (oE 2 [.int (iN (co)), .int (iN ((sgn v))), .int (iN ((tp v))), .int (iN ((nd (cN v) : Int))), .ref a]) := hO.at (nmc (fm_kn c_h c_lf rfl) nm0) c_h
      have k_a : μ6 a = some (lE cs 4 F) := hO.at (nmc (fm_kn c_a c_lf rfl) nm0) c_a
      have k_lf : μ6 lf = some (lE cs 5 F5) := hq
      have hO0 := hO0.tr1 hO (by simp)
      clear c_k c_lf c_h c_a
      have c_k := k_k; clear k_k
      have c_h := k_h; clear k_h
      have c_a := k_a; clear k_a
      have c_lf := k_lf; clear k_lf
      clear hq hO
      refine lv_iinc (v := iN ((i + (-1)))) (lv' := [(6, .int (iN ((i + (-1))))), (4, .long (jN (x4))), (7, .long (jN (x2))), (0, .ref k), (1, .ref h), (2, .long (jN (t)))]) hx hb d_Ca_reduce_63 hl (k := 2) rfl (iN_add _ _) (by decide) rfl (fun ls hl => ?_)
      refine lv_goto (tgt := 6) hx hb d_Ca_reduce_66 (by decide) ?_
      exact ih μ6 (i + -1) x4 n2 F5 _ _ _ (by omega) (by omega) (RdI.step (X2 := F5) hRd (by omega) hX hd.1 ht (by rw [hx2, show i = (n2 : Int) by omega]) q3 (by rw [show (n2 : Int) = i by omega]; exact eF5)) c_k c_lf c_h c_a hO0 (lv_sub hl [0, 1, 3, 4, 5] rfl) hw

set_option maxHeartbeats 4000000 in
set_option maxRecDepth 100000 in
/-- reduce(b, t) -/
theorem t_Ca_reduce (l : Launch) (D : va_G) (cs : Nat → ClassId) (Z : (Nat → Prop) → State → Heap → Prop) (hZo : fm_Zok Z) (tT : Nat) (hZc : ∀ A U H, Z A U H → Zc tT A U H) (μ : fm_Mu) (sz : Nat) (k : Nat) (w : Nat) (lf : Nat) (on : Nat) (P : Nat) (X : Int → Int) (h : Nat) (a : Nat) (co : Int) (v : Int) (F : Int → Int) (t : Int) (hX : l5 X) (hd : dF F v) (hv : dB v) (ht : 0 ≤ t ∧ t ≤ 100000000) (h0 : 0 ≤ Lv X - t * (mN v : Int)) (c_k : μ k = some (oE 1 [.int (iN ((P : Int))), .ref w, .ref lf, .ref on])) (c_lf : μ lf = some (lE cs 5 X)) (c_h : μ h = some (oE 2 [.int (iN (co)), .int (iN ((sgn v))), .int (iN ((tp v))), .int (iN ((nd (cN v) : Int))), .ref a])) (c_a : μ a = some (lE cs 4 F)) : Met l y_Ca_reduce (Cond.code y_Ca_reduce c_Ca_reduce 9 none :: wA) ({ frames := 1, cells := 0, slots := 0, locals := 25 }) (fm_Pc D clsA (tysA cs) Z μ sz [.ref k, .ref h, .long (jN (t))]) (fm_Qv D clsA (tysA cs) μ sz (fun μ' => ∃ X' : Int → Int, μ' lf = some (lE cs 5 X') ∧ l5 X' ∧ Lv X' = Lv X - t * (mN v : Int) ∧ fm_O μ μ' [lf])) 0 0 (fm_A μ sz) := by
  refine cl_of (by decide +kernel) (Nat.le_of_ble_eq_true rfl) (fun p e s m below meth c S hr hlocks hnm hsz hw hK hZ hA ls hl => ?_)
  subst hsz
  replace S : CallFix p m c c_Ca_reduce 9 s _ wA "ArithmeticForms$Calculator" := S
  obtain ⟨hx, hb, hml, hown, hts⟩ := id S
  have hzc := hZc _ _ _ hZ
  have hO0 : fm_O μ μ [lf] := fm_O.rf
  have hl : lv_has ls 9 [(0, .ref k), (1, .ref h), (2, .long (jN (t)))] := hl
  refine fm_lconst0 S d_Ca_reduce_0 ?_
  refine lv_lstore (lv' := [(4, .long (jN (0))), (0, .ref k), (1, .ref h), (2, .long (jN (t)))]) hx hb d_Ca_reduce_1 hl (by decide) rfl (fun ls hl => ?_)
  refine fm_iconst S d_Ca_reduce_3 ?_
  refine lv_istore (lv' := [(6, .int (iN (3))), (4, .long (jN (0))), (0, .ref k), (1, .ref h), (2, .long (jN (t)))]) hx hb d_Ca_reduce_4 hl (by decide) rfl (fun ls hl => ?_)
  refine K_rd (Z := Z) S hK hZo tT hZc hZ hA μ k w lf on P X h a co v F t hX hd ht (fun μ1 i bor n X1 H locs ls hn0 hRd c_k c_lf c_h c_a hO0 hl hw => ?_) (20) μ 3 0 4 X _ _ _ (by omega) (by omega) (⟨by rw [pS_4]; simp, fun q p1 p2 => by omega, fun _ _ _ => rfl, by omega⟩) c_k c_lf c_h c_a hO0 (lv_sub hl [0, 1, 2, 3, 4] rfl) hw
  subst hn0
  refine lv_aload_n hx hb d_Ca_reduce_69 rfl (lv_at hl 2 rfl) ?_
  refine fm_get S hK hw c_k i_Ca rfl 2 (by decide) (hts _ k101) (fun _ h => h) rfl d_Ca_reduce_70 ?_
  refine fm_iconst S d_Ca_reduce_73 ?_
  refine lv_dup2_11 hx hb d_Ca_reduce_74 rfl rfl ?_
  refine cl_lald S hK hw c_lf (by omega) d_Ca_reduce_75 ?_
  refine lv_lload hx hb d_Ca_reduce_76 (lv_at hl 1 rfl) ?_
  refine fm_ladd S d_Ca_reduce_78 ?_
  refine cl_last S hK hw c_lf (by omega) d_Ca_reduce_79 (fun F2 μ3 H locs eF2 hw hq hO => ?_)
  have k_k : μ3 k = some (oE 1 [.int (iN ((P : Int))), .ref w, .ref lf, .ref on]) := hO.at (nmc (fm_kn c_k c_lf rfl) nm0) c_k
  have k_h : μ3 h = some (oE 2 [.int (iN (co)), .int (iN ((sgn v))), .int (iN ((tp v))), .int (iN ((nd (cN v) : Int))), .ref a]) := hO.at (nmc (fm_kn c_h c_lf rfl) nm0) c_h
  have k_a : μ3 a = some (lE cs 4 F) := hO.at (nmc (fm_kn c_a c_lf rfl) nm0) c_a
  have k_lf : μ3 lf = some (lE cs 5 F2) := hq
  have hO0 := hO0.tr1 hO (by simp)
  clear c_k c_lf c_h c_a
  have c_k := k_k; clear k_k
  have c_h := k_h; clear k_h
  have c_a := k_a; clear k_a
  have c_lf := k_lf; clear k_lf
  clear hq hO
  refine fm_vret S hr hlocks hK hw d_Ca_reduce_80 ?_
  have htf : 0 ≤ t * L4 F := Int.mul_nonneg ht.1 (L4_lt hd.1).1
  obtain ⟨g1, g2⟩ := hRd.fin (X2 := F2) hX (by rw [hd.2]; exact h0) htf eF2
  exact ⟨F2, c_lf, g2, by rw [g1, hd.2], hO0⟩

def stg (D B i : Int) : Int := if i = 0 then 100000000 * B else if i = 1 then (D + 100000000) * 1000000000000000000000000 else if i = 2 then (D + 10) * 1000000000000000000000000 else if i = 3 then (D + 1) * 1000000000000000000000000 else B
theorem gu_ok {L D B low t lo g g0 i : Int} (hi : 0 ≤ i) (hD : 10000001 ≤ D ∧ D ≤ 100000000) (hB : B = (D - 1) * 1000000000000000000000000 + low) (hlow : 0 ≤ low ∧ low < 1000000000000000000000000) (hL : L = t * 1000000000000000000000000 + lo) (hlo : 0 ≤ lo ∧ lo < 1000000000000000000000000) (h0 : 0 ≤ t) (hg0 : g0 = t / D) (hg : g = max 1 g0) (h1 : B ≤ L) (h2 : L < stg D B i) : 0 ≤ g ∧ g ≤ 100000000 ∧ 0 ≤ L - g * B ∧ L - g * B < stg D B (i + 1) := by
  have d1 := Int.mul_ediv_add_emod t D
  have d2 := Int.emod_nonneg t (show D ≠ 0 by omega)
  have d3 := Int.emod_lt_of_pos t (show 0 < D by omega)
  rw [← hg0] at d1
  have d4 : 0 ≤ g0 := by rw [hg0]; exact Int.ediv_nonneg h0 (by omega)
  by_cases hz : g0 = 0
  · have eg : g = 1 := by omega
    rw [hz, Int.mul_zero] at d1
    rw [eg, Int.one_mul]
    refine ⟨by omega, by omega, by omega, ?_⟩
    unfold stg
    split
    · omega
    · split
      · omega
      · split
        · omega
        · split <;> omega
  · have eg : g = g0 := by omega
    rw [eg]
    have y1 : g0 * B = (D * g0) * 1000000000000000000000000 - g0 * 1000000000000000000000000 + g0 * low := by
      rw [hB, Int.mul_add, ← Int.mul_assoc, Int.mul_sub, Int.mul_one, Int.sub_mul, Int.mul_comm g0 D]
    have y2 := Int.mul_nonneg d4 hlow.1
    have y3 : g0 * low ≤ g0 * 1000000000000000000000000 := Int.mul_le_mul_of_nonneg_left (by omega) d4
    have up : ∀ n : Int, n ≤ g0 → n * D ≤ D * g0 := fun n hn => by rw [Int.mul_comm D]; exact Int.mul_le_mul_of_nonneg_right hn (by omega)
    have bound : L - g0 * B < (D + g0) * 1000000000000000000000000 := by rw [y1]; omega
    have low0 : 0 ≤ L - g0 * B := by rw [y1]; omega
    unfold stg at h2 ⊢
    by_cases i0 : i = 0
    · rw [if_pos i0] at h2
      have gl : g0 < 100000000 := by
        rcases Int.lt_or_le g0 100000000 with q | q
        · exact q
        · have : 100000000 * B ≤ g0 * B := Int.mul_le_mul_of_nonneg_right q (by omega)
          omega
      rw [if_neg (by omega), if_pos (by omega)]
      exact ⟨d4, by omega, low0, by omega⟩
    · rw [if_neg i0] at h2
      rw [if_neg (by omega)]
      by_cases i1 : i = 1
      · rw [if_pos i1] at h2
        have gl : g0 ≤ 10 := by
          rcases Int.lt_or_le 10 g0 with q | q
          · have := up 11 (by omega); omega
          · exact q
        rw [if_neg (by omega), if_pos (by omega)]
        exact ⟨d4, by omega, low0, by omega⟩
      · rw [if_neg i1] at h2
        rw [if_neg (by omega)]
        by_cases i2 : i = 2
        · rw [if_pos i2] at h2
          have gl : g0 ≤ 1 := by
            rcases Int.lt_or_le 1 g0 with q | q
            · have := up 2 (by omega); omega
            · exact q
          rw [if_neg (by omega), if_pos (by omega)]
          exact ⟨d4, by omega, low0, by omega⟩
        · rw [if_neg i2] at h2
          rw [if_neg (by omega)]
          by_cases i3 : i = 3
          · rw [if_pos i3] at h2
            have gl : g0 ≤ 1 := by
              rcases Int.lt_or_le 1 g0 with q | q
              · have := up 2 (by omega); omega
              · exact q
            have g1 : g0 = 1 := by omega
            rw [if_neg (by omega)]
            refine ⟨d4, by omega, low0, ?_⟩
            rw [g1, Int.one_mul]; omega
          · rw [if_neg i3] at h2; omega
theorem dv_D {F : Int → Int} {v : Int} (hd : dF F v) (hv : dB v) (h0 : v ≠ 0) : 10000000 ≤ F 0 ∧ F 0 < 100000000 ∧ ∃ low : Int, (mN v : Int) = F 0 * 1000000000000000000000000 + low ∧ 0 ≤ low ∧ low < 1000000000000000000000000 := by
  have a0 := hd.1 0 (by decide) (by decide)
  have a1 := hd.1 1 (by decide) (by decide)
  have a2 := hd.1 2 (by decide) (by decide)
  have a3 := hd.1 3 (by decide) (by decide)
  have hm := mN_ge hv h0
  rw [p31] at hm
  have e := hd.2
  unfold L4 at e
  refine ⟨by omega, a0.2, F 1 * 10000000000000000 + F 2 * 100000000 + F 3, by omega, by omega, by omega⟩
theorem Lv_t {X : Int → Int} (h : l5 X) : ∃ lo : Int, Lv X = (X 0 * 100000000 + X 1) * 1000000000000000000000000 + lo ∧ 0 ≤ lo ∧ lo < 1000000000000000000000000 := by
  have a2 := h 2 (by decide) (by decide)
  have a3 := h 3 (by decide) (by decide)
  have a4 := h 4 (by decide) (by decide)
  exact ⟨X 2 * 10000000000000000 + X 3 * 100000000 + X 4, by unfold Lv; omega, by omega, by omega⟩

set_option maxHeartbeats 4000000 in
set_option maxRecDepth 100000 in
/-- K_tk -/
theorem K_tk {p : Program} {l : Launch} {e : Env} {s : State} {m : MethodId} {args : Array Value} {below : List Frame} {meth : Method} {c : Code} {Q : State → Prop} {D : va_G} {cs : Nat → ClassId} {Z : (Nat → Prop) → State → Heap → Prop} {A : Nat → Prop}  (S : CallFix p m c c_Ca_takeOut 9 s args wA "ArithmeticForms$Calculator") (hK : va_K D clsA (tysA cs) s) (hZo : fm_Zok Z) (tT : Nat) (hZc : ∀ A U H, Z A U H → Zc tT A U H) (hZ : Z A s s.heap) (hA : ∀ q, s.heap.size ≤ q → A q) (μ0 : fm_Mu) (k w lf on P : Nat) (X : Int → Int) (h a : Nat) (co v : Int) (F : Int → Int) (D1 low : Int) (hd : dF F v) (hv : dB v) (hD : 10000001 ≤ D1 ∧ D1 ≤ 100000000) (hB : (mN v : Int) = (D1 - 1) * 1000000000000000000000000 + low) (hlow : 0 ≤ low ∧ low < 1000000000000000000000000) (kk79 : ∀ (μ1 : fm_Mu) (i : Int) (tm : Int) (X1 : Int → Int) (H : Heap) (locs : List Loc) (ls : Array Slot), (l5 X1) → (Lv X1 + tm * (mN v : Int) = Lv X) → (Lv X1 < (mN v : Int)) → (0 ≤ tm) → (μ1 k = some (oE 1 [.int (iN ((P : Int))), .ref w, .ref lf, .ref on])) → (μ1 lf = some (lE cs 5 X1)) → (μ1 h = some (oE 2 [.int (iN (co)), .int (iN ((sgn v))), .int (iN ((tp v))), .int (iN ((nd (cN v) : Int))), .ref a])) → (μ1 a = some (lE cs 4 F)) → fm_O μ0 μ1 [lf] → lv_has ls 9 [(6, .int (iN (i))), (4, .long (jN (tm))), (2, .long (jN (D1))), (0, .ref k), (1, .ref h)] → fm_W D clsA A s.heap μ1 H locs → W p l e ({ frames := 2, cells := 0, slots := 0, locals := 53 }) s m args below meth c H locs 0 0 Q (F0 m 79 ls [])) : ∀ (fu : Nat) (μ1 : fm_Mu) (i : Int) (tm : Int) (X1 : Int → Int) (H : Heap) (locs : List Loc) (ls : Array Slot), 30 - i < (fu : Int) → (0 ≤ i ∧ i ≤ 20 ∧ 0 ≤ tm) → (l5 X1) → (Lv X1 + tm * (mN v : Int) = Lv X) → (Lv X1 < stg D1 (mN v : Int) i) → (μ1 k = some (oE 1 [.int (iN ((P : Int))), .ref w, .ref lf, .ref on])) → (μ1 lf = some (lE cs 5 X1)) → (μ1 h = some (oE 2 [.int (iN (co)), .int (iN ((sgn v))), .int (iN ((tp v))), .int (iN ((nd (cN v) : Int))), .ref a])) → (μ1 a = some (lE cs 4 F)) → fm_O μ0 μ1 [lf] → lv_has ls 9 [(6, .int (iN (i))), (4, .long (jN (tm))), (2, .long (jN (D1))), (0, .ref k), (1, .ref h)] → fm_W D clsA A s.heap μ1 H locs → W p l e ({ frames := 2, cells := 0, slots := 0, locals := 53 }) s m args below meth c H locs 0 0 Q (F0 m 19 ls []) := by
  obtain ⟨hx, hb, hml, hown, hts⟩ := id S
  have hzc := hZc _ _ _ hZ
  intro fu
  induction fu with
  | zero =>
    intro μ1 i tm X1 H locs ls hn hi h5 heq hst c_k c_lf c_h c_a hO0 hl hw
    exfalso; omega
  | succ fu ih =>
    intro μ1 i tm X1 H locs ls hn hi h5 heq hst c_k c_lf c_h c_a hO0 hl hw
    refine lv_iload hx hb d_Ca_takeOut_19 (lv_at hl 0 rfl) ?_
    refine fm_bipush S d_Ca_takeOut_21 (by decide) ?_
    refine fm_icmp_ge (tgt := 79) S (by omega) (by omega) d_Ca_takeOut_23 (by decide) (fun c1 => ?_) (fun c1 => ?_)
    · exact kk79 μ1 i tm X1 _ _ _ (h5) (heq) (by unfold stg at hst; rw [if_neg (by omega), if_neg (by omega), if_neg (by omega), if_neg (by omega)] at hst; exact hst) (by omega) c_k c_lf c_h c_a hO0 (lv_sub hl [0, 1, 2, 3, 4] rfl) hw
    · refine lv_aload_n hx hb d_Ca_takeOut_26 rfl (lv_at hl 3 rfl) ?_
      refine lv_aload_n hx hb d_Ca_takeOut_27 rfl (lv_at hl 4 rfl) ?_
      refine fm_calli (va_runV (As := [.ref h]) (rest := []) S (t_Ca_reaches l D cs Z hZo tT hZc μ1 _ k w lf on P X1 h a co v F (h5) hd hv c_k c_lf c_h c_a) (cwV 1 hts (gV k238 k240 ks7 k3 k241) rfl rfl rfl (by decide +kernel) (by decide)) (fm_preV hZo hK hw hZ hA c_k rfl _) rfl rfl hl.1 rfl (lv_room (Nat.le_of_ble_eq_true rfl)) d_Ca_takeOut_28 ⟨Nat.le_of_ble_eq_true rfl, Nat.le_of_ble_eq_true rfl⟩) hw hA (fun x3 μ4 H locs q2 hw => ?_)
      obtain ⟨q2, hmu⟩ := q2
      rw [hmu] at hw
      clear hmu
      have hr01 : x3 = 0 ∨ x3 = 1 := by rw [q2]; split <;> simp
      refine fm_if_eq (tgt := 79) S (by omega) d_Ca_takeOut_31 (by decide) (fun c5 => ?_) (fun c5 => ?_)
      · exact kk79 μ1 i tm X1 _ _ _ (h5) (heq) (Classical.byContradiction fun q => by rw [if_pos (show (mN v : Int) ≤ Lv X1 by omega)] at q2; omega) (by omega) c_k c_lf c_h c_a hO0 (lv_sub hl [0, 1, 2, 3, 4] rfl) hw
      · have hBL : (mN v : Int) ≤ Lv X1 := Classical.byContradiction fun q => by rw [if_neg q] at q2; omega
        obtain ⟨lo, hLo1, hLo2⟩ := Lv_t h5
        have hx0 := h5 0 (by decide) (by decide)
        have hx1 := h5 1 (by decide) (by decide)
        refine fm_lconst1 S d_Ca_takeOut_34 ?_
        refine lv_aload_n hx hb d_Ca_takeOut_35 rfl (lv_at hl 3 rfl) ?_
        refine fm_get S hK hw c_k i_Ca rfl 2 (by decide) (hts _ k101) (fun _ h => h) rfl d_Ca_takeOut_36 ?_
        refine fm_iconst S d_Ca_takeOut_39 ?_
        refine cl_lald S hK hw c_lf (by omega) d_Ca_takeOut_40 ?_
        refine lv_ldc2 (v := jN 100000000) hx hb hown (hts _ k211) d_Ca_takeOut_41 ?_
        refine fm_lmul S d_Ca_takeOut_44 ?_
        refine lv_aload_n hx hb d_Ca_takeOut_45 rfl (lv_at hl 3 rfl) ?_
        refine fm_get S hK hw c_k i_Ca rfl 2 (by decide) (hts _ k101) (fun _ h => h) rfl d_Ca_takeOut_46 ?_
        refine fm_iconst S d_Ca_takeOut_49 ?_
        refine cl_lald S hK hw c_lf (by omega) d_Ca_takeOut_50 ?_
        refine fm_ladd S d_Ca_takeOut_51 ?_
        refine lv_lload_n hx hb d_Ca_takeOut_52 rfl (lv_at hl 2 rfl) ?_
        have hdv0 := Int.ediv_nonneg (show 0 ≤ X1 0 * 100000000 + X1 1 by omega) (show 0 ≤ D1 by omega)
        have hdv1 := Int.ediv_le_self D1 (show 0 ≤ X1 0 * 100000000 + X1 1 by omega)
        refine fm_ldivN S (by omega) d_Ca_takeOut_53 ?_
        refine fm_callSl (va_runS (As := [.long (jN (1)), .long (jN (((((X1 0) * 100000000) + (X1 1)) / D1)))]) (rest := []) S (t_Ma_max2 l D cs Z hZo tT hZc μ1 _ 1 ((((X1 0) * 100000000) + (X1 1)) / D1) (by omega) (by omega)) (va_cwS 2 hts (gS k235 k236 k4 k237) rfl rfl rfl (by decide +kernel) (by decide)) (fm_pre hZo hK hw hZ hA _) rfl rfl hl.1 rfl (lv_room (Nat.le_of_ble_eq_true rfl)) d_Ca_takeOut_54 ⟨Nat.le_of_ble_eq_true rfl, Nat.le_of_ble_eq_true rfl⟩) (fun x7 q6 => ?_)
        obtain ⟨u1, u2, u3, u4⟩ := gu_ok (by omega) hD hB hlow hLo1 hLo2 (by omega) rfl q6 hBL hst
        refine lv_lstore (lv' := [(7, .long (jN (x7))), (6, .int (iN (i))), (4, .long (jN (tm))), (2, .long (jN (D1))), (0, .ref k), (1, .ref h)]) hx hb d_Ca_takeOut_57 hl (by decide) rfl (fun ls hl => ?_)
        refine lv_aload_n hx hb d_Ca_takeOut_59 rfl (lv_at hl 4 rfl) ?_
        refine lv_aload_n hx hb d_Ca_takeOut_60 rfl (lv_at hl 5 rfl) ?_
        refine lv_lload hx hb d_Ca_takeOut_61 (lv_at hl 0 rfl) ?_
        refine fm_callv (va_runV (As := [.ref h, .long (jN (x7))]) (rest := []) S (t_Ca_reduce l D cs Z hZo tT hZc μ1 _ k w lf on P X1 h a co v F x7 (h5) hd hv (by omega) (u3) c_k c_lf c_h c_a) (cwV 2 hts (gV k242 k244 ks8 k3 k245) rfl rfl rfl (by decide +kernel) (by decide)) (fm_preV hZo hK hw hZ hA c_k rfl _) rfl rfl hl.1 rfl (lv_room (Nat.le_of_ble_eq_true rfl)) d_Ca_takeOut_63 ⟨Nat.le_of_ble_eq_true rfl, Nat.le_of_ble_eq_true rfl⟩) hw hA (fun μ9 H locs q8 hw => ?_)
        obtain ⟨X10, hq, hl5X10, hLvX10, hO⟩ := q8
        have k_k : μ9 k = some (oE 1 [.int (iN ((P : Int))), .ref w, .ref lf, .ref on]) := hO.at (nmc (fm_kn c_k c_lf rfl) nm0) c_k
        have k_h : μ9 h = some (oE 2 [.int (iN (co)), .int (iN ((sgn v))), .int (iN ((tp v))), .int (iN ((nd (cN v) : Int))), .ref a]) := hO.at (nmc (fm_kn c_h c_lf rfl) nm0) c_h
        have k_a : μ9 a = some (lE cs 4 F) := hO.at (nmc (fm_kn c_a c_lf rfl) nm0) c_a
        have k_lf : μ9 lf = some (lE cs 5 X10) := hq
        have hO0 := hO0.tr1 hO (by simp)
        clear c_k c_lf c_h c_a
        have c_k := k_k; clear k_k
        have c_h := k_h; clear k_h
        have c_a := k_a; clear k_a
        have c_lf := k_lf; clear k_lf
        clear hq hO
        refine lv_lload hx hb d_Ca_takeOut_66 (lv_at hl 2 rfl) ?_
        refine lv_lload hx hb d_Ca_takeOut_68 (lv_at hl 0 rfl) ?_
        refine fm_ladd S d_Ca_takeOut_70 ?_
        refine fm_topl (fun x11 hx11 => ?_)
        refine lv_lstore (lv' := [(4, .long (jN (x11))), (7, .long (jN (x7))), (6, .int (iN (i))), (2, .long (jN (D1))), (0, .ref k), (1, .ref h)]) hx hb d_Ca_takeOut_71 hl (by decide) rfl (fun ls hl => ?_)
        refine lv_iinc (v := iN ((i + 1))) (lv' := [(6, .int (iN ((i + 1)))), (4, .long (jN (x11))), (7, .long (jN (x7))), (2, .long (jN (D1))), (0, .ref k), (1, .ref h)]) hx hb d_Ca_takeOut_73 hl (k := 2) rfl (iN_add _ _) (by decide) rfl (fun ls hl => ?_)
        refine lv_goto (tgt := 19) hx hb d_Ca_takeOut_76 (by decide) ?_
        exact ih μ9 (i + 1) x11 X10 _ _ _ (by omega) (by omega) (hl5X10) (by rw [hLvX10, hx11, Int.add_mul]; omega) (by rw [hLvX10]; exact u4) c_k c_lf c_h c_a hO0 (lv_sub hl [0, 1, 3, 4, 5] rfl) hw

set_option maxHeartbeats 4000000 in
set_option maxRecDepth 100000 in
/-- takeOut(b) -/
theorem t_Ca_takeOut (l : Launch) (D : va_G) (cs : Nat → ClassId) (Z : (Nat → Prop) → State → Heap → Prop) (hZo : fm_Zok Z) (tT : Nat) (hZc : ∀ A U H, Z A U H → Zc tT A U H) (μ : fm_Mu) (sz : Nat) (k : Nat) (w : Nat) (lf : Nat) (on : Nat) (P : Nat) (X : Int → Int) (h : Nat) (a : Nat) (co : Int) (v : Int) (F : Int → Int) (hX : l5 X) (hd : dF F v) (hv : dB v) (hv0 : v ≠ 0) (hXB : Lv X < 100000000 * (mN v : Int)) (c_k : μ k = some (oE 1 [.int (iN ((P : Int))), .ref w, .ref lf, .ref on])) (c_lf : μ lf = some (lE cs 5 X)) (c_h : μ h = some (oE 2 [.int (iN (co)), .int (iN ((sgn v))), .int (iN ((tp v))), .int (iN ((nd (cN v) : Int))), .ref a])) (c_a : μ a = some (lE cs 4 F)) : Met l y_Ca_takeOut (Cond.code y_Ca_takeOut c_Ca_takeOut 9 (some .long) :: wA) ({ frames := 2, cells := 0, slots := 0, locals := 53 }) (fm_Pc D clsA (tysA cs) Z μ sz [.ref k, .ref h]) (fm_Ql D clsA (tysA cs) μ sz (fun z μ' => ∃ X' : Int → Int, μ' lf = some (lE cs 5 X') ∧ l5 X' ∧ Lv X' + z * (mN v : Int) = Lv X ∧ Lv X' < (mN v : Int) ∧ (0 ≤ z ∧ z < 100000000) ∧ fm_O μ μ' [lf])) 0 0 (fm_A μ sz) := by
  refine cl_of (by decide +kernel) (Nat.le_of_ble_eq_true rfl) (fun p e s m below meth c S hr hlocks hnm hsz hw hK hZ hA ls hl => ?_)
  subst hsz
  replace S : CallFix p m c c_Ca_takeOut 9 s _ wA "ArithmeticForms$Calculator" := S
  obtain ⟨hx, hb, hml, hown, hts⟩ := id S
  have hzc := hZc _ _ _ hZ
  have hO0 : fm_O μ μ [lf] := fm_O.rf
  have hl : lv_has ls 9 [(0, .ref k), (1, .ref h)] := hl
  obtain ⟨hf1, hf2, low, hlw, hlow⟩ := dv_D hd hv hv0
  refine fm_lconst1 S d_Ca_takeOut_0 ?_
  refine lv_aload_n hx hb d_Ca_takeOut_1 rfl (lv_at hl 1 rfl) ?_
  refine fm_get S hK hw c_h i_De rfl 4 (by decide) (hts _ k45) (fun _ h => h) rfl d_Ca_takeOut_2 ?_
  refine fm_iconst S d_Ca_takeOut_5 ?_
  refine cl_lald S hK hw c_a (by omega) d_Ca_takeOut_6 ?_
  refine fm_lconst1 S d_Ca_takeOut_7 ?_
  refine fm_ladd S d_Ca_takeOut_8 ?_
  refine fm_callSl (va_runS (As := [.long (jN (1)), .long (jN (((F 0) + 1)))]) (rest := []) S (t_Ma_max2 l D cs Z hZo tT hZc μ _ 1 ((F 0) + 1) (by omega) (by omega)) (va_cwS 2 hts (gS k235 k236 k4 k237) rfl rfl rfl (by decide +kernel) (by decide)) (fm_pre hZo hK hw hZ hA _) rfl rfl hl.1 rfl (lv_room (Nat.le_of_ble_eq_true rfl)) d_Ca_takeOut_9 ⟨Nat.le_of_ble_eq_true rfl, Nat.le_of_ble_eq_true rfl⟩) (fun x2 q1 => ?_)
  refine lv_lstore_n (lv' := [(2, .long (jN (x2))), (0, .ref k), (1, .ref h)]) hx hb d_Ca_takeOut_12 rfl hl (by decide) rfl (fun ls hl => ?_)
  refine fm_lconst0 S d_Ca_takeOut_13 ?_
  refine lv_lstore (lv' := [(4, .long (jN (0))), (2, .long (jN (x2))), (0, .ref k), (1, .ref h)]) hx hb d_Ca_takeOut_14 hl (by decide) rfl (fun ls hl => ?_)
  refine fm_iconst S d_Ca_takeOut_16 ?_
  refine lv_istore (lv' := [(6, .int (iN (0))), (4, .long (jN (0))), (2, .long (jN (x2))), (0, .ref k), (1, .ref h)]) hx hb d_Ca_takeOut_17 hl (by decide) rfl (fun ls hl => ?_)
  refine K_tk (Z := Z) S hK hZo tT hZc hZ hA μ k w lf on P X h a co v F x2 low hd hv (by omega) (by omega) hlow (fun μ3 i tm X1 H locs ls h5 heq hlt htm0 c_k c_lf c_h c_a hO0 hl hw => ?_) (40) μ 0 0 X _ _ _ (by omega) (by omega) (hX) (by omega) (by unfold stg; rw [if_pos rfl]; exact hXB) c_k c_lf c_h c_a hO0 (lv_sub hl [0, 1, 2, 3, 4] rfl) hw
  refine lv_lload hx hb d_Ca_takeOut_79 (lv_at hl 1 rfl) ?_
  refine fm_lret S hr hlocks hK hw d_Ca_takeOut_81 ?_
  refine ⟨X1, c_lf, h5, heq, hlt, ⟨htm0, ?_⟩, hO0⟩
  have hx0 : 0 ≤ Lv X1 := by
    have a0 := h5 0 (by decide) (by decide)
    have a1 := h5 1 (by decide) (by decide)
    have a2 := h5 2 (by decide) (by decide)
    have a3 := h5 3 (by decide) (by decide)
    have a4 := h5 4 (by decide) (by decide)
    unfold Lv; omega
  rcases Int.lt_or_le tm 100000000 with q | q
  · exact q
  · have : 100000000 * (mN v : Int) ≤ tm * (mN v : Int) := Int.mul_le_mul_of_nonneg_right q (by omega)
    omega
