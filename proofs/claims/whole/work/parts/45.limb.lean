-- LIMBS (own work): four limbs of eight digits, the first digit first
def L4 (F : Int → Int) : Int := F 0 * 1000000000000000000000000 + F 1 * 10000000000000000 + F 2 * 100000000 + F 3
def fOk (F : Int → Int) : Prop := ∀ q : Int, 0 ≤ q → q < 4 → 0 ≤ F q ∧ F q < 100000000
/-- digit i of the 32-digit number N, from the highest on -/
def dgN (N : Nat) (i : Int) : Int := if i < 0 ∨ 32 ≤ i then 0 else ((N / 10 ^ (31 - i.toNat) % 10 : Nat) : Int)
theorem dgN_in (N : Nat) (i : Int) : 0 ≤ dgN N i ∧ dgN N i ≤ 9 := by unfold dgN; split <;> omega
theorem lemX {hi f k : Nat} (hk : k ≤ 7) : (hi * 10 ^ 8 + f) / 10 ^ k % 10 = f / 10 ^ k % 10 := by
  have e : 10 ^ 8 = 10 ^ k * (10 * 10 ^ (7 - k)) := by
    rw [show (8 : Nat) = k + (1 + (7 - k)) by omega, Nat.pow_add, Nat.pow_add]
  rw [e, show hi * (10 ^ k * (10 * 10 ^ (7 - k))) + f = f + 10 ^ k * (10 * (10 ^ (7 - k) * hi)) by rw [Nat.add_comm, Nat.mul_comm hi, Nat.mul_assoc, Nat.mul_assoc], Nat.add_mul_div_left _ _ (p10N k), Nat.add_mul_mod_self_left]
theorem lemA {hi f lo k m : Nat} (hlo : lo < 10 ^ m) (hk : k ≤ 7) : ((hi * 10 ^ 8 + f) * 10 ^ m + lo) / 10 ^ (m + k) % 10 = f / 10 ^ k % 10 := by
  rw [Nat.pow_add, ← Nat.div_div_eq_div_mul, Nat.add_comm, Nat.mul_comm _ (10 ^ m), Nat.add_mul_div_left _ _ (p10N m), Nat.div_eq_of_lt hlo, Nat.zero_add, lemX hk]
theorem lemB {hi f lo e m : Nat} (hlo : lo < 10 ^ m) (he : e ≤ 8) : ((hi * 10 ^ 8 + f) * 10 ^ m + lo) % 10 ^ (m + e) = f % 10 ^ e * 10 ^ m + lo := by
  have e8 : 10 ^ 8 = 10 ^ e * 10 ^ (8 - e) := by rw [← Nat.pow_add]; congr 1; omega
  have h1 : ((hi * 10 ^ 8 + f) * 10 ^ m + lo) % 10 ^ m = lo := by
    rw [Nat.add_comm, Nat.mul_comm _ (10 ^ m), Nat.add_mul_mod_self_left, Nat.mod_eq_of_lt hlo]
  have h2 : ((hi * 10 ^ 8 + f) * 10 ^ m + lo) / 10 ^ m = hi * 10 ^ 8 + f := by
    rw [Nat.add_comm, Nat.mul_comm _ (10 ^ m), Nat.add_mul_div_left _ _ (p10N m), Nat.div_eq_of_lt hlo, Nat.zero_add]
  rw [Nat.pow_add, Nat.mod_mul, h1, h2, e8, show hi * (10 ^ e * 10 ^ (8 - e)) + f = f + 10 ^ e * (10 ^ (8 - e) * hi) by rw [Nat.add_comm, Nat.mul_comm hi, Nat.mul_assoc], Nat.add_mul_mod_self_left, Nat.mul_comm (10 ^ m), Nat.add_comm]
/-- limb j of N, what stands above and below it -/
theorem lim_split {F : Int → Int} {N : Nat} (hF : fOk F) (hN : L4 F = N) {j : Int} (h0 : 0 ≤ j) (h4 : j < 4) : ∃ hi lo f : Nat, F j = f ∧ f < 10 ^ 8 ∧ lo < 10 ^ (8 * (3 - j)).toNat ∧ N = (hi * 10 ^ 8 + f) * 10 ^ (8 * (3 - j)).toNat + lo ∧ (lo : Int) = (if j = 0 then F 1 * 10000000000000000 + F 2 * 100000000 + F 3 else if j = 1 then F 2 * 100000000 + F 3 else if j = 2 then F 3 else 0) ∧ (hi : Int) = (if j = 0 then 0 else if j = 1 then F 0 else if j = 2 then F 0 * 100000000 + F 1 else F 0 * 10000000000000000 + F 1 * 100000000 + F 2) := by
  have a0 := hF 0 (by decide) (by decide)
  have a1 := hF 1 (by decide) (by decide)
  have a2 := hF 2 (by decide) (by decide)
  have a3 := hF 3 (by decide) (by decide)
  unfold L4 at hN
  rcases (show j = 0 ∨ j = 1 ∨ j = 2 ∨ j = 3 by omega) with h | h | h | h <;> subst h
  · refine ⟨0, (F 1 * 10000000000000000 + F 2 * 100000000 + F 3).toNat, (F 0).toNat, ?_, ?_, ?_, ?_, ?_, ?_⟩
    · omega
    · rw [show (10 : Nat) ^ 8 = 100000000 by decide]; omega
    · rw [show (10 : Nat) ^ (8 * (3 - (0 : Int))).toNat = 1000000000000000000000000 by decide]; omega
    · rw [show (10 : Nat) ^ (8 * (3 - (0 : Int))).toNat = 1000000000000000000000000 by decide]; omega
    · rw [if_pos rfl]; omega
    · rw [if_pos rfl]; rfl
  · refine ⟨(F 0).toNat, (F 2 * 100000000 + F 3).toNat, (F 1).toNat, ?_, ?_, ?_, ?_, ?_, ?_⟩
    · omega
    · rw [show (10 : Nat) ^ 8 = 100000000 by decide]; omega
    · rw [show (10 : Nat) ^ (8 * (3 - (1 : Int))).toNat = 10000000000000000 by decide]; omega
    · rw [show (10 : Nat) ^ (8 * (3 - (1 : Int))).toNat = 10000000000000000 by decide, show (10 : Nat) ^ 8 = 100000000 by decide]; omega
    · rw [if_neg (by decide), if_pos rfl]; omega
    · rw [if_neg (by decide), if_pos rfl]; omega
  · refine ⟨(F 0 * 100000000 + F 1).toNat, (F 3).toNat, (F 2).toNat, ?_, ?_, ?_, ?_, ?_, ?_⟩
    · omega
    · rw [show (10 : Nat) ^ 8 = 100000000 by decide]; omega
    · rw [show (10 : Nat) ^ (8 * (3 - (2 : Int))).toNat = 100000000 by decide]; omega
    · rw [show (10 : Nat) ^ (8 * (3 - (2 : Int))).toNat = 100000000 by decide, show (10 : Nat) ^ 8 = 100000000 by decide]; omega
    · rw [if_neg (by decide), if_neg (by decide), if_pos rfl]; omega
    · rw [if_neg (by decide), if_neg (by decide), if_pos rfl]; omega
  · refine ⟨(F 0 * 10000000000000000 + F 1 * 100000000 + F 2).toNat, 0, (F 3).toNat, ?_, ?_, ?_, ?_, ?_, ?_⟩
    · omega
    · rw [show (10 : Nat) ^ 8 = 100000000 by decide]; omega
    · exact p10N _
    · rw [show (10 : Nat) ^ (8 * (3 - (3 : Int))).toNat = 1 by decide, show (10 : Nat) ^ 8 = 100000000 by decide]; omega
    · rw [if_neg (by decide), if_neg (by decide), if_neg (by decide)]; rfl
    · rw [if_neg (by decide), if_neg (by decide), if_neg (by decide)]; omega
theorem lim_dig {F : Int → Int} {N : Nat} (hF : fOk F) (hN : L4 F = N) {i : Int} (h0 : 0 ≤ i) (h32 : i < 32) : F (i / 8) / 10 ^ (7 - i % 8).toNat % 10 = dgN N i := by
  obtain ⟨hi, lo, f, e1, e2, e3, e4, -, -⟩ := lim_split hF hN (j := i / 8) (by omega) (by omega)
  unfold dgN
  rw [if_neg (by omega), e1, e4, show 31 - i.toNat = (8 * (3 - i / 8)).toNat + (7 - i % 8).toNat by omega, lemA e3 (by omega), ← p10c]
  rfl
theorem L4_lt {F : Int → Int} (hF : fOk F) : 0 ≤ L4 F ∧ L4 F < 100000000000000000000000000000000 := by
  have a0 := hF 0 (by decide) (by decide)
  have a1 := hF 1 (by decide) (by decide)
  have a2 := hF 2 (by decide) (by decide)
  have a3 := hF 3 (by decide) (by decide)
  unfold L4
  omega
theorem p32 : (10 : Nat) ^ 32 = 100000000000000000000000000000000 := by decide
theorem p31 : (10 : Nat) ^ 31 = 10000000000000000000000000000000 := by decide
-- the lowest digits of what is whole
theorem low_step (N i : Nat) : ((N * 10 ^ (i + 1) / 10 ^ 32 : Nat) : Int) = 10 * ((N * 10 ^ i / 10 ^ 32 : Nat) : Int) + dgN N i := by
  unfold dgN
  by_cases h : i < 32
  · rw [if_neg (by omega)]
    have e1 : N * 10 ^ (i + 1) / 10 ^ 32 = N / 10 ^ (31 - i) := by
      rw [show 10 ^ 32 = 10 ^ (31 - i) * 10 ^ (i + 1) by rw [← Nat.pow_add]; congr 1; omega, Nat.mul_div_mul_right _ _ (p10N _)]
    have e2 : N * 10 ^ i / 10 ^ 32 = N / 10 ^ (31 - i) / 10 := by
      rw [show 10 ^ 32 = 10 ^ (31 - i) * 10 * 10 ^ i by rw [← Nat.pow_succ, ← Nat.pow_add]; congr 1; omega, Nat.mul_div_mul_right _ _ (p10N _), Nat.div_div_eq_div_mul]
    rw [e1, e2, show ((i : Int)).toNat = i by omega]
    omega
  · rw [if_pos (by omega)]
    have e1 : N * 10 ^ (i + 1) / 10 ^ 32 = N * 10 ^ (i + 1 - 32) := by
      rw [show 10 ^ (i + 1) = 10 ^ (i + 1 - 32) * 10 ^ 32 by rw [← Nat.pow_add]; congr 1; omega, ← Nat.mul_assoc, Nat.mul_div_cancel _ (p10N _)]
    have e2 : N * 10 ^ i / 10 ^ 32 = N * 10 ^ (i - 32) := by
      rw [show 10 ^ i = 10 ^ (i - 32) * 10 ^ 32 by rw [← Nat.pow_add]; congr 1; omega, ← Nat.mul_assoc, Nat.mul_div_cancel _ (p10N _)]
    rw [e1, e2, show i + 1 - 32 = (i - 32) + 1 by omega, Nat.pow_succ]
    have := Nat.mul_assoc N (10 ^ (i - 32)) 10
    omega
theorem low_mod {X k : Nat} {d : Int} (hd : 0 ≤ d ∧ d ≤ 9) : ((X % 10 ^ k : Nat) : Int) * 10 + d = (((10 * X + d.toNat) % 10 ^ (k + 1) : Nat) : Int) := by
  have e : (10 * X + d.toNat) % 10 ^ (k + 1) = 10 * (X % 10 ^ k) + d.toNat := by
    rw [Nat.pow_succ, Nat.mul_comm (10 ^ k) 10, Nat.mod_mul]
    have h1 : (10 * X + d.toNat) % 10 = d.toNat := by omega
    have h2 : (10 * X + d.toNat) / 10 = X := by omega
    rw [h1, h2]; omega
  rw [e]; omega
-- a decimal's mantissa
def tp (v : Int) : Int := if v = 0 then 0 else (nd (cN v) : Int) + cX v - 1
def mN (v : Int) : Nat := cN v * 10 ^ (32 - nd (cN v))
def dB (v : Int) : Prop := nd (cN v) ≤ 31 ∧ (v = 0 ∨ (-99 ≤ tp v ∧ tp v ≤ 98))
theorem mN_0 : mN 0 = 0 := by unfold mN; rw [cN_0, Nat.zero_mul]
theorem tp_0 : tp 0 = 0 := by unfold tp; rw [if_pos rfl]
theorem dB_0 : dB 0 := ⟨by rw [nz_0]; decide, Or.inl rfl⟩
theorem mN_lt {v : Int} (h : dB v) : mN v < 10 ^ 32 := by
  have h1 := nd_lt (cN v)
  have h2 := h.1
  unfold mN
  calc cN v * 10 ^ (32 - nd (cN v)) < 10 ^ nd (cN v) * 10 ^ (32 - nd (cN v)) := Nat.mul_lt_mul_of_pos_right h1 (p10N _)
    _ = 10 ^ 32 := by rw [← Nat.pow_add]; congr 1; omega
theorem mN_ge {v : Int} (h : dB v) (h0 : v ≠ 0) : 10 ^ 31 ≤ mN v := by
  have hc := cN_nz h0
  have h1 := nd_ge hc
  have h2 := h.1
  have h3 := nd_pos hc
  unfold mN
  calc 10 ^ 31 = 10 ^ (nd (cN v) - 1) * 10 ^ (32 - nd (cN v)) := by rw [← Nat.pow_add]; congr 1; omega
    _ ≤ _ := Nat.mul_le_mul_right _ h1
theorem mN_z {v : Int} (h : dB v) : mN v = 0 ↔ v = 0 := ⟨fun e => Classical.byContradiction fun q => by have := mN_ge h q; rw [e] at this; exact absurd this (by decide), fun e => by rw [e, mN_0]⟩
theorem dB.t {v : Int} (h : dB v) : -99 ≤ tp v ∧ tp v ≤ 98 := by
  rcases h.2 with e | e
  · rw [e, tp_0]; decide
  · exact e
theorem abs_l {v : Int} (h : dB v) : v.natAbs = mN v * 10 ^ (tp v + 269).toNat := by
  by_cases h0 : v = 0
  · rw [h0, mN_0, Nat.zero_mul]; rfl
  · have h1 := cN_back h0
    have h2 := h.t
    have h3 := h.1
    have h4 := cX_ge (v := v)
    unfold mN
    rw [← h1, Nat.mul_assoc, ← Nat.pow_add]
    congr 2
    unfold tp at h2 ⊢
    rw [if_neg h0] at h2 ⊢
    omega
theorem dB.b {v : Int} (h : dB v) : vB v := by
  have h1 := h.t
  have h2 := h.1
  unfold vB
  unfold tp at h1
  split at h1
  · rename_i e; subst e; rw [nz_0]; exact (by decide)
  · omega
/-- the decimal of a 32-digit mantissa N, sign sg, its first digit counting 10^t -/
theorem mkD {N : Nat} {sg t v : Int} (h1 : 10 ^ 31 ≤ N) (h2 : N < 10 ^ 32) (hs : sg = 1 ∨ sg = -1) (ht : -99 ≤ t ∧ t ≤ 98) (hv : v = sg * ((N * 10 ^ (t + 269).toNat : Nat) : Int)) : v ≠ 0 ∧ sgn v = sg ∧ tp v = t ∧ nd (cN v) = 32 - tz N ∧ tz N < 32 ∧ mN v = N := by
  have hn : nd N = 32 := nd_uniq (k := 31) h1 h2
  have h0 : N ≠ 0 := by intro e; rw [e] at h1; exact absurd h1 (by decide)
  have hz := tz_lt h0
  have hb := st_back h0
  have hc := st_ne h0
  have e : v = sg * ((st N : Int) * 10 ^ ((tz N : Int) + t - 31 + 300).toNat) := by
    rw [hv, show (N * 10 ^ (t + 269).toNat : Nat) = st N * 10 ^ ((tz N : Int) + t - 31 + 300).toNat by
      rw [show ((tz N : Int) + t - 31 + 300).toNat = tz N + (t + 269).toNat by omega, Nat.pow_add, ← Nat.mul_assoc, hb]]
    push_cast
    rfl
  obtain ⟨q1, q2, q3⟩ := val_c (X := (tz N : Int) + t - 31) hc (by omega) hs
  rw [← e] at q1 q2 q3
  have hns : nd (st N) = 32 - tz N := by unfold st; rw [nd_div, hn]
  have hv0 : v ≠ 0 := fun z => by rw [z, sgn_0] at q3; omega
  refine ⟨hv0, q3, ?_, by rw [q1, hns], by omega, ?_⟩
  · unfold tp; rw [if_neg hv0, q1, q2, hns]; omega
  · unfold mN; rw [q1, hns, show 32 - (32 - tz N) = tz N by omega]; exact hb
def dF (F : Int → Int) (v : Int) : Prop := fOk F ∧ L4 F = (mN v : Int)
theorem dF.z {F : Int → Int} (h : ∀ q : Int, 0 ≤ q → q < (4 : Nat) → F q = 0) : dF F 0 := by
  refine ⟨fun q a b => by rw [h q a (by omega)]; decide, ?_⟩
  unfold L4
  rw [h 0 (by decide) (by decide), h 1 (by decide) (by decide), h 2 (by decide) (by decide), h 3 (by decide) (by decide), mN_0]
  rfl
theorem dF.eq {F G : Int → Int} {v : Int} (h : dF G v) (e : ∀ q : Int, 0 ≤ q → q < (4 : Nat) → F q = G q) : dF F v := by
  refine ⟨fun q a b => by rw [e q a (by omega)]; exact h.1 q a b, ?_⟩
  rw [← h.2]
  unfold L4
  rw [e 0 (by decide) (by decide), e 1 (by decide) (by decide), e 2 (by decide) (by decide), e 3 (by decide) (by decide)]
/-- a decimal at h, its limbs at a: what is raised, or 0, and the value -/
def Dc (cs : Nat → ClassId) (μ : fm_Mu) (h a : Nat) (co v : Int) : Prop := ∃ F : Int → Int, μ h = some (dE co (sgn v) (tp v) (nd (cN v) : Int) a) ∧ μ a = some (lE cs 4 F) ∧ dF F v ∧ dB v
/-- any decimal at h -/
def Da (cs : Nat → ClassId) (μ : fm_Mu) (h a : Nat) : Prop := ∃ (co sg t ct : Int) (F : Int → Int), μ h = some (dE co sg t ct a) ∧ μ a = some (lE cs 4 F)
theorem Dc.da {cs : Nat → ClassId} {μ : fm_Mu} {h a : Nat} {co v : Int} (d : Dc cs μ h a co v) : Da cs μ h a := by
  obtain ⟨F, d1, d2, -, -⟩ := d
  exact ⟨_, _, _, _, F, d1, d2⟩
-- whole units
theorem uW_l {v s : Int} (h : dB v) (hs : 0 ≤ s ∧ s ≤ 18) : (0 ≤ tp v + 1 + s → uW v s = mN v * 10 ^ (tp v + 1 + s).toNat / 10 ^ 32) ∧ (tp v + 1 + s ≤ 0 → uW v s = 0) := by
  have h1 := h.t
  unfold uW uU
  rw [abs_l h]
  refine ⟨fun he => ?_, fun he => ?_⟩
  · rw [show (tp v + 269).toNat = (tp v + 1 + s).toNat + (268 - s).toNat by omega, show (300 - s).toNat = 32 + (268 - s).toNat by omega, Nat.pow_add, Nat.pow_add, ← Nat.mul_assoc, Nat.mul_div_mul_right _ _ (p10N _)]
  · apply Nat.div_eq_of_lt
    calc mN v * 10 ^ (tp v + 269).toNat < 10 ^ 32 * 10 ^ (tp v + 269).toNat := Nat.mul_lt_mul_of_pos_right (mN_lt h) (p10N _)
      _ = 10 ^ (32 + (tp v + 269).toNat) := by rw [Nat.pow_add]
      _ ≤ _ := Nat.pow_le_pow_right (by decide) (by omega)
