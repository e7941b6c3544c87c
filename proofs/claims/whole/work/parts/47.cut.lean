-- CUTS (own work)
def kp (keep q : Int) : Int := max 0 (min 8 (keep - q * 8))
def cutF (keep : Int) (F : Int → Int) (q : Int) : Int := F q - F q % tenV (8 - kp keep q)
def cutM (keep : Int) (N : Nat) : Nat := N - N % 10 ^ (32 - min 32 (max 0 keep)).toNat
theorem md_le {f t : Int} (hf : 0 ≤ f) (ht : 0 < t) : 0 ≤ f % t ∧ f % t ≤ f := by
  have h1 := Int.emod_nonneg f (show t ≠ 0 by omega)
  have h2 := Int.mul_ediv_add_emod f t
  have h3 := Int.mul_nonneg (show 0 ≤ t by omega) (Int.ediv_nonneg hf (show 0 ≤ t by omega))
  omega
theorem cutF_in {keep : Int} {F : Int → Int} {q : Int} (h : 0 ≤ F q ∧ F q < 100000000) : 0 ≤ cutF keep F q ∧ cutF keep F q < 100000000 := by
  have h1 := tenV_in (k := 8 - kp keep q)
  have h2 := md_le h.1 (show 0 < tenV (8 - kp keep q) by omega)
  unfold cutF
  omega
theorem cutF_all {keep : Int} {F : Int → Int} {q : Int} (h : 8 ≤ keep - q * 8) : cutF keep F q = F q := by
  unfold cutF kp
  rw [show 8 - max 0 (min 8 (keep - q * 8)) = 0 by omega, show tenV 0 = 1 by decide]
  omega
theorem cutF_none {keep : Int} {F : Int → Int} {q : Int} (hf : 0 ≤ F q ∧ F q < 100000000) (h : keep - q * 8 ≤ 0) : cutF keep F q = 0 := by
  unfold cutF kp
  rw [show 8 - max 0 (min 8 (keep - q * 8)) = 8 by omega, show tenV 8 = 100000000 by decide]
  omega
theorem cut_L4 {F F1 : Int → Int} {N : Nat} {keep : Int} (hF : fOk F) (hN : L4 F = N) (h1 : ∀ q : Int, 0 ≤ q → q < 4 → F1 q = cutF keep F q) : fOk F1 ∧ L4 F1 = (cutM keep N : Int) := by
  refine ⟨fun q a b => by rw [h1 q a b]; exact cutF_in (hF q a b), ?_⟩
  have a0 := hF 0 (by decide) (by decide)
  have a1 := hF 1 (by decide) (by decide)
  have a2 := hF 2 (by decide) (by decide)
  have a3 := hF 3 (by decide) (by decide)
  have e0 := h1 0 (by decide) (by decide)
  have e1 := h1 1 (by decide) (by decide)
  have e2 := h1 2 (by decide) (by decide)
  have e3 := h1 3 (by decide) (by decide)
  by_cases h32 : 32 ≤ keep
  · rw [cutF_all (by omega)] at e0 e1 e2 e3
    unfold cutM
    rw [show (32 - min 32 (max 0 keep)).toNat = 0 by omega]
    simp only [Nat.pow_zero, Nat.mod_one, Nat.sub_zero]
    rw [← hN]
    unfold L4
    rw [e0, e1, e2, e3]
  · obtain ⟨kk, hkk⟩ : ∃ kk : Int, kk = max 0 keep := ⟨_, rfl⟩
    obtain ⟨hi, lo, f, g1, g2, g3, g4, g5, g6⟩ := lim_split hF hN (j := kk / 8) (by omega) (by omega)
    have hm : N % 10 ^ (32 - min 32 (max 0 keep)).toNat = f % 10 ^ (8 - kk % 8).toNat * 10 ^ (8 * (3 - kk / 8)).toNat + lo := by
      rw [show (32 - min 32 (max 0 keep)).toNat = (8 * (3 - kk / 8)).toNat + (8 - kk % 8).toNat by omega]
      conv => lhs; rw [g4]
      exact lemB g3 (by omega)
    have hle : N % 10 ^ (32 - min 32 (max 0 keep)).toNat ≤ N := Nat.mod_le _ _
    have hcut : F1 (kk / 8) = F (kk / 8) - ((f % 10 ^ (8 - kk % 8).toNat : Nat) : Int) := by
      rw [h1 _ (by omega) (by omega)]
      unfold cutF kp
      rw [show 8 - max 0 (min 8 (keep - kk / 8 * 8)) = 8 - kk % 8 by omega, tenV_e (by omega) (by omega), g1]
      push_cast
      rfl
    unfold cutM
    rw [Int.ofNat_sub hle, hm]
    generalize f % 10 ^ (8 - kk % 8).toNat = t at hcut hm ⊢
    rcases (show kk / 8 = 0 ∨ kk / 8 = 1 ∨ kk / 8 = 2 ∨ kk / 8 = 3 by omega) with h | h | h | h
    · rw [cutF_none a1 (by omega)] at e1
      rw [cutF_none a2 (by omega)] at e2
      rw [cutF_none a3 (by omega)] at e3
      rw [h] at hcut g5 ⊢
      rw [if_pos rfl] at g5
      rw [show (10 : Nat) ^ (8 * (3 - (0 : Int))).toNat = 1000000000000000000000000 by decide]
      unfold L4 at hN ⊢
      rw [hcut, e1, e2, e3]
      omega
    · rw [cutF_all (by omega)] at e0
      rw [cutF_none a2 (by omega)] at e2
      rw [cutF_none a3 (by omega)] at e3
      rw [h] at hcut g5 ⊢
      rw [if_neg (by decide), if_pos rfl] at g5
      rw [show (10 : Nat) ^ (8 * (3 - (1 : Int))).toNat = 10000000000000000 by decide]
      unfold L4 at hN ⊢
      rw [hcut, e0, e2, e3]
      omega
    · rw [cutF_all (by omega)] at e0 e1
      rw [cutF_none a3 (by omega)] at e3
      rw [h] at hcut g5 ⊢
      rw [if_neg (by decide), if_neg (by decide), if_pos rfl] at g5
      rw [show (10 : Nat) ^ (8 * (3 - (2 : Int))).toNat = 100000000 by decide]
      unfold L4 at hN ⊢
      rw [hcut, e0, e1, e3]
      omega
    · rw [cutF_all (by omega)] at e0 e1 e2
      rw [h] at hcut g5 ⊢
      rw [if_neg (by decide), if_neg (by decide), if_neg (by decide)] at g5
      rw [show (10 : Nat) ^ (8 * (3 - (3 : Int))).toNat = 1 by decide]
      unfold L4 at hN ⊢
      rw [hcut, e0, e1, e2]
      omega
theorem cut_tz {F : Int → Int} {N : Nat} {last z : Int} (hF : fOk F) (hN : L4 F = N) (hl : 0 ≤ last ∧ last ≤ 3) (hnz : F last ≠ 0) (hz0 : ∀ q : Int, last < q → q < 4 → F q = 0) (hz : 0 ≤ z ∧ z ≤ 8) (h1 : F last % 10 ^ z.toNat = 0) (h2 : z = 8 ∨ F last % 10 ^ (z + 1).toNat ≠ 0) : N ≠ 0 ∧ (last + 1) * 8 - z = ((32 - tz N : Nat) : Int) := by
  obtain ⟨hi, lo, f, g1, g2, g3, g4, g5, g6⟩ := lim_split hF hN hl.1 (by omega)
  have hlo : lo = 0 := by
    rcases (show last = 0 ∨ last = 1 ∨ last = 2 ∨ last = 3 by omega) with h | h | h | h <;> subst h
    · have a := hz0 1 (by decide) (by decide)
      have b := hz0 2 (by decide) (by decide)
      have c := hz0 3 (by decide) (by decide)
      rw [if_pos rfl] at g5; omega
    · have b := hz0 2 (by decide) (by decide)
      have c := hz0 3 (by decide) (by decide)
      rw [if_neg (by decide), if_pos rfl] at g5; omega
    · have c := hz0 3 (by decide) (by decide)
      rw [if_neg (by decide), if_neg (by decide), if_pos rfl] at g5; omega
    · rw [if_neg (by decide), if_neg (by decide), if_neg (by decide)] at g5; omega
  have f0 : f ≠ 0 := by omega
  have k1 : f % 10 ^ z.toNat = 0 := by
    rw [g1, ← p10c] at h1
    exact_mod_cast h1
  have hz7 : z ≤ 7 := by
    rcases Int.lt_or_le z 8 with h | h
    · omega
    · have : z = 8 := by omega
      subst this
      have e : f % 10 ^ 8 = 0 := k1
      rw [Nat.mod_eq_of_lt g2] at e
      exact absurd e f0
  have k2 : f % 10 ^ (z.toNat + 1) ≠ 0 := by
    rcases h2 with h | h
    · omega
    · rw [g1, ← p10c, show (z + 1).toNat = z.toNat + 1 by omega] at h
      exact_mod_cast h
  have k3 : f / 10 ^ z.toNat % 10 ≠ 0 := by
    rw [Nat.pow_succ, Nat.mod_mul, k1] at k2
    intro e
    rw [e] at k2
    simp at k2
  subst hlo
  have ht : tz N = (8 * (3 - last)).toNat + z.toNat := by
    apply tz_uniq
    · rw [g4, lemB (p10N _) (by omega), k1]; simp
    · rw [g4, lemA (p10N _) (by omega)]; exact k3
  refine ⟨fun e => ?_, by rw [ht]; omega⟩
  rw [e] at g4
  have := p10N (8 * (3 - last)).toNat
  have h3 : (hi * 10 ^ 8 + f) * 10 ^ (8 * (3 - last)).toNat = 0 := by omega
  rcases Nat.mul_eq_zero.mp h3 with h | h
  · omega
  · omega
theorem cutM_le (keep : Int) (N : Nat) : cutM keep N ≤ N := Nat.sub_le _ _
theorem cutM_eq (keep : Int) (N : Nat) : cutM keep N = N / 10 ^ (32 - min 32 (max 0 keep)).toNat * 10 ^ (32 - min 32 (max 0 keep)).toNat := by
  unfold cutM
  have h := Nat.div_add_mod N (10 ^ (32 - min 32 (max 0 keep)).toNat)
  rw [Nat.mul_comm] at h
  omega
theorem cutM_ge {keep : Int} {N : Nat} (hk : 1 ≤ keep) (h : 10 ^ 31 ≤ N) : 10 ^ 31 ≤ cutM keep N := by
  rw [cutM_eq]
  have e : 10 ^ 31 = 10 ^ (31 - (32 - min 32 (max 0 keep)).toNat) * 10 ^ (32 - min 32 (max 0 keep)).toNat := by rw [← Nat.pow_add]; congr 1; omega
  rw [e] at h
  have h2 : 10 ^ (31 - (32 - min 32 (max 0 keep)).toNat) ≤ N / 10 ^ (32 - min 32 (max 0 keep)).toNat := (Nat.le_div_iff_mul_le (p10N _)).mpr h
  calc 10 ^ 31 = 10 ^ (31 - (32 - min 32 (max 0 keep)).toNat) * 10 ^ (32 - min 32 (max 0 keep)).toNat := e
    _ ≤ _ := Nat.mul_le_mul_right _ h2
theorem cutM_0 {keep : Int} {N : Nat} (hk : keep ≤ 0) (h : N < 10 ^ 32) : cutM keep N = 0 := by
  rw [cutM_eq, show (32 - min 32 (max 0 keep)).toNat = 32 by omega, Nat.div_eq_of_lt h, Nat.zero_mul]
theorem cutM_32 {keep : Int} {N : Nat} (hk : 32 ≤ keep) : cutM keep N = N := by
  rw [cutM_eq, show (32 - min 32 (max 0 keep)).toNat = 0 by omega]; simp
theorem cutM_tz {keep : Int} {N : Nat} (hk : keep ≤ 31) (h : cutM keep N ≠ 0) : 1 ≤ tz (cutM keep N) := by
  rw [cutM_eq] at h ⊢
  have h1 : N / 10 ^ (32 - min 32 (max 0 keep)).toNat ≠ 0 := fun e => h (by rw [e, Nat.zero_mul])
  rw [tz_mul h1]
  omega
/-- a number's first 32 digits -/
def n32 (T : Nat) : Nat := if nd T ≤ 32 then T * 10 ^ (32 - nd T) else T / 10 ^ (nd T - 32)
theorem n32_in {T : Nat} (h : T ≠ 0) : 10 ^ 31 ≤ n32 T ∧ n32 T < 10 ^ 32 := by
  have h1 := nd_ge h
  have h2 := nd_lt T
  have h3 := nd_pos h
  unfold n32
  split
  · refine ⟨?_, ?_⟩
    · calc 10 ^ 31 = 10 ^ (nd T - 1) * 10 ^ (32 - nd T) := by rw [← Nat.pow_add]; congr 1; omega
        _ ≤ _ := Nat.mul_le_mul_right _ h1
    · calc T * 10 ^ (32 - nd T) < 10 ^ nd T * 10 ^ (32 - nd T) := Nat.mul_lt_mul_of_pos_right h2 (p10N _)
        _ = _ := by rw [← Nat.pow_add]; congr 1; omega
  · refine ⟨?_, ?_⟩
    · rw [Nat.le_div_iff_mul_le (p10N _), ← Nat.pow_add, show 31 + (nd T - 32) = nd T - 1 by omega]; exact h1
    · rw [Nat.div_lt_iff_lt_mul (p10N _), ← Nat.pow_add, show 32 + (nd T - 32) = nd T by omega]; exact h2
theorem cuv_n {P T : Nat} {x : Int} (hT : T ≠ 0) (hP : 1 ≤ P ∧ P ≤ 31) (h1 : -99 ≤ (nd T : Int) + x - 1) : cuv P T x = ((cutM P (n32 T) * 10 ^ ((nd T : Int) + x - 1 + 269).toNat : Nat) : Int) := by
  have h3 := nd_pos hT
  unfold cuv
  rw [if_neg (by intro h; rcases h with h | h; exact hT h; omega)]
  unfold cutC cutX
  have hM : T / 10 ^ (nd T - P) ≠ 0 := by
    intro e
    have := nd_div (n := T) (k := nd T - P)
    rw [e, nd_0] at this
    omega
  have hb := st_back hM
  unfold st at hb
  generalize hMe : T / 10 ^ (nd T - P) = M at hM hb ⊢
  have hq : cutM P (n32 T) = M * 10 ^ (min P (nd T) - min P (nd T) + (32 - P) + (P - nd T)) := by
    rw [cutM_eq, show (32 - min 32 (max 0 (P : Int))).toNat = 32 - P by omega]
    by_cases hp : P ≤ nd T
    · have e : n32 T / 10 ^ (32 - P) = M := by
        rw [← hMe]
        unfold n32
        split
        · rw [show 32 - P = (nd T - P) + (32 - nd T) by omega, Nat.pow_add, Nat.mul_div_mul_right _ _ (p10N _)]
        · rw [Nat.div_div_eq_div_mul, ← Nat.pow_add]; congr 2; omega
      rw [e]; congr 2; omega
    · have e : n32 T / 10 ^ (32 - P) = M * 10 ^ (P - nd T) := by
        rw [← hMe, show nd T - P = 0 by omega]
        unfold n32
        rw [if_pos (by omega), show 32 - nd T = (P - nd T) + (32 - P) by omega, Nat.pow_add, ← Nat.mul_assoc, Nat.mul_div_cancel _ (p10N _)]
        simp
      rw [e, Nat.mul_assoc, ← Nat.pow_add]; congr 2; omega
  rw [hq]
  conv => rhs; rw [← hb]
  rw [← p10c, ← Int.natCast_mul]
  congr 1
  rw [Nat.mul_assoc, Nat.mul_assoc, ← Nat.pow_add, ← Nat.pow_add]
  congr 2
  omega
