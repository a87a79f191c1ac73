/-! ===== shelves: shift, taken ===== -/
theorem z_lt_nle {a b : Int32} (h : a < b) : ¬ b ≤ a := by grind
theorem z_nlt_le {a b : Int32} (h : ¬ a < b) : b ≤ a := by grind
theorem z_le_nlt {a b : Int32} (h : a ≤ b) : ¬ b < a := by grind
theorem z_nle_lt {a b : Int32} (h : ¬ a ≤ b) : b < a := by grind
def zstv (n x a : Int32) : Int32 := if 0 ≤ n ∧ 0 ≤ x ∧ x ≤ a ∧ n ≤ a - x then 1 else 0
theorem zstv_c {n x a : Int32} (ha : 0 ≤ a ∧ a ≤ 60) : (zstv n x a = 0 ∧ (n < 0 ∨ x < 0 ∨ (¬ n < 0 ∧ ¬ x < 0 ∧ a - n < x))) ∨ (zstv n x a = 1 ∧ ¬ n < 0 ∧ ¬ x < 0 ∧ ¬ a - n < x ∧ x ≤ a - n ∧ x ≤ a ∧ n ≤ a - x ∧ n ≤ 60 ∧ x ≤ 60 ∧ x + n ≤ 60) := by
  unfold zstv
  by_cases h : 0 ≤ n ∧ 0 ≤ x ∧ x ≤ a ∧ n ≤ a - x
  · rw [if_pos h]
    refine Or.inr ⟨rfl, ?_⟩
    grind
  · rw [if_neg h]
    refine Or.inl ⟨rfl, ?_⟩
    by_cases h1 : n < 0
    · exact Or.inl h1
    by_cases h2 : x < 0
    · exact Or.inr (Or.inl h2)
    refine Or.inr (Or.inr ⟨h1, h2, ?_⟩)
    grind
theorem S104 (d i : Nat) (x n : Int32) (M : zM) (h : 0 ≤ zgI M 9 i 3 ∧ zgI M 9 i 3 ≤ 60) : zgo false d 104 0 [zr 9 i, zi x, zi n] [] M = some (some (zi (zstv n x (zgI M 9 i 3))), M) := by
  simp only [B104_0, B104_30, B104_31, zib0, zib1, cond_true, zite_v, zstv]
  grind
theorem L105f (d s o i j n : Nat) (hs : s ≠ o ∨ j ≤ i) (hi : i + n ≤ 60) (hj : j + n ≤ 60) : ∀ (m k : Nat) (M : zM), k + m = n → (0 ≤ zgI M 9 o 2 ∧ zgI M 9 o 2 ≤ 4) → (∀ t, t < 60 → zlow (zgI M 9 o 2) (zgL M 45 s t) = zgL M 45 s t) → ∃ M', zgo false (d + 2) 105 8 [zr 9 o, zr 9 s, zi (nI i), zi (nI j), zi (nI n), zi (nI k)] [] M = some (none, M') ∧ zFo (fun k i _ => k = 45 ∧ i = o) M M' ∧ ∀ t, t < 60 → zgL M' 45 o t = if j + k ≤ t ∧ t < j + n then zgL M 45 s (i + t - j) else zgL M 45 o t
  | 0, k, M, hk, hq, hl => by
    have hk : k = n := by omega
    subst hk
    refine ⟨M, ?_, zFo_refl _ M, fun t ht => by rw [if_neg (by omega)]⟩
    rw [B105_8, if_pos (nI_le (by omega) (by omega)), B105_73]
  | m + 1, k, M, hk, hq, hl => by
    have h1 := hl (i + k) (by omega)
    obtain ⟨M', e, f, v⟩ := L105f d s o i j n hs hi hj m (k + 1) (zsL M 45 o (j + k) (zgL M 45 s (i + k))) (by omega) hq (fun t ht => by
      rw [zsL_eq]
      by_cases c : 45 = 45 ∧ s = o ∧ t = j + k
      · rw [if_pos c]; exact h1
      · rw [if_neg c]; exact hl t ht)
    refine ⟨M', ?_, zFo_trans (zFo_sL (zFo_refl _ M) ⟨rfl, rfl⟩) f, fun t ht => ?_⟩
    · rw [B105_8, if_neg (nI_ge (by omega) (by omega)), nI_add, nI_add]
      refine zbind_of (S101 _ _ _ _ (by omega)) ?_
      refine (B105_28 (d + 1) o 9 s _ _ _ _ o _ _ M).trans ?_
      refine zbind_of (S102 _ _ _ _ _ _ (by omega) hq) ?_
      refine (B105_31 (d + 2) o 9 s _ _ _ _ _).trans ?_
      rw [h1, nI_1]
      exact e
    · rw [v t ht, zsL_eq, zsL_eq]
      grind
theorem L105b (d s o i j n : Nat) (hs : s ≠ o ∨ i ≤ j) (hi : i + n ≤ 60) (hj : j + n ≤ 60) : ∀ (c : Nat) (x : Int32) (M : zM), c ≤ n → x = nI c - 1 → (0 ≤ zgI M 9 o 2 ∧ zgI M 9 o 2 ≤ 4) → (∀ t, t < 60 → zlow (zgI M 9 o 2) (zgL M 45 s t) = zgL M 45 s t) → ∃ M', zgo false (d + 2) 105 46 [zr 9 o, zr 9 s, zi (nI i), zi (nI j), zi (nI n), zi x] [] M = some (none, M') ∧ zFo (fun k i _ => k = 45 ∧ i = o) M M' ∧ ∀ t, t < 60 → zgL M' 45 o t = if j ≤ t ∧ t < j + c then zgL M 45 s (i + t - j) else zgL M 45 o t
  | 0, x, M, hk, hx, hq, hl => by
    subst hx
    refine ⟨M, ?_, zFo_refl _ M, fun t ht => by rw [if_neg (by omega)]⟩
    rw [B105_46, if_pos (by decide), B105_73]
  | c + 1, x, M, hk, hx, hq, hl => by
    rw [nI_pred] at hx
    subst hx
    have h1 := hl (i + c) (by omega)
    obtain ⟨M', e, f, v⟩ := L105b d s o i j n hs hi hj c (nI c - 1) (zsL M 45 o (j + c) (zgL M 45 s (i + c))) (by omega) rfl hq (fun t ht => by
      rw [zsL_eq]
      by_cases q : 45 = 45 ∧ s = o ∧ t = j + c
      · rw [if_pos q]; exact h1
      · rw [if_neg q]; exact hl t ht)
    refine ⟨M', ?_, zFo_trans (zFo_sL (zFo_refl _ M) ⟨rfl, rfl⟩) f, fun t ht => ?_⟩
    · rw [B105_46, if_neg (nI_pos (by omega)), nI_add, nI_add]
      refine zbind_of (S101 _ _ _ _ (by omega)) ?_
      refine (B105_64 (d + 1) o 9 s _ _ _ _ o _ _ M).trans ?_
      refine zbind_of (S102 _ _ _ _ _ _ (by omega) hq) ?_
      refine (B105_67 (d + 2) o 9 s _ _ _ _ _).trans ?_
      rw [h1, show nI c + (-1) = nI c - 1 by grind]
      exact e
    · rw [v t ht, zsL_eq, zsL_eq]
      grind
/-- 'takeCells' -/
theorem S105 (d s o i j n : Nat) (u : zV) (M : zM) (hi : i + n ≤ 60) (hj : j + n ≤ 60) (hq : 0 ≤ zgI M 9 o 2 ∧ zgI M 9 o 2 ≤ 4) (hl : ∀ t, t < 60 → zlow (zgI M 9 o 2) (zgL M 45 s t) = zgL M 45 s t) : ∃ M', zgo false (d + 2) 105 0 [zr 9 o, zr 9 s, zi (nI i), zi (nI j), zi (nI n), u] [] M = some (none, M') ∧ zFo (fun k i _ => k = 45 ∧ i = o) M M' ∧ ∀ t, t < 60 → zgL M' 45 o t = if j ≤ t ∧ t < j + n then zgL M 45 s (i + t - j) else zgL M 45 o t := by
  by_cases c : i < j
  · obtain ⟨M', e, f, v⟩ := L105b d s o i j n (Or.inr (by omega)) hi hj n _ M (by omega) rfl hq hl
    refine ⟨M', ?_, f, v⟩
    rw [B105_0, if_pos (nI_lt c (by omega))]
    exact e
  · obtain ⟨M', e, f, v⟩ := L105f d s o i j n (Or.inr (by omega)) hi hj n 0 M (by omega) hq hl
    refine ⟨M', ?_, f, v⟩
    rw [B105_0, if_neg (nI_nlt (by omega) (by omega))]
    exact e
theorem L311a (d s o i j n : Nat) (hi : i + n ≤ 60) (hs : s < 6) : ∀ (m k : Nat) (M : zM), k + m = n → ∃ M', zgo false d 311 113 [zr 13 0, zi (nI s), zi (nI i), zi (nI o), zi (nI j), zi (nI n), zi (nI k)] [] M = zgo false d 311 150 [zr 13 0, zi (nI s), zi (nI i), zi (nI o), zi (nI j), zi (nI n), zi 0] [] M' ∧ zFo (fun k i _ => k = 113 ∧ i = 0) M M' ∧ ∀ t, zgL M' 113 0 t = if k ≤ t ∧ t < n then zgL M 112 0 (60 * s + i + t) else zgL M 113 0 t
  | 0, k, M, hk => by
    have hk : k = n := by omega
    subst hk
    refine ⟨M, ?_, zFo_refl _ M, fun t => by rw [if_neg (by omega)]⟩
    rw [B311_113, if_pos (nI_le (by omega) (by omega))]
  | m + 1, k, M, hk => by
    obtain ⟨M', e, f, v⟩ := L311a d s o i j n hi hs m (k + 1) (zsL M 113 0 k (zgL M 112 0 (60 * s + i + k))) (by omega)
    refine ⟨M', ?_, zFo_trans (zFo_sL (zFo_refl _ M) ⟨rfl, rfl⟩) f, fun t => ?_⟩
    · have e60 : (60 : Int32) * nI s + nI i + nI k = nI (60 * s + i + k) := by rw [show (60 : Int32) = nI 60 from rfl, pk_mul, nI_add, nI_add]
      rw [B311_113, if_neg (nI_ge (by omega) (by omega)), e60, if_pos (zin_nI (by omega) (by omega)), if_pos (zin_nI (by omega) (by omega)), nI_clamp (by omega), nI_clamp (by omega), B311_141, nI_1]
      exact e
    · rw [v t, zsL_eq, zsL_eq]
      grind
theorem L311b (d s o i j n : Nat) (hj : j + n ≤ 60) (ho : o < 6) : ∀ (m k : Nat) (M : zM), k + m = n → ∃ M', zgo false d 311 150 [zr 13 0, zi (nI s), zi (nI i), zi (nI o), zi (nI j), zi (nI n), zi (nI k)] [] M = some (some (zi (nI n)), M') ∧ zFo (fun k i _ => k = 112 ∧ i = 0) M M' ∧ ∀ t, zgL M' 112 0 t = if 60 * o + j + k ≤ t ∧ t < 60 * o + j + n then zgL M 113 0 (t - (60 * o + j)) else zgL M 112 0 t
  | 0, k, M, hk => by
    have hk : k = n := by omega
    subst hk
    refine ⟨M, ?_, zFo_refl _ M, fun t => by rw [if_neg (by omega)]⟩
    rw [B311_150, if_pos (nI_le (by omega) (by omega))]
  | m + 1, k, M, hk => by
    obtain ⟨M', e, f, v⟩ := L311b d s o i j n hj ho m (k + 1) (zsL M 112 0 (60 * o + j + k) (zgL M 113 0 k)) (by omega)
    refine ⟨M', ?_, zFo_trans (zFo_sL (zFo_refl _ M) ⟨rfl, rfl⟩) f, fun t => ?_⟩
    · have e60 : (60 : Int32) * nI o + nI j + nI k = nI (60 * o + j + k) := by rw [show (60 : Int32) = nI 60 from rfl, pk_mul, nI_add, nI_add]
      rw [B311_150, if_neg (nI_ge (by omega) (by omega)), e60, if_pos (zin_nI (by omega) (by omega)), if_pos (zin_nI (by omega) (by omega)), nI_clamp (by omega), nI_clamp (by omega), B311_179, nI_1]
      exact e
    · rw [v t, zsL_eq, zsL_eq]
      grind
