/-! ===== shelves: put, element ===== -/
theorem zlow_b (v : Int64) : -128 ≤ zlow 0 v ∧ zlow 0 v ≤ 127 := by
  unfold zlow
  rw [if_pos rfl, Int64.le_iff_toInt_le, Int64.le_iff_toInt_le, Int32.toInt_toInt64, Int8.toInt_toInt32]
  have h1 := Int8.le_toInt v.toInt32.toInt8
  have h2 := Int8.toInt_lt v.toInt32.toInt8
  rw [show (-128 : Int64).toInt = -128 from rfl, show (127 : Int64).toInt = 127 from rfl]
  omega
theorem zite_l {c : Prop} [Decidable c] (a b : Int64) (M : zM) : (if c then (some (some (zl a), M) : Option (Option zV × zM)) else some (some (zl b), M)) = some (some (zl (if c then a else b)), M) := by
  by_cases h : c
  · rw [if_pos h, if_pos h]
  · rw [if_neg h, if_neg h]
theorem S106 (d i : Nat) (v : Int64) (u : zV) (M : zM) (h : 0 ≤ zgI M 9 i 2 ∧ zgI M 9 i 2 ≤ 4) : zgo false d 106 0 [zr 9 i, zl v, u] [] M = some (some (zl (zlow (zgI M 9 i 2) v)), M) := by
  simp only [B106_0, B106_65, B106_66, zite_l, zlow]
  have h4 : ¬ zgI M 9 i 2 = 0 → ¬ zgI M 9 i 2 = 1 → ¬ zgI M 9 i 2 = 2 → ¬ zgI M 9 i 2 = 3 → zgI M 9 i 2 = 4 := by grind
  by_cases a0 : zgI M 9 i 2 = 0
  · simp only [if_pos a0]
  by_cases a1 : zgI M 9 i 2 = 1
  · simp only [if_neg a0, if_pos a1]
  by_cases a2 : zgI M 9 i 2 = 2
  · simp only [if_neg a0, if_neg a1, if_pos a2]
  by_cases a3 : zgI M 9 i 2 = 3
  · simp only [if_neg a0, if_neg a1, if_neg a2, if_pos a3]
  · simp only [if_neg a0, if_neg a1, if_neg a2, if_neg a3, if_pos (h4 a0 a1 a2 a3)]
theorem S100 (d i : Nat) (x : Int32) (M : zM) : zgo false d 100 0 [zr 9 i, zi x] [] M = some (some (zi (if zgI M 9 i 1 = 0 then -11 else if zgI M 9 i 1 = 2 then if x < 0 then -13 else if zgI M 9 i 3 ≤ x then -13 else 0 else -12)), M) := by
  simp only [B100_0, B100_37, B100_39, zite_v]
theorem S101 (d i j : Nat) (M : zM) (h : j < 60) : zgo false d 101 0 [zr 9 i, zi (nI j)] [] M = some (some (zl (zgL M 45 i j)), M) := by
  have a : ¬ nI j < 0 := nI_pos (by omega)
  have b : ¬ (60 : Int32) ≤ nI j := nI_ge (a := j) (b := 60) (by omega) (by omega)
  simp only [B101_0, B101_22, B101_23, if_neg a, if_neg b, if_pos (zin_nI (show j < 60 from h) (by omega)), nI_clamp (show j < 2 ^ 31 by omega)]
theorem S102 (d i j : Nat) (v : Int64) (u : zV) (M : zM) (h : j < 60) (hs : 0 ≤ zgI M 9 i 2 ∧ zgI M 9 i 2 ≤ 4) : zgo false (d + 1) 102 0 [zr 9 i, zi (nI j), zl v, u] [] M = some (none, zsL M 45 i j (zlow (zgI M 9 i 2) v)) := by
  have a : ¬ nI j < 0 := nI_pos (by omega)
  have b : ¬ (60 : Int32) ≤ nI j := nI_ge (a := j) (b := 60) (by omega) (by omega)
  simp only [B102_0, B102_23, B102_24, if_neg a, if_neg b, S106 _ _ _ _ _ hs, zbsome, zpu1, if_pos (zin_nI (show j < 60 from h) (by omega)), nI_clamp (show j < 2 ^ 31 by omega)]
/-- the model's reason against a place -/
theorem S308 (d s : Nat) (x : Int32) (M : zM) (hs : s < 6) (h : zSh1 M s) : zgo false (d + 2) 308 0 [zr 13 0, zi (nI s), zi x] [] M = some (some (zi (if zgI M 9 s 1 = 0 then -11 else if zgI M 9 s 1 = 2 then if x < 0 then -13 else if zgI M 9 s 3 ≤ x then -13 else 0 else -12)), M) := by
  have hz : zin (nI s) 6 = true := zin_nI hs (by omega)
  have hc : (nI s).toNatClampNeg = s := nI_clamp (by omega)
  rcases h with ⟨h1, h2⟩ | ⟨h1, h2, h3, h4⟩ | ⟨h1, h2, h3, h4, h5, -⟩
  · simp +decide only [B308_0, B308_4, B308_47, B308_56, S305, hz, hc, h1, h2, zbsome, zpu1, zpu0, cond_true, cond_false, zib0, zib1, zib_ite, zq00, zq20, zq22, zq90, zq99, zq40, zq44, zq100, zq1010, Bool.and_true, if_true, if_false, z1ne0, not_true_eq_false, not_false_eq_true, zite10, eq_self, and_true, true_and, and_false, false_and, ↓reduceIte, Int32.reduceLT, Int32.reduceLE, Int32.reduceAdd, Int32.reduceSub, Int32.reduceMul]
  · have a1 : ¬ zgI M 9 s 4 = -1 := by grind
    have a2 : ¬ zgI M 9 s 4 < 0 := by grind
    simp +decide only [B308_0, B308_4, B308_47, B308_56, S305, hz, hc, h1, h2, a1, a2, zbsome, zpu1, zpu0, cond_true, cond_false, zib0, zib1, zib_ite, zq00, zq20, zq22, zq90, zq99, zq40, zq44, zq100, zq1010, Bool.and_true, if_true, if_false, z1ne0, not_true_eq_false, not_false_eq_true, zite10, eq_self, and_true, true_and, and_false, false_and, ↓reduceIte, Int32.reduceLT, Int32.reduceLE, Int32.reduceAdd, Int32.reduceSub, Int32.reduceMul]
  · have a1 : ¬ (-2 - zgI M 9 s 2) = -1 := by grind
    have a2 : (-2 - zgI M 9 s 2) < 0 := by grind
    simp +decide only [B308_0, B308_4, B308_47, B308_56, S305, S_in, hz, hc, h1, h3, h4, a1, a2, zbsome, zpu1, zpu0, cond_true, cond_false, zib0, zib1, zib_ite, zq00, zq20, zq22, zq90, zq99, zq40, zq44, zq100, zq1010, Bool.and_true, if_true, if_false, z1ne0, not_true_eq_false, not_false_eq_true, zite10, eq_self, and_true, true_and, and_false, false_and, ↓reduceIte, Int32.reduceLT, Int32.reduceLE, Int32.reduceAdd, Int32.reduceSub, Int32.reduceMul]
    by_cases b1 : x < 0
    · rw [if_pos b1, if_pos (by grind)]
    · rw [if_neg b1]
      by_cases b2 : zgI M 111 0 s ≤ x
      · rw [if_pos b2, if_pos (by grind)]
      · rw [if_neg b2, if_neg (by grind)]
theorem zSh_sz {M : zM} {s : Nat} (h : zSh1 M s) (h1 : zgI M 9 s 1 = 2) : (0 ≤ zgI M 9 s 2 ∧ zgI M 9 s 2 ≤ 4) ∧ zgI M 110 0 s = -2 - zgI M 9 s 2 ∧ zgI M 9 s 3 = zgI M 111 0 s ∧ (0 ≤ zgI M 111 0 s ∧ zgI M 111 0 s ≤ 60) ∧ (∀ i, i < 60 → zgL M 45 s i = zgL M 112 0 (60 * s + i)) ∧ (∀ i, i < 60 → zlow (zgI M 9 s 2) (zgL M 45 s i) = zgL M 45 s i) := by
  rcases h with h | h | h
  · rw [h.1] at h1; exact absurd h1 (by decide)
  · rw [h.1] at h1; exact absurd h1 (by decide)
  · exact h.2
theorem zSh_in {M : zM} {s : Nat} {x : Int32} (h : zSh1 M s) (h1 : zgI M 9 s 1 = 2) (h2 : ¬ x < 0) (h3 : ¬ zgI M 9 s 3 ≤ x) : ∃ j, j < 60 ∧ x = nI j := by
  obtain ⟨a, b, c, e, f, g⟩ := zSh_sz h h1
  exact zin_of (zin60.mpr ⟨by grind, by grind⟩)
/-- 'element' -/
theorem Q35 (d : Nat) (x1 x2 : Int32) (u : zV) (M : zM) (h : Rsh M) : ∃ (y : Int64), zgo false (d + 3) 165 0 [zr 12 0, zi x1, zi x2, u] [] M = some (some (zl y), M) ∧ zgo false (d + 3) 310 0 [zr 13 0, zi x1, zi x2] [] M = some (some (zl y), M) := by
  by_cases hz : zin x1 6 = true
  · obtain ⟨s, hs, rfl⟩ := zin_of hz
    have hc : (nI s).toNatClampNeg = s := nI_clamp (by omega)
    have h0 := h s hs
    have hw := S308 d s x2 M hs h0
    by_cases h1 : zgI M 9 s 1 = 0
    · rw [if_pos h1] at hw
      refine ⟨-9223372036854775808, ?_, ?_⟩
      · simp +decide only [B165_0, B165_5, B165_15, B165_23, B165_26, B165_29, S183, S100, hz, hc, h1, zbsome, zpu1, zpu0, cond_true, cond_false, zib0, zib1, zib_ite, zq00, zq20, zq22, zq90, zq99, zq40, zq44, zq100, zq1010, Bool.and_true, if_true, if_false, z1ne0, not_true_eq_false, not_false_eq_true, zite10, eq_self, and_true, true_and, and_false, false_and, ↓reduceIte, Int32.reduceLT, Int32.reduceLE, Int32.reduceAdd, Int32.reduceSub, Int32.reduceMul]
      · simp +decide only [B310_0, B310_6, B310_26, hw, zbsome, zpu1, zpu0, cond_true, cond_false, zib0, zib1, zib_ite, zq00, zq20, zq22, zq90, zq99, zq40, zq44, zq100, zq1010, Bool.and_true, if_true, if_false, z1ne0, not_true_eq_false, not_false_eq_true, zite10, eq_self, and_true, true_and, and_false, false_and, ↓reduceIte, Int32.reduceLT, Int32.reduceLE, Int32.reduceAdd, Int32.reduceSub, Int32.reduceMul]
    by_cases h2 : zgI M 9 s 1 = 2
    · rw [if_neg h1, if_pos h2] at hw
      by_cases h3 : x2 < 0
      · rw [if_pos h3] at hw
        refine ⟨-9223372036854775808, ?_, ?_⟩
        · simp +decide only [B165_0, B165_5, B165_15, B165_23, B165_26, B165_29, S183, S100, hz, hc, h1, h2, h3, zbsome, zpu1, zpu0, cond_true, cond_false, zib0, zib1, zib_ite, zq00, zq20, zq22, zq90, zq99, zq40, zq44, zq100, zq1010, Bool.and_true, if_true, if_false, z1ne0, not_true_eq_false, not_false_eq_true, zite10, eq_self, and_true, true_and, and_false, false_and, ↓reduceIte, Int32.reduceLT, Int32.reduceLE, Int32.reduceAdd, Int32.reduceSub, Int32.reduceMul]
        · simp +decide only [B310_0, B310_6, B310_26, hw, zbsome, zpu1, zpu0, cond_true, cond_false, zib0, zib1, zib_ite, zq00, zq20, zq22, zq90, zq99, zq40, zq44, zq100, zq1010, Bool.and_true, if_true, if_false, z1ne0, not_true_eq_false, not_false_eq_true, zite10, eq_self, and_true, true_and, and_false, false_and, ↓reduceIte, Int32.reduceLT, Int32.reduceLE, Int32.reduceAdd, Int32.reduceSub, Int32.reduceMul]
      by_cases h4 : zgI M 9 s 3 ≤ x2
      · rw [if_neg h3, if_pos h4] at hw
        refine ⟨-9223372036854775808, ?_, ?_⟩
        · simp +decide only [B165_0, B165_5, B165_15, B165_23, B165_26, B165_29, S183, S100, hz, hc, h1, h2, h3, h4, zbsome, zpu1, zpu0, cond_true, cond_false, zib0, zib1, zib_ite, zq00, zq20, zq22, zq90, zq99, zq40, zq44, zq100, zq1010, Bool.and_true, if_true, if_false, z1ne0, not_true_eq_false, not_false_eq_true, zite10, eq_self, and_true, true_and, and_false, false_and, ↓reduceIte, Int32.reduceLT, Int32.reduceLE, Int32.reduceAdd, Int32.reduceSub, Int32.reduceMul]
        · simp +decide only [B310_0, B310_6, B310_26, hw, zbsome, zpu1, zpu0, cond_true, cond_false, zib0, zib1, zib_ite, zq00, zq20, zq22, zq90, zq99, zq40, zq44, zq100, zq1010, Bool.and_true, if_true, if_false, z1ne0, not_true_eq_false, not_false_eq_true, zite10, eq_self, and_true, true_and, and_false, false_and, ↓reduceIte, Int32.reduceLT, Int32.reduceLE, Int32.reduceAdd, Int32.reduceSub, Int32.reduceMul]
      · rw [if_neg h3, if_neg h4] at hw
        obtain ⟨j, hj, rfl⟩ := zSh_in h0 h2 h3 h4
        obtain ⟨-, -, -, -, g, -⟩ := zSh_sz h0 h2
        have e60 : (60 : Int32) * nI s + nI j = nI (60 * s + j) := by rw [show (60 : Int32) = nI 60 from rfl, pk_mul, nI_add]
        have z2 : zin (nI (60 * s + j)) 360 = true := zin_nI (by omega) (by omega)
        have c2 : (nI (60 * s + j)).toNatClampNeg = 60 * s + j := nI_clamp (by omega)
        refine ⟨zgL M 45 s j, ?_, ?_⟩
        · simp +decide only [B165_0, B165_5, B165_15, B165_23, B165_26, B165_29, S183, S100, S101 _ _ _ _ hj, hz, hc, h1, h2, h3, h4, zbsome, zpu1, zpu0, cond_true, cond_false, zib0, zib1, zib_ite, zq00, zq20, zq22, zq90, zq99, zq40, zq44, zq100, zq1010, Bool.and_true, if_true, if_false, z1ne0, not_true_eq_false, not_false_eq_true, zite10, eq_self, and_true, true_and, and_false, false_and, ↓reduceIte, Int32.reduceLT, Int32.reduceLE, Int32.reduceAdd, Int32.reduceSub, Int32.reduceMul]
        · simp +decide only [B310_0, B310_6, B310_26, hw, e60, z2, c2, g j hj, zbsome, zpu1, zpu0, cond_true, cond_false, zib0, zib1, zib_ite, zq00, zq20, zq22, zq90, zq99, zq40, zq44, zq100, zq1010, Bool.and_true, if_true, if_false, z1ne0, not_true_eq_false, not_false_eq_true, zite10, eq_self, and_true, true_and, and_false, false_and, ↓reduceIte, Int32.reduceLT, Int32.reduceLE, Int32.reduceAdd, Int32.reduceSub, Int32.reduceMul]
    · rw [if_neg h1, if_neg h2] at hw
      refine ⟨-9223372036854775808, ?_, ?_⟩
      · simp +decide only [B165_0, B165_5, B165_15, B165_23, B165_26, B165_29, S183, S100, hz, hc, h1, h2, zbsome, zpu1, zpu0, cond_true, cond_false, zib0, zib1, zib_ite, zq00, zq20, zq22, zq90, zq99, zq40, zq44, zq100, zq1010, Bool.and_true, if_true, if_false, z1ne0, not_true_eq_false, not_false_eq_true, zite10, eq_self, and_true, true_and, and_false, false_and, ↓reduceIte, Int32.reduceLT, Int32.reduceLE, Int32.reduceAdd, Int32.reduceSub, Int32.reduceMul]
      · simp +decide only [B310_0, B310_6, B310_26, hw, zbsome, zpu1, zpu0, cond_true, cond_false, zib0, zib1, zib_ite, zq00, zq20, zq22, zq90, zq99, zq40, zq44, zq100, zq1010, Bool.and_true, if_true, if_false, z1ne0, not_true_eq_false, not_false_eq_true, zite10, eq_self, and_true, true_and, and_false, false_and, ↓reduceIte, Int32.reduceLT, Int32.reduceLE, Int32.reduceAdd, Int32.reduceSub, Int32.reduceMul]
  · refine ⟨-9223372036854775808, ?_, ?_⟩
    · simp +decide only [B165_0, B165_5, B165_15, B165_23, B165_26, B165_29, S183, hz, zbsome, zpu1, zpu0, cond_true, cond_false, zib0, zib1, zib_ite, zq00, zq20, zq22, zq90, zq99, zq40, zq44, zq100, zq1010, Bool.and_true, if_true, if_false, z1ne0, not_true_eq_false, not_false_eq_true, zite10, eq_self, and_true, true_and, and_false, false_and, ↓reduceIte, Int32.reduceLT, Int32.reduceLE, Int32.reduceAdd, Int32.reduceSub, Int32.reduceMul]
    · simp +decide only [B310_0, B310_6, B310_26, B308_0, B308_4, B308_47, B308_56, S305, hz, zbsome, zpu1, zpu0, cond_true, cond_false, zib0, zib1, zib_ite, zq00, zq20, zq22, zq90, zq99, zq40, zq44, zq100, zq1010, Bool.and_true, if_true, if_false, z1ne0, not_true_eq_false, not_false_eq_true, zite10, eq_self, and_true, true_and, and_false, false_and, ↓reduceIte, Int32.reduceLT, Int32.reduceLE, Int32.reduceAdd, Int32.reduceSub, Int32.reduceMul]
theorem zsL_eq {M : zM} {k i s : Nat} {v : Int64} {k' i' s' : Nat} : zgL (zsL M k i s v) k' i' s' = if k' = k ∧ i' = i ∧ s' = s then v else zgL M k' i' s' := rfl
/-- 'put' -/
theorem Q34 (d : Nat) (x1 x2 : Int32) (v : Int64) (u1 u2 u3 w1 w2 w3 : zV) (M : zM) (h : Rsh M) : ∃ (y : Int32) (M1 M2 : zM), zgo false (d + 3) 164 0 [zr 12 0, zi x1, zi x2, zl v, u1, u2, u3] [] M = some (some (zi y), M1) ∧ zgo false (d + 3) 309 0 [zr 13 0, zi x1, zi x2, zl v, w1, w2, w3] [] M1 = some (some (zi y), M2) ∧ zFr (zo 11) M M2 ∧ Rsh M2 := by
  by_cases hz : zin x1 6 = true
  · obtain ⟨s, hs, rfl⟩ := zin_of hz
    have hc : (nI s).toNatClampNeg = s := nI_clamp (by omega)
    have h0 := h s hs
    have hw := S308 d s x2 M hs h0
    by_cases h1 : zgI M 9 s 1 = 0
    · rw [if_pos h1] at hw
      refine ⟨-11, M, M, ?_, ?_, zFr_refl _ M, h⟩
      · simp +decide only [B164_0, B164_5, B164_20, B164_34, B164_45, S183, S100, hz, hc, h1, zbsome, zpu1, zpu0, cond_true, cond_false, zib0, zib1, zib_ite, zq00, zq20, zq22, zq90, zq99, zq40, zq44, zq100, zq1010, Bool.and_true, if_true, if_false, z1ne0, not_true_eq_false, not_false_eq_true, zite10, eq_self, and_true, true_and, and_false, false_and, ↓reduceIte, Int32.reduceLT, Int32.reduceLE, Int32.reduceAdd, Int32.reduceSub, Int32.reduceMul]
      · simp +decide only [B309_0, B309_6, B309_27, B309_95, hw, zbsome, zpu1, zpu0, cond_true, cond_false, zib0, zib1, zib_ite, zq00, zq20, zq22, zq90, zq99, zq40, zq44, zq100, zq1010, Bool.and_true, if_true, if_false, z1ne0, not_true_eq_false, not_false_eq_true, zite10, eq_self, and_true, true_and, and_false, false_and, ↓reduceIte, Int32.reduceLT, Int32.reduceLE, Int32.reduceAdd, Int32.reduceSub, Int32.reduceMul]
    by_cases h2 : zgI M 9 s 1 = 2
    · rw [if_neg h1, if_pos h2] at hw
      by_cases h3 : x2 < 0
      · rw [if_pos h3] at hw
        refine ⟨-13, M, M, ?_, ?_, zFr_refl _ M, h⟩
        · simp +decide only [B164_0, B164_5, B164_20, B164_34, B164_45, S183, S100, hz, hc, h1, h2, h3, zbsome, zpu1, zpu0, cond_true, cond_false, zib0, zib1, zib_ite, zq00, zq20, zq22, zq90, zq99, zq40, zq44, zq100, zq1010, Bool.and_true, if_true, if_false, z1ne0, not_true_eq_false, not_false_eq_true, zite10, eq_self, and_true, true_and, and_false, false_and, ↓reduceIte, Int32.reduceLT, Int32.reduceLE, Int32.reduceAdd, Int32.reduceSub, Int32.reduceMul]
        · simp +decide only [B309_0, B309_6, B309_27, B309_95, hw, zbsome, zpu1, zpu0, cond_true, cond_false, zib0, zib1, zib_ite, zq00, zq20, zq22, zq90, zq99, zq40, zq44, zq100, zq1010, Bool.and_true, if_true, if_false, z1ne0, not_true_eq_false, not_false_eq_true, zite10, eq_self, and_true, true_and, and_false, false_and, ↓reduceIte, Int32.reduceLT, Int32.reduceLE, Int32.reduceAdd, Int32.reduceSub, Int32.reduceMul]
      by_cases h4 : zgI M 9 s 3 ≤ x2
      · rw [if_neg h3, if_pos h4] at hw
        refine ⟨-13, M, M, ?_, ?_, zFr_refl _ M, h⟩
        · simp +decide only [B164_0, B164_5, B164_20, B164_34, B164_45, S183, S100, hz, hc, h1, h2, h3, h4, zbsome, zpu1, zpu0, cond_true, cond_false, zib0, zib1, zib_ite, zq00, zq20, zq22, zq90, zq99, zq40, zq44, zq100, zq1010, Bool.and_true, if_true, if_false, z1ne0, not_true_eq_false, not_false_eq_true, zite10, eq_self, and_true, true_and, and_false, false_and, ↓reduceIte, Int32.reduceLT, Int32.reduceLE, Int32.reduceAdd, Int32.reduceSub, Int32.reduceMul]
        · simp +decide only [B309_0, B309_6, B309_27, B309_95, hw, zbsome, zpu1, zpu0, cond_true, cond_false, zib0, zib1, zib_ite, zq00, zq20, zq22, zq90, zq99, zq40, zq44, zq100, zq1010, Bool.and_true, if_true, if_false, z1ne0, not_true_eq_false, not_false_eq_true, zite10, eq_self, and_true, true_and, and_false, false_and, ↓reduceIte, Int32.reduceLT, Int32.reduceLE, Int32.reduceAdd, Int32.reduceSub, Int32.reduceMul]
      · rw [if_neg h3, if_neg h4] at hw
        obtain ⟨j, hj, rfl⟩ := zSh_in h0 h2 h3 h4
        obtain ⟨g1, g2, g3, g4, g, g6⟩ := zSh_sz h0 h2
        have e60 : (60 : Int32) * nI s + nI j = nI (60 * s + j) := by rw [show (60 : Int32) = nI 60 from rfl, pk_mul, nI_add]
        have z2 : zin (nI (60 * s + j)) 360 = true := zin_nI (by omega) (by omega)
        have c2 : (nI (60 * s + j)).toNatClampNeg = 60 * s + j := nI_clamp (by omega)
        have hs1 : zgI M 9 s 2 = 0 ∨ zgI M 9 s 2 = 1 ∨ zgI M 9 s 2 = 2 ∨ zgI M 9 s 2 = 3 ∨ zgI M 9 s 2 = 4 := by grind
        have hq : (-2) - (-2 - zgI M 9 s 2) = zgI M 9 s 2 := by grind
        have hw' : zgo false (d + 2) 308 0 [zr 13 0, zi (nI s), zi (nI j)] [] (zsL M 45 s j (zlow (zgI M 9 s 2) v)) = some (some (zi 0), zsL M 45 s j (zlow (zgI M 9 s 2) v)) := by
          have q1 : ¬ (-2 - zgI M 9 s 2) = -1 := by grind
          have q2 : (-2 - zgI M 9 s 2) < 0 := by grind
          have q3 : (0 ≤ nI j ∧ nI j ≤ zgI M 111 0 s - 1) := by grind
          simp +decide only [B308_0, B308_4, B308_47, B308_56, S305, S_in, hz, hc, zgI_sL, g2, q1, q2, q3, zbsome, zpu1, zpu0, cond_true, cond_false, zib0, zib1, zib_ite, zq00, zq20, zq22, zq90, zq99, zq40, zq44, zq100, zq1010, Bool.and_true, if_true, if_false, z1ne0, not_true_eq_false, not_false_eq_true, zite10, eq_self, and_true, true_and, and_false, false_and, ↓reduceIte, Int32.reduceLT, Int32.reduceLE, Int32.reduceAdd, Int32.reduceSub, Int32.reduceMul]
        refine ⟨1, zsL M 45 s j (zlow (zgI M 9 s 2) v), zsL (zsL M 45 s j (zlow (zgI M 9 s 2) v)) 112 0 (60 * s + j) (zlow (zgI M 9 s 2) v), ?_, ?_, zFr_sL (zFr_sL (zFr_refl _ M) rfl) rfl, fun s' hs' => ?_⟩
        · simp +decide only [B164_0, B164_5, B164_20, B164_34, B164_45, S183, S100, S102 _ _ _ _ _ _ hj g1, hz, hc, h1, h2, h3, h4, zbsome, zpu1, zpu0, cond_true, cond_false, zib0, zib1, zib_ite, zq00, zq20, zq22, zq90, zq99, zq40, zq44, zq100, zq1010, Bool.and_true, if_true, if_false, z1ne0, not_true_eq_false, not_false_eq_true, zite10, eq_self, and_true, true_and, and_false, false_and, ↓reduceIte, Int32.reduceLT, Int32.reduceLE, Int32.reduceAdd, Int32.reduceSub, Int32.reduceMul]
        · simp +decide only [B309_0, B309_6, B309_27, B309_95, hw', e60, z2, c2, hz, hc, zgI_sL, g2, hq, zbsome, zpu1, zpu0, cond_true, cond_false, zib0, zib1, zib_ite, zq00, zq20, zq22, zq90, zq99, zq40, zq44, zq100, zq1010, Bool.and_true, if_true, if_false, z1ne0, not_true_eq_false, not_false_eq_true, zite10, eq_self, and_true, true_and, and_false, false_and, ↓reduceIte, Int32.reduceLT, Int32.reduceLE, Int32.reduceAdd, Int32.reduceSub, Int32.reduceMul]
          rcases hs1 with q | q | q | q | q
          · simp +decide only [q, zlow, zbsome, zpu1, zpu0, cond_true, cond_false, zib0, zib1, zib_ite, zq00, zq20, zq22, zq90, zq99, zq40, zq44, zq100, zq1010, Bool.and_true, if_true, if_false, z1ne0, not_true_eq_false, not_false_eq_true, zite10, eq_self, and_true, true_and, and_false, false_and, ↓reduceIte, Int32.reduceLT, Int32.reduceLE, Int32.reduceAdd, Int32.reduceSub, Int32.reduceMul]
          · simp +decide only [q, zlow, zbsome, zpu1, zpu0, cond_true, cond_false, zib0, zib1, zib_ite, zq00, zq20, zq22, zq90, zq99, zq40, zq44, zq100, zq1010, Bool.and_true, if_true, if_false, z1ne0, not_true_eq_false, not_false_eq_true, zite10, eq_self, and_true, true_and, and_false, false_and, ↓reduceIte, Int32.reduceLT, Int32.reduceLE, Int32.reduceAdd, Int32.reduceSub, Int32.reduceMul]
          · simp +decide only [q, zlow, zbsome, zpu1, zpu0, cond_true, cond_false, zib0, zib1, zib_ite, zq00, zq20, zq22, zq90, zq99, zq40, zq44, zq100, zq1010, Bool.and_true, if_true, if_false, z1ne0, not_true_eq_false, not_false_eq_true, zite10, eq_self, and_true, true_and, and_false, false_and, ↓reduceIte, Int32.reduceLT, Int32.reduceLE, Int32.reduceAdd, Int32.reduceSub, Int32.reduceMul]
          · simp +decide only [q, zlow, zbsome, zpu1, zpu0, cond_true, cond_false, zib0, zib1, zib_ite, zq00, zq20, zq22, zq90, zq99, zq40, zq44, zq100, zq1010, Bool.and_true, if_true, if_false, z1ne0, not_true_eq_false, not_false_eq_true, zite10, eq_self, and_true, true_and, and_false, false_and, ↓reduceIte, Int32.reduceLT, Int32.reduceLE, Int32.reduceAdd, Int32.reduceSub, Int32.reduceMul]
          · by_cases q2 : lg_cmp v 0 = 0
            · simp +decide only [q, zlow, q2, zbsome, zpu1, zpu0, cond_true, cond_false, zib0, zib1, zib_ite, zq00, zq20, zq22, zq90, zq99, zq40, zq44, zq100, zq1010, Bool.and_true, if_true, if_false, z1ne0, not_true_eq_false, not_false_eq_true, zite10, eq_self, and_true, true_and, and_false, false_and, ↓reduceIte, Int32.reduceLT, Int32.reduceLE, Int32.reduceAdd, Int32.reduceSub, Int32.reduceMul]
            · simp +decide only [q, zlow, q2, zbsome, zpu1, zpu0, cond_true, cond_false, zib0, zib1, zib_ite, zq00, zq20, zq22, zq90, zq99, zq40, zq44, zq100, zq1010, Bool.and_true, if_true, if_false, z1ne0, not_true_eq_false, not_false_eq_true, zite10, eq_self, and_true, true_and, and_false, false_and, ↓reduceIte, Int32.reduceLT, Int32.reduceLE, Int32.reduceAdd, Int32.reduceSub, Int32.reduceMul]
        · by_cases e : s' = s
          · subst e
            refine Or.inr (Or.inr ⟨h2, g1, g2, g3, g4, fun i hi => ?_, fun i hi => ?_⟩)
            · have := g i hi
              rw [zsL_eq, zsL_eq, zsL_eq, zsL_eq]
              grind
            · show zlow (zgI M 9 s' 2) _ = _
              rw [zsL_eq, zsL_eq, if_neg (by omega)]
              by_cases t : 45 = 45 ∧ s' = s' ∧ i = j
              · rw [if_pos t]
                exact zlow_idem _ v
              · rw [if_neg t]
                exact g6 i hi
          · refine zSh1_eq (h s' hs') rfl rfl rfl rfl rfl rfl (fun i hi => ?_) (fun i hi => ?_) rfl
            · rw [zsL_eq, zsL_eq, if_neg (by omega), if_neg (by omega)]
            · rw [zsL_eq, zsL_eq, if_neg (by omega), if_neg (by omega)]
    · rw [if_neg h1, if_neg h2] at hw
      refine ⟨-12, M, M, ?_, ?_, zFr_refl _ M, h⟩
      · simp +decide only [B164_0, B164_5, B164_20, B164_34, B164_45, S183, S100, hz, hc, h1, h2, zbsome, zpu1, zpu0, cond_true, cond_false, zib0, zib1, zib_ite, zq00, zq20, zq22, zq90, zq99, zq40, zq44, zq100, zq1010, Bool.and_true, if_true, if_false, z1ne0, not_true_eq_false, not_false_eq_true, zite10, eq_self, and_true, true_and, and_false, false_and, ↓reduceIte, Int32.reduceLT, Int32.reduceLE, Int32.reduceAdd, Int32.reduceSub, Int32.reduceMul]
      · simp +decide only [B309_0, B309_6, B309_27, B309_95, hw, zbsome, zpu1, zpu0, cond_true, cond_false, zib0, zib1, zib_ite, zq00, zq20, zq22, zq90, zq99, zq40, zq44, zq100, zq1010, Bool.and_true, if_true, if_false, z1ne0, not_true_eq_false, not_false_eq_true, zite10, eq_self, and_true, true_and, and_false, false_and, ↓reduceIte, Int32.reduceLT, Int32.reduceLE, Int32.reduceAdd, Int32.reduceSub, Int32.reduceMul]
  · refine ⟨-1, M, M, ?_, ?_, zFr_refl _ M, h⟩
    · simp +decide only [B164_0, B164_5, B164_20, B164_34, B164_45, S183, hz, zbsome, zpu1, zpu0, cond_true, cond_false, zib0, zib1, zib_ite, zq00, zq20, zq22, zq90, zq99, zq40, zq44, zq100, zq1010, Bool.and_true, if_true, if_false, z1ne0, not_true_eq_false, not_false_eq_true, zite10, eq_self, and_true, true_and, and_false, false_and, ↓reduceIte, Int32.reduceLT, Int32.reduceLE, Int32.reduceAdd, Int32.reduceSub, Int32.reduceMul]
    · simp +decide only [B309_0, B309_6, B309_27, B309_95, B308_0, B308_4, B308_47, B308_56, S305, hz, zbsome, zpu1, zpu0, cond_true, cond_false, zib0, zib1, zib_ite, zq00, zq20, zq22, zq90, zq99, zq40, zq44, zq100, zq1010, Bool.and_true, if_true, if_false, z1ne0, not_true_eq_false, not_false_eq_true, zite10, eq_self, and_true, true_and, and_false, false_and, ↓reduceIte, Int32.reduceLT, Int32.reduceLE, Int32.reduceAdd, Int32.reduceSub, Int32.reduceMul]
