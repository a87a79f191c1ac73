/-! ===== shelves: shift, taken, two ===== -/
theorem zSh_vals {M : zM} {s : Nat} (h : zSh1 M s) : (zgI M 9 s 1 = 0 ↔ zgI M 110 0 s = -1) ∧ (zgI M 9 s 1 = 2 ↔ ¬ 0 ≤ zgI M 110 0 s ∧ ¬ zgI M 9 s 1 = 0) ∧ (zgI M 9 s 1 = 1 ↔ 0 ≤ zgI M 110 0 s) ∧ (zgI M 9 s 1 = 0 ∨ zgI M 9 s 1 = 1 ∨ zgI M 9 s 1 = 2) := by
  rcases h with ⟨h1, h2⟩ | ⟨h1, h2, h3, h4⟩ | ⟨h1, h2, h3, h4, h5, -⟩
  · grind
  · grind
  · grind
/-- 'shift' -/
theorem Q36 (d : Nat) (x1 x2 x3 x4 x5 : Int32) (u1 u2 u3 : zV) (M : zM) (h : Rsh M) : ∃ (y : Int32) (M1 M2 : zM), zgo false (d + 3) 166 0 [zr 12 0, zi x1, zi x2, zi x3, zi x4, zi x5, u1, u2] [] M = some (some (zi y), M1) ∧ zgo false (d + 3) 311 0 [zr 13 0, zi x1, zi x2, zi x3, zi x4, zi x5, u3] [] M1 = some (some (zi y), M2) ∧ zFr (fun n => zo 11 n || Nat.beq n 32) M M2 ∧ Rsh M2 := by
  by_cases hz : zin x1 6 = true
  case neg =>
    refine ⟨-1, M, M, ?_, ?_, zFr_refl _ M, h⟩
    · by_cases hz2 : zin x3 6 = true
      · simp +decide only [B166_0, B166_5, B166_12, B166_24, B166_31, B166_39, B166_42, B166_55, B166_68, B166_71, B166_82, B166_94, B166_97, B166_112, S183, hz, hz2, zbsome, zpu1, zpu0, cond_true, cond_false, zib0, zib1, zib_ite, zq00, zq20, zq22, zq90, zq99, zq40, zq44, zq100, zq1010, Bool.and_true, if_true, if_false, z1ne0, not_true_eq_false, not_false_eq_true, zite10, eq_self, and_true, true_and, and_false, false_and, ↓reduceIte, Int32.reduceLT, Int32.reduceLE, Int32.reduceAdd, Int32.reduceSub, Int32.reduceMul]
      · simp +decide only [B166_0, B166_5, B166_12, B166_24, B166_31, B166_39, B166_42, B166_55, B166_68, B166_71, B166_82, B166_94, B166_97, B166_112, S183, hz, hz2, zbsome, zpu1, zpu0, cond_true, cond_false, zib0, zib1, zib_ite, zq00, zq20, zq22, zq90, zq99, zq40, zq44, zq100, zq1010, Bool.and_true, if_true, if_false, z1ne0, not_true_eq_false, not_false_eq_true, zite10, eq_self, and_true, true_and, and_false, false_and, ↓reduceIte, Int32.reduceLT, Int32.reduceLE, Int32.reduceAdd, Int32.reduceSub, Int32.reduceMul]
    · simp +decide only [B311_0, B311_4, B311_11, B311_14, B311_36, B311_63, B311_107, S305, hz, zbsome, zpu1, zpu0, cond_true, cond_false, zib0, zib1, zib_ite, zq00, zq20, zq22, zq90, zq99, zq40, zq44, zq100, zq1010, Bool.and_true, if_true, if_false, z1ne0, not_true_eq_false, not_false_eq_true, zite10, eq_self, and_true, true_and, and_false, false_and, ↓reduceIte, Int32.reduceLT, Int32.reduceLE, Int32.reduceAdd, Int32.reduceSub, Int32.reduceMul]
  by_cases hz2 : zin x3 6 = true
  case neg =>
    refine ⟨-1, M, M, ?_, ?_, zFr_refl _ M, h⟩
    · simp +decide only [B166_0, B166_5, B166_12, B166_24, B166_31, B166_39, B166_42, B166_55, B166_68, B166_71, B166_82, B166_94, B166_97, B166_112, S183, hz, hz2, zbsome, zpu1, zpu0, cond_true, cond_false, zib0, zib1, zib_ite, zq00, zq20, zq22, zq90, zq99, zq40, zq44, zq100, zq1010, Bool.and_true, if_true, if_false, z1ne0, not_true_eq_false, not_false_eq_true, zite10, eq_self, and_true, true_and, and_false, false_and, ↓reduceIte, Int32.reduceLT, Int32.reduceLE, Int32.reduceAdd, Int32.reduceSub, Int32.reduceMul]
    · simp +decide only [B311_0, B311_4, B311_11, B311_14, B311_36, B311_63, B311_107, S305, hz, hz2, zbsome, zpu1, zpu0, cond_true, cond_false, zib0, zib1, zib_ite, zq00, zq20, zq22, zq90, zq99, zq40, zq44, zq100, zq1010, Bool.and_true, if_true, if_false, z1ne0, not_true_eq_false, not_false_eq_true, zite10, eq_self, and_true, true_and, and_false, false_and, ↓reduceIte, Int32.reduceLT, Int32.reduceLE, Int32.reduceAdd, Int32.reduceSub, Int32.reduceMul]
  obtain ⟨s, hs, rfl⟩ := zin_of hz
  obtain ⟨o, ho, rfl⟩ := zin_of hz2
  have hc : (nI s).toNatClampNeg = s := nI_clamp (by omega)
  have hc2 : (nI o).toNatClampNeg = o := nI_clamp (by omega)
  have h0 := h s hs
  have h1 := h o ho
  obtain ⟨a1, a2, a3, a4⟩ := zSh_vals h0
  obtain ⟨b1, b2, b3, b4⟩ := zSh_vals h1
  by_cases c1 : zgI M 9 s 1 = 0
  · have c1' := a1.mp c1
    refine ⟨-11, M, M, ?_, ?_, zFr_refl _ M, h⟩
    · simp +decide only [B166_0, B166_5, B166_12, B166_24, B166_31, B166_39, B166_42, B166_55, B166_68, B166_71, B166_82, B166_94, B166_97, B166_112, S183, S94, hz, hz2, hc, hc2, c1, zbsome, zpu1, zpu0, cond_true, cond_false, zib0, zib1, zib_ite, zq00, zq20, zq22, zq90, zq99, zq40, zq44, zq100, zq1010, Bool.and_true, if_true, if_false, z1ne0, not_true_eq_false, not_false_eq_true, zite10, eq_self, and_true, true_and, and_false, false_and, ↓reduceIte, Int32.reduceLT, Int32.reduceLE, Int32.reduceAdd, Int32.reduceSub, Int32.reduceMul]
    · simp +decide only [B311_0, B311_4, B311_11, B311_14, B311_36, B311_63, B311_107, S305, hz, hz2, hc, hc2, c1', zbsome, zpu1, zpu0, cond_true, cond_false, zib0, zib1, zib_ite, zq00, zq20, zq22, zq90, zq99, zq40, zq44, zq100, zq1010, Bool.and_true, if_true, if_false, z1ne0, not_true_eq_false, not_false_eq_true, zite10, eq_self, and_true, true_and, and_false, false_and, ↓reduceIte, Int32.reduceLT, Int32.reduceLE, Int32.reduceAdd, Int32.reduceSub, Int32.reduceMul]
  have c1' : ¬ zgI M 110 0 s = -1 := fun q => c1 (a1.mpr q)
  by_cases c2 : zgI M 9 o 1 = 0
  · have c2' := b1.mp c2
    refine ⟨-11, M, M, ?_, ?_, zFr_refl _ M, h⟩
    · simp +decide only [B166_0, B166_5, B166_12, B166_24, B166_31, B166_39, B166_42, B166_55, B166_68, B166_71, B166_82, B166_94, B166_97, B166_112, S183, S94, hz, hz2, hc, hc2, c1, c2, zbsome, zpu1, zpu0, cond_true, cond_false, zib0, zib1, zib_ite, zq00, zq20, zq22, zq90, zq99, zq40, zq44, zq100, zq1010, Bool.and_true, if_true, if_false, z1ne0, not_true_eq_false, not_false_eq_true, zite10, eq_self, and_true, true_and, and_false, false_and, ↓reduceIte, Int32.reduceLT, Int32.reduceLE, Int32.reduceAdd, Int32.reduceSub, Int32.reduceMul]
    · simp +decide only [B311_0, B311_4, B311_11, B311_14, B311_36, B311_63, B311_107, S305, hz, hz2, hc, hc2, c1', c2', zbsome, zpu1, zpu0, cond_true, cond_false, zib0, zib1, zib_ite, zq00, zq20, zq22, zq90, zq99, zq40, zq44, zq100, zq1010, Bool.and_true, if_true, if_false, z1ne0, not_true_eq_false, not_false_eq_true, zite10, eq_self, and_true, true_and, and_false, false_and, ↓reduceIte, Int32.reduceLT, Int32.reduceLE, Int32.reduceAdd, Int32.reduceSub, Int32.reduceMul]
  have c2' : ¬ zgI M 110 0 o = -1 := fun q => c2 (b1.mpr q)
  by_cases c3 : zgI M 9 s 1 = 2
  case neg =>
    have c3' : 0 ≤ zgI M 110 0 s := by grind
    refine ⟨-12, M, M, ?_, ?_, zFr_refl _ M, h⟩
    · simp +decide only [B166_0, B166_5, B166_12, B166_24, B166_31, B166_39, B166_42, B166_55, B166_68, B166_71, B166_82, B166_94, B166_97, B166_112, S183, S94, S96, hz, hz2, hc, hc2, c1, c2, c3, zbsome, zpu1, zpu0, cond_true, cond_false, zib0, zib1, zib_ite, zq00, zq20, zq22, zq90, zq99, zq40, zq44, zq100, zq1010, Bool.and_true, if_true, if_false, z1ne0, not_true_eq_false, not_false_eq_true, zite10, eq_self, and_true, true_and, and_false, false_and, ↓reduceIte, Int32.reduceLT, Int32.reduceLE, Int32.reduceAdd, Int32.reduceSub, Int32.reduceMul]
    · simp +decide only [B311_0, B311_4, B311_11, B311_14, B311_36, B311_63, B311_107, S305, hz, hz2, hc, hc2, c1', c2', c3', zbsome, zpu1, zpu0, cond_true, cond_false, zib0, zib1, zib_ite, zq00, zq20, zq22, zq90, zq99, zq40, zq44, zq100, zq1010, Bool.and_true, if_true, if_false, z1ne0, not_true_eq_false, not_false_eq_true, zite10, eq_self, and_true, true_and, and_false, false_and, ↓reduceIte, Int32.reduceLT, Int32.reduceLE, Int32.reduceAdd, Int32.reduceSub, Int32.reduceMul]
  have c3' : ¬ 0 ≤ zgI M 110 0 s := by grind
  obtain ⟨g1, g2, g3, g4, g5, g6⟩ := zSh_sz h0 c3
  by_cases c4 : zgI M 9 o 1 = 2 ∧ zgI M 9 o 2 = zgI M 9 s 2
  case neg =>
    have c4' : ¬ zgI M 110 0 s = zgI M 110 0 o := by
      intro q
      by_cases e : zgI M 9 o 1 = 2
      · have := (zSh_sz h1 e).2.1
        grind
      · grind
    refine ⟨-12, M, M, ?_, ?_, zFr_refl _ M, h⟩
    · by_cases e : zgI M 9 o 1 = 2
      · have e2 : ¬ zgI M 9 o 2 = zgI M 9 s 2 := fun q => c4 ⟨e, q⟩
        simp +decide only [B166_0, B166_5, B166_12, B166_24, B166_31, B166_39, B166_42, B166_55, B166_68, B166_71, B166_82, B166_94, B166_97, B166_112, S183, S94, S96, hz, hz2, hc, hc2, c1, c2, c3, e, e2, zbsome, zpu1, zpu0, cond_true, cond_false, zib0, zib1, zib_ite, zq00, zq20, zq22, zq90, zq99, zq40, zq44, zq100, zq1010, Bool.and_true, if_true, if_false, z1ne0, not_true_eq_false, not_false_eq_true, zite10, eq_self, and_true, true_and, and_false, false_and, ↓reduceIte, Int32.reduceLT, Int32.reduceLE, Int32.reduceAdd, Int32.reduceSub, Int32.reduceMul]
      · simp +decide only [B166_0, B166_5, B166_12, B166_24, B166_31, B166_39, B166_42, B166_55, B166_68, B166_71, B166_82, B166_94, B166_97, B166_112, S183, S94, S96, hz, hz2, hc, hc2, c1, c2, c3, e, zbsome, zpu1, zpu0, cond_true, cond_false, zib0, zib1, zib_ite, zq00, zq20, zq22, zq90, zq99, zq40, zq44, zq100, zq1010, Bool.and_true, if_true, if_false, z1ne0, not_true_eq_false, not_false_eq_true, zite10, eq_self, and_true, true_and, and_false, false_and, ↓reduceIte, Int32.reduceLT, Int32.reduceLE, Int32.reduceAdd, Int32.reduceSub, Int32.reduceMul]
    · simp +decide only [B311_0, B311_4, B311_11, B311_14, B311_36, B311_63, B311_107, S305, hz, hz2, hc, hc2, c1', c2', c3', c4', zbsome, zpu1, zpu0, cond_true, cond_false, zib0, zib1, zib_ite, zq00, zq20, zq22, zq90, zq99, zq40, zq44, zq100, zq1010, Bool.and_true, if_true, if_false, z1ne0, not_true_eq_false, not_false_eq_true, zite10, eq_self, and_true, true_and, and_false, false_and, ↓reduceIte, Int32.reduceLT, Int32.reduceLE, Int32.reduceAdd, Int32.reduceSub, Int32.reduceMul]
  obtain ⟨c4, c5⟩ := c4
  obtain ⟨k1, k2, k3, k4, k5, k6⟩ := zSh_sz h1 c4
  have c4' : zgI M 110 0 s = zgI M 110 0 o := by grind
  have s1 : 0 ≤ zgI M 9 s 3 ∧ zgI M 9 s 3 ≤ 60 := by grind
  have s2 : 0 ≤ zgI M 9 o 3 ∧ zgI M 9 o 3 ≤ 60 := by grind
  have t1 := fun d => S104 d s x2 x5 M s1
  have t2 := fun d => S104 d o x4 x5 M s2
  have c3o : ¬ 0 ≤ zgI M 110 0 o := by rw [← c4']; exact c3'
  rcases zstv_c (n := x5) (x := x2) s1 with ⟨p1, r1⟩ | ⟨p1, r1, r2, r3, r4, r5, r6, r7, r8, r9⟩
  · refine ⟨-13, M, M, ?_, ?_, zFr_refl _ M, h⟩
    · simp +decide only [B166_0, B166_5, B166_12, B166_24, B166_31, B166_39, B166_42, B166_55, B166_68, B166_71, B166_82, B166_94, B166_97, B166_112, S183, S94, S96, t1, t2, hz, hz2, hc, hc2, c1, c2, c3, c4, c5, p1, zbsome, zpu1, zpu0, cond_true, cond_false, zib0, zib1, zib_ite, zq00, zq20, zq22, zq90, zq99, zq40, zq44, zq100, zq1010, Bool.and_true, if_true, if_false, z1ne0, not_true_eq_false, not_false_eq_true, zite10, eq_self, and_true, true_and, and_false, false_and, ↓reduceIte, Int32.reduceLT, Int32.reduceLE, Int32.reduceAdd, Int32.reduceSub, Int32.reduceMul]
    · rw [g3] at r1
      simp +decide only [B311_0, B311_4, B311_11, B311_14, B311_36, B311_63, B311_107, S305, hz, hz2, hc, hc2, c1', c2', c3', c4', c3o, zbsome, zpu1, zpu0, cond_true, cond_false, zib0, zib1, zib_ite, zq00, zq20, zq22, zq90, zq99, zq40, zq44, zq100, zq1010, Bool.and_true, if_true, if_false, z1ne0, not_true_eq_false, not_false_eq_true, zite10, eq_self, and_true, true_and, and_false, false_and, ↓reduceIte, Int32.reduceLT, Int32.reduceLE, Int32.reduceAdd, Int32.reduceSub, Int32.reduceMul]
      rcases r1 with r1 | r1 | ⟨r1, r2, r3⟩
      · rw [if_pos r1]
      · rw [if_pos r1, ite_self]
      · rw [if_neg r1, if_neg r2, if_pos r3, ite_self]
  rcases zstv_c (n := x5) (x := x4) s2 with ⟨p2, q1⟩ | ⟨p2, q1, q2, q3, q4, q5, q6, q7, q8, q9⟩
  · refine ⟨-13, M, M, ?_, ?_, zFr_refl _ M, h⟩
    · simp +decide only [B166_0, B166_5, B166_12, B166_24, B166_31, B166_39, B166_42, B166_55, B166_68, B166_71, B166_82, B166_94, B166_97, B166_112, S183, S94, S96, t1, t2, hz, hz2, hc, hc2, c1, c2, c3, c4, c5, p1, p2, zbsome, zpu1, zpu0, cond_true, cond_false, zib0, zib1, zib_ite, zq00, zq20, zq22, zq90, zq99, zq40, zq44, zq100, zq1010, Bool.and_true, if_true, if_false, z1ne0, not_true_eq_false, not_false_eq_true, zite10, eq_self, and_true, true_and, and_false, false_and, ↓reduceIte, Int32.reduceLT, Int32.reduceLE, Int32.reduceAdd, Int32.reduceSub, Int32.reduceMul]
    · rw [k3] at q1
      rw [g3] at r3
      simp +decide only [B311_0, B311_4, B311_11, B311_14, B311_36, B311_63, B311_107, S305, hz, hz2, hc, hc2, c1', c2', c3', c4', c3o, r1, r2, r3, zbsome, zpu1, zpu0, cond_true, cond_false, zib0, zib1, zib_ite, zq00, zq20, zq22, zq90, zq99, zq40, zq44, zq100, zq1010, Bool.and_true, if_true, if_false, z1ne0, not_true_eq_false, not_false_eq_true, zite10, eq_self, and_true, true_and, and_false, false_and, ↓reduceIte, Int32.reduceLT, Int32.reduceLE, Int32.reduceAdd, Int32.reduceSub, Int32.reduceMul]
      rcases q1 with q1 | q1 | ⟨q1, q2, q3⟩
      · exact absurd q1 r1
      · rw [if_pos q1]
      · rw [if_neg q2, if_neg]
        exact z_lt_nle q3
  obtain ⟨n, hn, rfl⟩ := zin_of (zin64.mpr ⟨by grind, by grind⟩ : zin x5 64 = true)
  obtain ⟨i, hi, rfl⟩ := zin_of (zin64.mpr ⟨by grind, by grind⟩ : zin x2 64 = true)
  obtain ⟨j, hj, rfl⟩ := zin_of (zin64.mpr ⟨by grind, by grind⟩ : zin x4 64 = true)
  have w1 : i + n ≤ 60 := by
    rw [nI_add, show (60 : Int32) = nI 60 from rfl, nI_leI (by omega) (by omega)] at r9
    exact r9
  have w2 : j + n ≤ 60 := by
    rw [nI_add, show (60 : Int32) = nI 60 from rfl, nI_leI (by omega) (by omega)] at q9
    exact q9
  obtain ⟨M1, e1, f1, v1⟩ := S105 d s o i j n zu M w1 w2 k1 (by rw [c5]; exact g6)
  obtain ⟨M2, e2, f2, v2⟩ := L311a (d + 3) s o i j n w1 hs n 0 M1 (by omega)
  obtain ⟨M3, e3, f3, v3⟩ := L311b (d + 3) s o i j n w2 ho n 0 M2 (by omega)
  have a : ∀ k i t, zgI M3 k i t = zgI M k i t ∨ k = 113 ∨ k = 112 ∨ k = 45 := fun k i t => by
    by_cases q : k = 113 ∨ k = 112 ∨ k = 45
    · exact Or.inr q
    · exact Or.inl (((f3 k i t (by omega)).1.trans (f2 k i t (by omega)).1).trans (f1 k i t (by omega)).1)
  refine ⟨nI n, M1, M3, ?_, ?_, ?_, fun s' hs' => ?_⟩
  · simp +decide only [B166_0, B166_5, B166_12, B166_24, B166_31, B166_39, B166_42, B166_55, B166_68, B166_71, B166_82, B166_94, B166_97, B166_112, S183, S94, S96, t1, t2, hz, hz2, hc, hc2, c1, c2, c3, c4, c5, p1, p2, e1, zbsome, zpu1, zpu0, cond_true, cond_false, zib0, zib1, zib_ite, zq00, zq20, zq22, zq90, zq99, zq40, zq44, zq100, zq1010, Bool.and_true, if_true, if_false, z1ne0, not_true_eq_false, not_false_eq_true, zite10, eq_self, and_true, true_and, and_false, false_and, ↓reduceIte, Int32.reduceLT, Int32.reduceLE, Int32.reduceAdd, Int32.reduceSub, Int32.reduceMul]
  · have r : ∀ k t, k = 110 ∨ k = 111 → zgI M1 k 0 t = zgI M k 0 t := fun k t q => (f1 k 0 t (by omega)).1
    simp +decide only [B311_0, B311_4, B311_11, B311_14, B311_36, B311_63, B311_107, S305, hz, hz2, hc, hc2, r 110 s (Or.inl rfl), r 110 o (Or.inl rfl), r 111 s (Or.inr rfl), r 111 o (Or.inr rfl), c1', c2', c3', c4', zbsome, zpu1, zpu0, cond_true, cond_false, zib0, zib1, zib_ite, zq00, zq20, zq22, zq90, zq99, zq40, zq44, zq100, zq1010, Bool.and_true, if_true, if_false, z1ne0, not_true_eq_false, not_false_eq_true, zite10, eq_self, and_true, true_and, and_false, false_and, ↓reduceIte, Int32.reduceLT, Int32.reduceLE, Int32.reduceAdd, Int32.reduceSub, Int32.reduceMul]
    rw [g3] at r3
    rw [k3] at q4
    simp +decide only [r1, r2, q2, r3, q4, c3o, c2', zbsome, zpu1, zpu0, cond_true, cond_false, zib0, zib1, zib_ite, zq00, zq20, zq22, zq90, zq99, zq40, zq44, zq100, zq1010, Bool.and_true, if_true, if_false, z1ne0, not_true_eq_false, not_false_eq_true, zite10, eq_self, and_true, true_and, and_false, false_and, ↓reduceIte, Int32.reduceLT, Int32.reduceLE, Int32.reduceAdd, Int32.reduceSub, Int32.reduceMul]
    exact e2.trans e3
  · refine zFr_trans (zFr_of f1 (fun k i s q => by rw [q.1]; rfl)) (zFr_trans (zFr_of f2 (fun k i s q => by rw [q.1]; rfl)) (zFr_of f3 (fun k i s q => by rw [q.1]; rfl)))
  · have b45 : ∀ i t, zgL M3 45 i t = zgL M1 45 i t := fun i t => ((f3 45 i t (by omega)).2.1).trans (f2 45 i t (by omega)).2.1
    have b112 : ∀ t, zgL M2 112 0 t = zgL M 112 0 t := fun t => ((f2 112 0 t (by omega)).2.1).trans (f1 112 0 t (by omega)).2.1
    have m : ∀ t, t < 60 → zgL M3 112 0 (60 * s' + t) = if s' = o ∧ j ≤ t ∧ t < j + n then zgL M 112 0 (60 * s + (i + t - j)) else zgL M 112 0 (60 * s' + t) := fun t ht => by
      rw [v3]
      by_cases q : s' = o ∧ j ≤ t ∧ t < j + n
      · rw [if_pos q, if_pos (by omega), v2, if_pos (by omega), (f1 112 0 _ (by omega)).2.1]
        congr 1
        omega
      · rw [if_neg q, if_neg (by omega), b112]
    have cl : ∀ t, t < 60 → zgL M3 45 s' t = if s' = o ∧ j ≤ t ∧ t < j + n then zgL M 45 s (i + t - j) else zgL M 45 s' t := fun t ht => by
      rw [b45]
      by_cases q : s' = o
      · subst q
        rw [v1 t ht]
        by_cases q2 : j ≤ t ∧ t < j + n
        · rw [if_pos q2, if_pos ⟨rfl, q2⟩]
        · rw [if_neg q2, if_neg (fun r => q2 r.2)]
      · rw [if_neg (fun r => q r.1)]
        exact (f1 45 s' t (by omega)).2.1
    have r : ∀ k i t, k = 9 ∨ k = 110 ∨ k = 111 ∨ k = 13 → zgI M3 k i t = zgI M k i t := fun k i t q => (a k i t).resolve_right (by omega)
    by_cases q : s' = o
    · subst q
      refine Or.inr (Or.inr ⟨?_, ?_, ?_, ?_, ?_, fun t ht => ?_, fun t ht => ?_⟩)
      · rw [r 9 _ _ (by omega)]; exact c4
      · rw [r 9 _ _ (by omega)]; exact k1
      · rw [r 9 _ _ (by omega), r 110 _ _ (by omega)]; exact k2
      · rw [r 9 _ _ (by omega), r 111 _ _ (by omega)]; exact k3
      · rw [r 111 _ _ (by omega)]; exact k4
      · rw [cl t ht, m t ht]
        by_cases q2 : s' = s' ∧ j ≤ t ∧ t < j + n
        · rw [if_pos q2, if_pos q2]
          exact g5 (i + t - j) (by omega)
        · rw [if_neg q2, if_neg q2]
          exact k5 t ht
      · rw [cl t ht, r 9 _ _ (by omega)]
        by_cases q2 : s' = s' ∧ j ≤ t ∧ t < j + n
        · rw [if_pos q2, c5]
          exact g6 (i + t - j) (by omega)
        · rw [if_neg q2]
          exact k6 t ht
    · refine zSh1_eq (h s' hs') (r 9 _ _ (by omega)) (r 9 _ _ (by omega)) (r 9 _ _ (by omega)) (r 9 _ _ (by omega)) (r 110 _ _ (by omega)) (r 111 _ _ (by omega)) (fun t ht => ?_) (fun t ht => ?_) (r 13 _ _ (by omega))
      · rw [cl t ht, if_neg (fun r => q r.1)]
      · rw [m t ht, if_neg (fun r => q r.1)]
/-! 'taken' -/
def zund (a b : Int32) : Int32 := if b = 0 then 1 else if a = b then 1 else if b = 1 then (if a = 2 then 1 else if a = 3 then 1 else if a = 4 then 1 else 0) else if b = 2 then (if a = 3 then 1 else if a = 4 then 1 else 0) else if b = 5 then (if a = 7 then 1 else 0) else 0
theorem z8 {x : Int32} (h : 0 ≤ x ∧ x ≤ 7) : x = 0 ∨ x = 1 ∨ x = 2 ∨ x = 3 ∨ x = 4 ∨ x = 5 ∨ x = 6 ∨ x = 7 := by grind
theorem S177 (b : Bool) (d : Nat) (x : Int32) (M : zM) : zgo b d 177 0 [zi x] [] M = some (some (zi (if x = 1 then 0 else if x = 2 then 1 else if x = 3 then 2 else if x = 4 then 2 else if x = 5 then 0 else if x = 6 then 0 else if x = 7 then 5 else -1)), M) := by
  simp only [B177_0, B177_46, B177_50, zite_v]
theorem S232 (d : Nat) (a b : Int32) (M : zM) : zgo false d 232 0 [zi a, zi b] [] M = some (some (zi (zund a b)), M) := by
  simp only [B232_0, B232_9, B232_31, B232_36, B232_52, B232_63, B232_67, B232_68, zib0, zib1, cond_true, zite_v, zund]
  grind
set_option maxHeartbeats 2000000 in
set_option maxRecDepth 20000 in
theorem S178 (d : Nat) (a b : Int32) (u v : zV) (M : zM) (ha : 0 ≤ a ∧ a ≤ 7) (hb : 0 ≤ b ∧ b ≤ 7) : zgo false (d + 1) 178 0 [zi a, zi b, u, v] [] M = some (some (zi (zund a b)), M) := by
  rcases z8 ha with rfl | rfl | rfl | rfl | rfl | rfl | rfl | rfl <;> rcases z8 hb with rfl | rfl | rfl | rfl | rfl | rfl | rfl | rfl <;> simp +decide only [B178_0, B178_4, B178_25, B178_32, S177, zund, zbsome, zpu1, zpu0, cond_true, cond_false, zib0, zib1, zib_ite, zq00, zq20, zq22, zq90, zq99, zq40, zq44, zq100, zq1010, Bool.and_true, if_true, if_false, z1ne0, not_true_eq_false, not_false_eq_true, zite10, eq_self, and_true, true_and, and_false, false_and, ↓reduceIte, Int32.reduceLT, Int32.reduceLE, Int32.reduceAdd, Int32.reduceSub, Int32.reduceMul]
theorem zpl_nI {M : zM} {x : Int32} (h : zpl M x) (hp : zgI M 13 0 31 ≤ 10) : ∃ p, p < 10 ∧ x = nI p ∧ (p : Int) < (zgI M 13 0 31).toInt := by
  obtain ⟨h1, h2⟩ := h
  rw [zI_le, show (10 : Int32).toInt = 10 from rfl] at hp
  obtain ⟨p, hp1, rfl⟩ := zin_of (zin_iff.mpr ⟨h1, (by omega : x.toInt < ((10 : Nat) : Int))⟩)
  exact ⟨p, hp1, rfl, by rw [nI_toInt (by omega)] at h2; exact h2⟩
theorem Q37 (d : Nat) (x1 x2 : Int32) (u1 u2 : zV) (M : zM) (h : Rsh M) (hp : Rpl M) : ∃ (y : Int32), zgo false (d + 2) 167 0 [zr 12 0, zi x1, zi x2, u1, u2] [] M = some (some (zi y), M) ∧ zgo false (d + 2) 312 0 [zr 13 0, zi x1, zi x2] [] M = some (some (zi y), M) := by
  by_cases hz : zin x1 6 = true
  case neg =>
    refine ⟨-1, ?_, ?_⟩
    · simp +decide only [B167_0, B167_5, B167_20, B167_26, B167_36, B167_47, B167_51, B167_67, B167_78, B167_80, S183, hz, zbsome, zpu1, zpu0, cond_true, cond_false, zib0, zib1, zib_ite, zq00, zq20, zq22, zq90, zq99, zq40, zq44, zq100, zq1010, Bool.and_true, if_true, if_false, z1ne0, not_true_eq_false, not_false_eq_true, zite10, eq_self, and_true, true_and, and_false, false_and, ↓reduceIte, Int32.reduceLT, Int32.reduceLE, Int32.reduceAdd, Int32.reduceSub, Int32.reduceMul]
    · simp +decide only [B312_0, B312_4, B312_14, B312_17, B312_56, B312_73, B312_75, S305, hz, zbsome, zpu1, zpu0, cond_true, cond_false, zib0, zib1, zib_ite, zq00, zq20, zq22, zq90, zq99, zq40, zq44, zq100, zq1010, Bool.and_true, if_true, if_false, z1ne0, not_true_eq_false, not_false_eq_true, zite10, eq_self, and_true, true_and, and_false, false_and, ↓reduceIte, Int32.reduceLT, Int32.reduceLE, Int32.reduceAdd, Int32.reduceSub, Int32.reduceMul]
  obtain ⟨s, hs, rfl⟩ := zin_of hz
  have hc : (nI s).toNatClampNeg = s := nI_clamp (by omega)
  have h0 := h s hs
  by_cases hk : 0 ≤ x2 ∧ x2 ≤ 7
  case neg =>
    refine ⟨-1, ?_, ?_⟩
    · by_cases c : x2 < 0
      · simp +decide only [B167_0, B167_5, B167_20, B167_26, B167_36, B167_47, B167_51, B167_67, B167_78, B167_80, S183, hz, hc, c, zbsome, zpu1, zpu0, cond_true, cond_false, zib0, zib1, zib_ite, zq00, zq20, zq22, zq90, zq99, zq40, zq44, zq100, zq1010, Bool.and_true, if_true, if_false, z1ne0, not_true_eq_false, not_false_eq_true, zite10, eq_self, and_true, true_and, and_false, false_and, ↓reduceIte, Int32.reduceLT, Int32.reduceLE, Int32.reduceAdd, Int32.reduceSub, Int32.reduceMul]
      · have c2 : ¬ x2 < 8 := by grind
        simp +decide only [B167_0, B167_5, B167_20, B167_26, B167_36, B167_47, B167_51, B167_67, B167_78, B167_80, S183, hz, hc, c, c2, zbsome, zpu1, zpu0, cond_true, cond_false, zib0, zib1, zib_ite, zq00, zq20, zq22, zq90, zq99, zq40, zq44, zq100, zq1010, Bool.and_true, if_true, if_false, z1ne0, not_true_eq_false, not_false_eq_true, zite10, eq_self, and_true, true_and, and_false, false_and, ↓reduceIte, Int32.reduceLT, Int32.reduceLE, Int32.reduceAdd, Int32.reduceSub, Int32.reduceMul]
    · simp +decide only [B312_0, B312_4, B312_14, B312_17, B312_56, B312_73, B312_75, S305, S_in, hz, hk, zbsome, zpu1, zpu0, cond_true, cond_false, zib0, zib1, zib_ite, zq00, zq20, zq22, zq90, zq99, zq40, zq44, zq100, zq1010, Bool.and_true, if_true, if_false, z1ne0, not_true_eq_false, not_false_eq_true, zite10, eq_self, and_true, true_and, and_false, false_and, ↓reduceIte, Int32.reduceLT, Int32.reduceLE, Int32.reduceAdd, Int32.reduceSub, Int32.reduceMul]
  have k1 : ¬ x2 < 0 := by grind
  have k2 : x2 < 8 := by grind
  rcases h0 with ⟨h1, h2⟩ | ⟨h1, h2, h3, h4⟩ | ⟨h1, h2, h3, h4, h5, -⟩
  · refine ⟨-11, ?_, ?_⟩
    · simp +decide only [B167_0, B167_5, B167_20, B167_26, B167_36, B167_47, B167_51, B167_67, B167_78, B167_80, S183, S94, hz, hc, k1, k2, h1, zbsome, zpu1, zpu0, cond_true, cond_false, zib0, zib1, zib_ite, zq00, zq20, zq22, zq90, zq99, zq40, zq44, zq100, zq1010, Bool.and_true, if_true, if_false, z1ne0, not_true_eq_false, not_false_eq_true, zite10, eq_self, and_true, true_and, and_false, false_and, ↓reduceIte, Int32.reduceLT, Int32.reduceLE, Int32.reduceAdd, Int32.reduceSub, Int32.reduceMul]
    · simp +decide only [B312_0, B312_4, B312_14, B312_17, B312_56, B312_73, B312_75, S305, S_in, hz, hc, hk, h2, zbsome, zpu1, zpu0, cond_true, cond_false, zib0, zib1, zib_ite, zq00, zq20, zq22, zq90, zq99, zq40, zq44, zq100, zq1010, Bool.and_true, if_true, if_false, z1ne0, not_true_eq_false, not_false_eq_true, zite10, eq_self, and_true, true_and, and_false, false_and, ↓reduceIte, Int32.reduceLT, Int32.reduceLE, Int32.reduceAdd, Int32.reduceSub, Int32.reduceMul]
  · have hp1 : 0 ≤ (zgI M 9 s 4).toInt := by rw [zI_le] at h3; exact h3
    have hp2 : (zgI M 9 s 4).toInt < (zgI M 13 0 31).toInt := by rw [zI_lt] at h4; exact h4
    have hq : zpl M (zgI M 9 s 4) := ⟨hp1, hp2⟩
    have hb := S_body (d + 1) (zgI M 9 s 4) M hp
    rw [if_pos hq] at hb
    have hpl : (zgI M 13 0 31).toInt ≤ 10 := hp.2.1.2
    obtain ⟨p, hp3, hp4, hp5⟩ := zpl_nI hq (by rw [zI_le]; exact hpl)
    have hc2 : (nI p).toNatClampNeg = p := nI_clamp (by omega)
    obtain ⟨⟨g0, -⟩, g1, -⟩ := hp.2.2 p hp5
    have gk : 0 ≤ zgI M 70 0 p ∧ zgI M 70 0 p ≤ 7 := by
      rw [zI_le, zI_le]
      exact g1
    rw [hp4] at hb h2
    have a1 : ¬ nI p = -1 := by grind
    have a2 : ¬ nI p < 0 := nI_pos (by omega)
    have a3 : zin (nI p) 10 = true := zin_nI hp3 (by omega)
    have a4 : ¬ zgI M 9 s 1 = 0 := by rw [h1]; decide
    rw [hc2] at hb
    have w : zund (zgI M 70 0 p) x2 = 0 ∨ zund (zgI M 70 0 p) x2 = 1 := by
      unfold zund
      grind
    rcases w with w | w
    · refine ⟨-12, ?_, ?_⟩
      · simp +decide only [B167_0, B167_5, B167_20, B167_26, B167_36, B167_47, B167_51, B167_67, B167_78, B167_80, S183, S94, S95, hz, hc, k1, k2, h1, hp4, hb, g0, S178 _ _ _ _ _ _ gk hk, w, zbsome, zpu1, zpu0, cond_true, cond_false, zib0, zib1, zib_ite, zq00, zq20, zq22, zq90, zq99, zq40, zq44, zq100, zq1010, Bool.and_true, if_true, if_false, z1ne0, not_true_eq_false, not_false_eq_true, zite10, eq_self, and_true, true_and, and_false, false_and, ↓reduceIte, Int32.reduceLT, Int32.reduceLE, Int32.reduceAdd, Int32.reduceSub, Int32.reduceMul]
      · simp +decide only [B312_0, B312_4, B312_14, B312_17, B312_56, B312_73, B312_75, S305, S_in, S232, hz, hc, hk, h2, a1, a2, a3, hc2, w, zbsome, zpu1, zpu0, cond_true, cond_false, zib0, zib1, zib_ite, zq00, zq20, zq22, zq90, zq99, zq40, zq44, zq100, zq1010, Bool.and_true, if_true, if_false, z1ne0, not_true_eq_false, not_false_eq_true, zite10, eq_self, and_true, true_and, and_false, false_and, ↓reduceIte, Int32.reduceLT, Int32.reduceLE, Int32.reduceAdd, Int32.reduceSub, Int32.reduceMul]
    · refine ⟨zgI M 70 0 p, ?_, ?_⟩
      · simp +decide only [B167_0, B167_5, B167_20, B167_26, B167_36, B167_47, B167_51, B167_67, B167_78, B167_80, S183, S94, S95, hz, hc, k1, k2, h1, hp4, hb, g0, S178 _ _ _ _ _ _ gk hk, w, zbsome, zpu1, zpu0, cond_true, cond_false, zib0, zib1, zib_ite, zq00, zq20, zq22, zq90, zq99, zq40, zq44, zq100, zq1010, Bool.and_true, if_true, if_false, z1ne0, not_true_eq_false, not_false_eq_true, zite10, eq_self, and_true, true_and, and_false, false_and, ↓reduceIte, Int32.reduceLT, Int32.reduceLE, Int32.reduceAdd, Int32.reduceSub, Int32.reduceMul]
      · simp +decide only [B312_0, B312_4, B312_14, B312_17, B312_56, B312_73, B312_75, S305, S_in, S232, hz, hc, hk, h2, a1, a2, a3, hc2, w, zbsome, zpu1, zpu0, cond_true, cond_false, zib0, zib1, zib_ite, zq00, zq20, zq22, zq90, zq99, zq40, zq44, zq100, zq1010, Bool.and_true, if_true, if_false, z1ne0, not_true_eq_false, not_false_eq_true, zite10, eq_self, and_true, true_and, and_false, false_and, ↓reduceIte, Int32.reduceLT, Int32.reduceLE, Int32.reduceAdd, Int32.reduceSub, Int32.reduceMul]
  · have a1 : ¬ (-2 - zgI M 9 s 2) = -1 := by grind
    have a2 : (-2 - zgI M 9 s 2) < 0 := by grind
    refine ⟨-12, ?_, ?_⟩
    · simp +decide only [B167_0, B167_5, B167_20, B167_26, B167_36, B167_47, B167_51, B167_67, B167_78, B167_80, S183, S94, S95, hz, hc, k1, k2, h1, zbsome, zpu1, zpu0, cond_true, cond_false, zib0, zib1, zib_ite, zq00, zq20, zq22, zq90, zq99, zq40, zq44, zq100, zq1010, Bool.and_true, if_true, if_false, z1ne0, not_true_eq_false, not_false_eq_true, zite10, eq_self, and_true, true_and, and_false, false_and, ↓reduceIte, Int32.reduceLT, Int32.reduceLE, Int32.reduceAdd, Int32.reduceSub, Int32.reduceMul]
    · simp +decide only [B312_0, B312_4, B312_14, B312_17, B312_56, B312_73, B312_75, S305, S_in, hz, hc, hk, h3, a1, a2, zbsome, zpu1, zpu0, cond_true, cond_false, zib0, zib1, zib_ite, zq00, zq20, zq22, zq90, zq99, zq40, zq44, zq100, zq1010, Bool.and_true, if_true, if_false, z1ne0, not_true_eq_false, not_false_eq_true, zite10, eq_self, and_true, true_and, and_false, false_and, ↓reduceIte, Int32.reduceLT, Int32.reduceLE, Int32.reduceAdd, Int32.reduceSub, Int32.reduceMul]
