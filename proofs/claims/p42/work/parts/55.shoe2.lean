/-! ===== shoe, left ===== -/
/-- 'left' -/
theorem Q1 (d : Nat) (x : Int32) (M : zM) (h : yShoe 0 M M) : ∃ (y : Int32), zgo false (d + 3) 131 0 [zr 12 0, zi x] [] M = some (some (zi y), M) ∧ zgo false (d + 3) 202 0 [zr 13 0, zi x] [] M = some (some (zi y), M) := by
  obtain ⟨P, C, g, sn, hn, -⟩ := h
  by_cases hx : 0 ≤ x ∧ x ≤ 10
  · obtain ⟨v, hv, rfl⟩ := zin_of (zin11.mpr ⟨hx.1, by grind⟩ : zin x 11 = true)
    have a1 : ¬ nI v < 0 := nI_pos (by omega)
    have a2 : ¬ (10 : Int32) < nI v := nI_nlt (a := 10) (by omega) (by omega)
    refine ⟨nI (yLf P sn v), ?_, ?_⟩
    · simp +decide only [B131_0, B131_18, B131_19, B131_60, B131_65, a1, a2, S112 _ _ _ hn (show v ≤ 10 by omega), zbsome, zpu1, zpu0, cond_true, cond_false, zib0, zib1, zib_ite, zq00, zq20, zq22, zq90, zq99, zq40, zq44, zq100, zq1010, Bool.and_true, if_true, if_false, z1ne0, not_true_eq_false, not_false_eq_true, zite10, eq_self, and_true, true_and, and_false, false_and, ↓reduceIte, Int32.reduceLT, Int32.reduceLE, Int32.reduceAdd, Int32.reduceSub, Int32.reduceMul]
    · simp +decide only [B202_0, B202_7, B202_15, B202_54, B202_59, S_in, hx, S197 _ _ _ hn (show v ≤ 10 by omega), zbsome, zpu1, zpu0, cond_true, cond_false, zib0, zib1, zib_ite, zq00, zq20, zq22, zq90, zq99, zq40, zq44, zq100, zq1010, Bool.and_true, if_true, if_false, z1ne0, not_true_eq_false, not_false_eq_true, zite10, eq_self, and_true, true_and, and_false, false_and, ↓reduceIte, Int32.reduceLT, Int32.reduceLE, Int32.reduceAdd, Int32.reduceSub, Int32.reduceMul]
  · have e1 : zgo false (d + 3) 131 0 [zr 12 0, zi x] [] M = zgo false (d + 3) 131 19 [zr 12 0, zi x] [] M := by
      rw [B131_0]
      by_cases a1 : x < 0
      · rw [if_pos a1]
      · rw [if_neg a1, if_pos (by grind)]
    rw [e1]
    have t1 := S114 (d + 2) 0 zu hn
    have t2 := S201 d 0 hn
    have g1 := hn.2.2.2.2.2.1
    have g2 := hn.2.2.2.2.2.2.1
    by_cases c11 : x = 11
    · subst c11
      exact ⟨zgI M 10 0 8, by simp +decide only [B131_0, B131_18, B131_19, B131_60, B131_65, zbsome, zpu1, zpu0, cond_true, cond_false, zib0, zib1, zib_ite, zq00, zq20, zq22, zq90, zq99, zq40, zq44, zq100, zq1010, Bool.and_true, if_true, if_false, z1ne0, not_true_eq_false, not_false_eq_true, zite10, eq_self, and_true, true_and, and_false, false_and, ↓reduceIte, Int32.reduceLT, Int32.reduceLE, Int32.reduceAdd, Int32.reduceSub, Int32.reduceMul], by simp +decide only [B202_0, B202_7, B202_15, B202_54, B202_59, S_in, g2, zbsome, zpu1, zpu0, cond_true, cond_false, zib0, zib1, zib_ite, zq00, zq20, zq22, zq90, zq99, zq40, zq44, zq100, zq1010, Bool.and_true, if_true, if_false, z1ne0, not_true_eq_false, not_false_eq_true, zite10, eq_self, and_true, true_and, and_false, false_and, ↓reduceIte, Int32.reduceLT, Int32.reduceLE, Int32.reduceAdd, Int32.reduceSub, Int32.reduceMul]⟩
    by_cases c12 : x = 12
    · subst c12
      exact ⟨nI g, by simp +decide only [B131_0, B131_18, B131_19, B131_60, B131_65, g1.1, zbsome, zpu1, zpu0, cond_true, cond_false, zib0, zib1, zib_ite, zq00, zq20, zq22, zq90, zq99, zq40, zq44, zq100, zq1010, Bool.and_true, if_true, if_false, z1ne0, not_true_eq_false, not_false_eq_true, zite10, eq_self, and_true, true_and, and_false, false_and, ↓reduceIte, Int32.reduceLT, Int32.reduceLE, Int32.reduceAdd, Int32.reduceSub, Int32.reduceMul], by simp +decide only [B202_0, B202_7, B202_15, B202_54, B202_59, S_in, g1.2, zbsome, zpu1, zpu0, cond_true, cond_false, zib0, zib1, zib_ite, zq00, zq20, zq22, zq90, zq99, zq40, zq44, zq100, zq1010, Bool.and_true, if_true, if_false, z1ne0, not_true_eq_false, not_false_eq_true, zite10, eq_self, and_true, true_and, and_false, false_and, ↓reduceIte, Int32.reduceLT, Int32.reduceLE, Int32.reduceAdd, Int32.reduceSub, Int32.reduceMul]⟩
    by_cases c13 : x = 13
    · subst c13
      exact ⟨_, by simp +decide only [B131_0, B131_18, B131_19, B131_60, B131_65, t1, zbsome, zpu1, zpu0, cond_true, cond_false, zib0, zib1, zib_ite, zq00, zq20, zq22, zq90, zq99, zq40, zq44, zq100, zq1010, Bool.and_true, if_true, if_false, z1ne0, not_true_eq_false, not_false_eq_true, zite10, eq_self, and_true, true_and, and_false, false_and, ↓reduceIte, Int32.reduceLT, Int32.reduceLE, Int32.reduceAdd, Int32.reduceSub, Int32.reduceMul]; rfl, by simp +decide only [B202_0, B202_7, B202_15, B202_54, B202_59, S_in, t2, g2, zbsome, zpu1, zpu0, cond_true, cond_false, zib0, zib1, zib_ite, zq00, zq20, zq22, zq90, zq99, zq40, zq44, zq100, zq1010, Bool.and_true, if_true, if_false, z1ne0, not_true_eq_false, not_false_eq_true, zite10, eq_self, and_true, true_and, and_false, false_and, ↓reduceIte, Int32.reduceLT, Int32.reduceLE, Int32.reduceAdd, Int32.reduceSub, Int32.reduceMul]⟩
    · exact ⟨-2000000000, by simp +decide only [B131_0, B131_18, B131_19, B131_60, B131_65, c11, c12, c13, zbsome, zpu1, zpu0, cond_true, cond_false, zib0, zib1, zib_ite, zq00, zq20, zq22, zq90, zq99, zq40, zq44, zq100, zq1010, Bool.and_true, if_true, if_false, z1ne0, not_true_eq_false, not_false_eq_true, zite10, eq_self, and_true, true_and, and_false, false_and, ↓reduceIte, Int32.reduceLT, Int32.reduceLE, Int32.reduceAdd, Int32.reduceSub, Int32.reduceMul], by simp +decide only [B202_0, B202_7, B202_15, B202_54, B202_59, S_in, hx, c11, c12, c13, zbsome, zpu1, zpu0, cond_true, cond_false, zib0, zib1, zib_ite, zq00, zq20, zq22, zq90, zq99, zq40, zq44, zq100, zq1010, Bool.and_true, if_true, if_false, z1ne0, not_true_eq_false, not_false_eq_true, zite10, eq_self, and_true, true_and, and_false, false_and, ↓reduceIte, Int32.reduceLT, Int32.reduceLE, Int32.reduceAdd, Int32.reduceSub, Int32.reduceMul]⟩
theorem yZ_ne {a b : Nat} (h : a ≠ b) : ¬ a = b := h
/-- 'shoe' -/
theorem Q0 (d : Nat) (x1 x2 : Int32) (u : zV) (M : zM) (h : yShoe 0 M M) : ∃ (y : Int32) (M1 M2 : zM), zgo false (d + 3) 130 0 [zr 12 0, zi x1, zi x2] [] M = some (some (zi y), M1) ∧ zgo false (d + 3) 200 0 [zr 13 0, zi x1, zi x2, u] [] M1 = some (some (zi y), M2) ∧ zFr (zo 1) M M2 ∧ yShoe 0 M2 M2 := by
  have h0 := h
  obtain ⟨P, C, g, sn, hn, -⟩ := h
  obtain ⟨a1, a2, a3, a4, a5, a6, a7, a8, a9, a10, a11, a12⟩ := hn
  by_cases c0 : x1 = 0
  · subst c0
    refine ⟨zgI M 13 0 3, zsI (zsI (zsI M 10 0 4 x2) 10 0 5 x2) 10 0 9 1, zsI (zsI (zsI (zsI (zsI (zsI M 10 0 4 x2) 10 0 5 x2) 10 0 9 1) 13 0 3 x2) 13 0 4 x2) 13 0 5 0, ?_, ?_, ?_, ?_⟩
    · simp +decide only [B130_0, B130_12, B130_37, B130_38, B130_63, B130_64, B109_0, B109_20, a4, zbsome, zpu1, zpu0, cond_true, cond_false, zib0, zib1, zib_ite, zq00, zq20, zq22, zq90, zq99, zq40, zq44, zq100, zq1010, Bool.and_true, if_true, if_false, z1ne0, not_true_eq_false, not_false_eq_true, zite10, eq_self, and_true, true_and, and_false, false_and, ↓reduceIte, Int32.reduceLT, Int32.reduceLE, Int32.reduceAdd, Int32.reduceSub, Int32.reduceMul]
    · have e : zgI (zsI (zsI (zsI M 10 0 4 x2) 10 0 5 x2) 10 0 9 1) 13 0 3 = zgI M 13 0 3 := rfl
      simp +decide only [B200_0, B200_24, B200_38, B200_57, B200_60, B200_63, B200_79, B200_102, B200_106, e, zbsome, zpu1, zpu0, cond_true, cond_false, zib0, zib1, zib_ite, zq00, zq20, zq22, zq90, zq99, zq40, zq44, zq100, zq1010, Bool.and_true, if_true, if_false, z1ne0, not_true_eq_false, not_false_eq_true, zite10, eq_self, and_true, true_and, and_false, false_and, ↓reduceIte, Int32.reduceLT, Int32.reduceLE, Int32.reduceAdd, Int32.reduceSub, Int32.reduceMul]
    · exact zFr_sI (zFr_sI (zFr_sI (zFr_sI (zFr_sI (zFr_sI (zFr_refl _ M) rfl) rfl) rfl) rfl) rfl) rfl
    · exact ⟨P, C, g, sn, ⟨a1, a2, a3, rfl, rfl, a6, a7, a8, a9, a10, a11, a12⟩, Or.inl ⟨rfl, Or.inl rfl⟩⟩
  by_cases c1 : x1 = 1
  · subst c1
    by_cases ok : 1 ≤ x2 ∧ x2 ≤ 8
    case neg =>
      refine ⟨-2000000000, M, M, ?_, ?_, zFr_refl _ M, h0⟩
      · by_cases c : x2 < 1
        · simp +decide only [B130_0, B130_12, B130_37, B130_38, B130_63, B130_64, c, zbsome, zpu1, zpu0, cond_true, cond_false, zib0, zib1, zib_ite, zq00, zq20, zq22, zq90, zq99, zq40, zq44, zq100, zq1010, Bool.and_true, if_true, if_false, z1ne0, not_true_eq_false, not_false_eq_true, zite10, eq_self, and_true, true_and, and_false, false_and, ↓reduceIte, Int32.reduceLT, Int32.reduceLE, Int32.reduceAdd, Int32.reduceSub, Int32.reduceMul]
        · have c2 : 8 < x2 := by grind
          simp +decide only [B130_0, B130_12, B130_37, B130_38, B130_63, B130_64, c, c2, zbsome, zpu1, zpu0, cond_true, cond_false, zib0, zib1, zib_ite, zq00, zq20, zq22, zq90, zq99, zq40, zq44, zq100, zq1010, Bool.and_true, if_true, if_false, z1ne0, not_true_eq_false, not_false_eq_true, zite10, eq_self, and_true, true_and, and_false, false_and, ↓reduceIte, Int32.reduceLT, Int32.reduceLE, Int32.reduceAdd, Int32.reduceSub, Int32.reduceMul]
      · simp +decide only [B200_0, B200_24, B200_38, B200_57, B200_60, B200_63, B200_79, B200_102, B200_106, S_in, ok, zbsome, zpu1, zpu0, cond_true, cond_false, zib0, zib1, zib_ite, zq00, zq20, zq22, zq90, zq99, zq40, zq44, zq100, zq1010, Bool.and_true, if_true, if_false, z1ne0, not_true_eq_false, not_false_eq_true, zite10, eq_self, and_true, true_and, and_false, false_and, ↓reduceIte, Int32.reduceLT, Int32.reduceLE, Int32.reduceAdd, Int32.reduceSub, Int32.reduceMul]
    obtain ⟨P', hP', rfl⟩ := zin_of (zin9.mpr ⟨by grind, by grind⟩ : zin x2 9 = true)
    have hP1 : 1 ≤ P' := by
      have := ok.1
      rw [show (1 : Int32) = nI 1 from rfl, nI_leI (by omega) (by omega)] at this
      exact this
    have b1 : ¬ nI P' < 1 := z_le_nlt ok.1
    have b2 : ¬ 8 < nI P' := z_le_nlt ok.2
    obtain ⟨M1, e1, f1, v7, v8, v⟩ := L118 d 0 11 0 (zsI M 10 0 2 (nI P')) (by omega)
    have r : ∀ k i s, ¬ (i = 0 ∧ (k = 47 ∨ (k = 10 ∧ (s = 7 ∨ s = 8)))) → zgI M1 k i s = zgI (zsI M 10 0 2 (nI P')) k i s := fun k i s q => (f1 k i s q).1
    obtain ⟨M3, e3, f3, w8, w⟩ := L198 (d + 2) 11 0 (zsI (zsI (zsI (zsI M1 10 0 6 0) 10 0 9 1) 13 0 5 0) 13 0 1 (nI P')) (by omega)
    have r3 : ∀ k i s, ¬ (i = 0 ∧ (k = 56 ∨ (k = 13 ∧ s = 8))) → zgI M3 k i s = zgI (zsI (zsI (zsI (zsI M1 10 0 6 0) 10 0 9 1) 13 0 5 0) 13 0 1 (nI P')) k i s := fun k i s q => (f3 k i s q).1
    refine ⟨nI P, zsI (zsI M1 10 0 6 0) 10 0 9 1, zsI M3 13 0 7 0, ?_, ?_, ?_, ?_⟩
    · simp +decide only [B130_0, B130_12, B130_37, B130_38, B130_63, B130_64, B110_0, B110_14, b1, b2, B118_0, a2.1, zbsome, zpu1, zpu0, cond_true, cond_false, zib0, zib1, zib_ite, zq00, zq20, zq22, zq90, zq99, zq40, zq44, zq100, zq1010, Bool.and_true, if_true, if_false, z1ne0, not_true_eq_false, not_false_eq_true, zite10, eq_self, and_true, true_and, and_false, false_and, ↓reduceIte, Int32.reduceLT, Int32.reduceLE, Int32.reduceAdd, Int32.reduceSub, Int32.reduceMul]
      rw [show (0 : Int32) = nI 0 from rfl, e1]
      simp +decide only [B130_0, B130_12, B130_37, B130_38, B130_63, B130_64, B110_0, B110_14, zbsome, zpu1, zpu0, cond_true, cond_false, zib0, zib1, zib_ite, zq00, zq20, zq22, zq90, zq99, zq40, zq44, zq100, zq1010, Bool.and_true, if_true, if_false, z1ne0, not_true_eq_false, not_false_eq_true, zite10, eq_self, and_true, true_and, and_false, false_and, ↓reduceIte, Int32.reduceLT, Int32.reduceLE, Int32.reduceAdd, Int32.reduceSub, Int32.reduceMul]
      rfl
    · have e : zgI (zsI (zsI M1 10 0 6 0) 10 0 9 1) 13 0 1 = nI P := (r 13 0 1 (by omega)).trans a2.2
      simp +decide only [B200_0, B200_24, B200_38, B200_57, B200_60, B200_63, B200_79, B200_102, B200_106, S_in, ok, e, B198_0, zbsome, zpu1, zpu0, cond_true, cond_false, zib0, zib1, zib_ite, zq00, zq20, zq22, zq90, zq99, zq40, zq44, zq100, zq1010, Bool.and_true, if_true, if_false, z1ne0, not_true_eq_false, not_false_eq_true, zite10, eq_self, and_true, true_and, and_false, false_and, ↓reduceIte, Int32.reduceLT, Int32.reduceLE, Int32.reduceAdd, Int32.reduceSub, Int32.reduceMul]
      rw [show (0 : Int32) = nI 0 from rfl] at e3 ⊢
      rw [e3]
      simp +decide only [B200_0, B200_24, B200_38, B200_57, B200_60, B200_63, B200_79, B200_102, B200_106, zbsome, zpu1, zpu0, cond_true, cond_false, zib0, zib1, zib_ite, zq00, zq20, zq22, zq90, zq99, zq40, zq44, zq100, zq1010, Bool.and_true, if_true, if_false, z1ne0, not_true_eq_false, not_false_eq_true, zite10, eq_self, and_true, true_and, and_false, false_and, ↓reduceIte, Int32.reduceLT, Int32.reduceLE, Int32.reduceAdd, Int32.reduceSub, Int32.reduceMul]
      rfl
    · have g1 : zFr (zo 1) M M1 := zFr_trans (zFr_sI (zFr_refl _ M) rfl) (zFr_of f1 (fun k i s q => by
        obtain ⟨rfl, rfl | ⟨rfl, rfl | rfl⟩⟩ := q <;> rfl))
      exact zFr_sI (zFr_trans (zFr_sI (zFr_sI (zFr_sI (zFr_sI g1 rfl) rfl) rfl) rfl) (zFr_of f3 (fun k i s q => by
        obtain ⟨rfl, rfl | ⟨rfl, rfl⟩⟩ := q <;> rfl))) rfl
    · have z1 : ∀ k s, k ≠ 47 → k ≠ 56 → k ≠ 13 → k ≠ 10 → zgI (zsI M3 13 0 7 0) k 0 s = zgI M k 0 s := fun k s h1 h2 h3 h4 => by
        rw [zgI_sI, if_neg (by omega), r3 k 0 s (by omega), zgI_sI, if_neg (by omega), zgI_sI, if_neg (by omega), zgI_sI, if_neg (by omega), zgI_sI, if_neg (by omega), r k 0 s (by omega), zgI_sI, if_neg (by omega)]
      have z2 : ∀ s, s ≠ 2 → s ≠ 6 → s ≠ 7 → s ≠ 8 → s ≠ 9 → zgI (zsI M3 13 0 7 0) 10 0 s = zgI M 10 0 s := fun s h1 h2 h3 h4 h5 => by
        rw [zgI_sI, if_neg (by omega), r3 10 0 s (by omega), zgI_sI, if_neg (by omega), zgI_sI, if_neg (by omega), zgI_sI, if_neg (by omega), zgI_sI, if_neg (by omega), r 10 0 s (by omega), zgI_sI, if_neg (by omega)]
      have z3 : ∀ s, s ≠ 1 → s ≠ 5 → s ≠ 7 → s ≠ 8 → zgI (zsI M3 13 0 7 0) 13 0 s = zgI M 13 0 s := fun s h1 h2 h3 h4 => by
        rw [zgI_sI, if_neg (by omega), r3 13 0 s (by omega), zgI_sI, if_neg (by omega), zgI_sI, if_neg (by omega), zgI_sI, if_neg (by omega), zgI_sI, if_neg (by omega), r 13 0 s (by omega), zgI_sI, if_neg (by omega)]
      have y2 : zgI (zsI M3 13 0 7 0) 10 0 2 = nI P' := by
        rw [zgI_sI, if_neg (by omega), r3 10 0 2 (by omega), zgI_sI, if_neg (by omega), zgI_sI, if_neg (by omega), zgI_sI, if_neg (by omega), zgI_sI, if_neg (by omega), r 10 0 2 (by omega), zgI_sI, if_pos (by omega)]
      have y6 : zgI (zsI M3 13 0 7 0) 10 0 6 = 0 := by
        rw [zgI_sI, if_neg (by omega), r3 10 0 6 (by omega)]; rfl
      have y9 : zgI (zsI M3 13 0 7 0) 10 0 9 = 1 := by
        rw [zgI_sI, if_neg (by omega), r3 10 0 9 (by omega)]; rfl
      have y7 : zgI (zsI M3 13 0 7 0) 10 0 7 = 0 := by
        rw [zgI_sI, if_neg (by omega), r3 10 0 7 (by omega)]; exact v7
      have y8 : zgI (zsI M3 13 0 7 0) 10 0 8 = 0 := by
        rw [zgI_sI, if_neg (by omega), r3 10 0 8 (by omega)]; exact v8
      have x1 : zgI (zsI M3 13 0 7 0) 13 0 1 = nI P' := by
        rw [zgI_sI, if_neg (by omega), r3 13 0 1 (by omega)]; rfl
      have x5 : zgI (zsI M3 13 0 7 0) 13 0 5 = 0 := by
        rw [zgI_sI, if_neg (by omega), r3 13 0 5 (by omega)]; rfl
      have x8 : zgI (zsI M3 13 0 7 0) 13 0 8 = 0 := by
        rw [zgI_sI, if_neg (by omega)]; exact w8
      refine ⟨P', C, 0, fun _ => 0, ⟨⟨⟨hP1, by omega⟩, a1.2.1, by omega⟩, ⟨y2, x1⟩, ⟨(z2 3 (by omega) (by omega) (by omega) (by omega) (by omega)).trans a3.1, (z3 2 (by omega) (by omega) (by omega) (by omega)).trans a3.2⟩, ?_, ?_, ⟨y6, rfl⟩, y8.trans x8.symm, ⟨y7, ?_⟩, fun s s1 s2 => ⟨?_, ?_⟩, rfl, fun s s1 s2 => Nat.zero_le _, (show 0 < 52 * P' by omega)⟩, Or.inl ⟨y9, Or.inl x5⟩⟩
      · rw [z2 4 (by omega) (by omega) (by omega) (by omega) (by omega), z3 3 (by omega) (by omega) (by omega) (by omega)]; exact a4
      · rw [z2 5 (by omega) (by omega) (by omega) (by omega) (by omega), z3 4 (by omega) (by omega) (by omega) (by omega)]; exact a5
      · rw [zgI_sI, if_neg (by omega), w 0 (by omega), if_pos (by omega)]; rfl
      · rw [zgI_sI, if_neg (by omega), r3 47 0 s (by omega)]
        show zgI M1 47 0 s = _
        rw [v s s2, if_pos (by omega)]; rfl
      · rw [zgI_sI, if_neg (by omega), w s s2, if_pos (by omega)]; rfl
  by_cases c2 : x1 = 2
  · subst c2
    by_cases ok : 10 ≤ x2 ∧ x2 ≤ 95
    case neg =>
      refine ⟨-2000000000, M, M, ?_, ?_, zFr_refl _ M, h0⟩
      · by_cases c : x2 < 10
        · simp +decide only [B130_0, B130_12, B130_37, B130_38, B130_63, B130_64, c, zbsome, zpu1, zpu0, cond_true, cond_false, zib0, zib1, zib_ite, zq00, zq20, zq22, zq90, zq99, zq40, zq44, zq100, zq1010, Bool.and_true, if_true, if_false, z1ne0, not_true_eq_false, not_false_eq_true, zite10, eq_self, and_true, true_and, and_false, false_and, ↓reduceIte, Int32.reduceLT, Int32.reduceLE, Int32.reduceAdd, Int32.reduceSub, Int32.reduceMul]
        · have c2 : 95 < x2 := by grind
          simp +decide only [B130_0, B130_12, B130_37, B130_38, B130_63, B130_64, c, c2, zbsome, zpu1, zpu0, cond_true, cond_false, zib0, zib1, zib_ite, zq00, zq20, zq22, zq90, zq99, zq40, zq44, zq100, zq1010, Bool.and_true, if_true, if_false, z1ne0, not_true_eq_false, not_false_eq_true, zite10, eq_self, and_true, true_and, and_false, false_and, ↓reduceIte, Int32.reduceLT, Int32.reduceLE, Int32.reduceAdd, Int32.reduceSub, Int32.reduceMul]
      · simp +decide only [B200_0, B200_24, B200_38, B200_57, B200_60, B200_63, B200_79, B200_102, B200_106, S_in, ok, zbsome, zpu1, zpu0, cond_true, cond_false, zib0, zib1, zib_ite, zq00, zq20, zq22, zq90, zq99, zq40, zq44, zq100, zq1010, Bool.and_true, if_true, if_false, z1ne0, not_true_eq_false, not_false_eq_true, zite10, eq_self, and_true, true_and, and_false, false_and, ↓reduceIte, Int32.reduceLT, Int32.reduceLE, Int32.reduceAdd, Int32.reduceSub, Int32.reduceMul]
    obtain ⟨C', hC', rfl⟩ := zin_of (zin120.mpr ⟨by grind, by grind⟩ : zin x2 120 = true)
    have hC1 : 10 ≤ C' ∧ C' ≤ 95 := by
      have h1 := ok.1
      have h2 := ok.2
      rw [show (10 : Int32) = nI 10 from rfl, nI_leI (by omega) (by omega)] at h1
      rw [show (95 : Int32) = nI 95 from rfl, nI_leI (by omega) (by omega)] at h2
      exact ⟨h1, h2⟩
    have b1 : ¬ nI C' < 10 := z_le_nlt ok.1
    have b2 : ¬ 95 < nI C' := z_le_nlt ok.2
    refine ⟨nI C, zsI (zsI M 10 0 3 (nI C')) 10 0 9 1, zsI (zsI (zsI (zsI M 10 0 3 (nI C')) 10 0 9 1) 13 0 5 0) 13 0 2 (nI C'), ?_, ?_, ?_, ?_⟩
    · simp +decide only [B130_0, B130_12, B130_37, B130_38, B130_63, B130_64, B111_0, b1, b2, a3.1, zbsome, zpu1, zpu0, cond_true, cond_false, zib0, zib1, zib_ite, zq00, zq20, zq22, zq90, zq99, zq40, zq44, zq100, zq1010, Bool.and_true, if_true, if_false, z1ne0, not_true_eq_false, not_false_eq_true, zite10, eq_self, and_true, true_and, and_false, false_and, ↓reduceIte, Int32.reduceLT, Int32.reduceLE, Int32.reduceAdd, Int32.reduceSub, Int32.reduceMul]
    · have e : zgI (zsI (zsI M 10 0 3 (nI C')) 10 0 9 1) 13 0 2 = nI C := a3.2
      simp +decide only [B200_0, B200_24, B200_38, B200_57, B200_60, B200_63, B200_79, B200_102, B200_106, S_in, ok, e, zbsome, zpu1, zpu0, cond_true, cond_false, zib0, zib1, zib_ite, zq00, zq20, zq22, zq90, zq99, zq40, zq44, zq100, zq1010, Bool.and_true, if_true, if_false, z1ne0, not_true_eq_false, not_false_eq_true, zite10, eq_self, and_true, true_and, and_false, false_and, ↓reduceIte, Int32.reduceLT, Int32.reduceLE, Int32.reduceAdd, Int32.reduceSub, Int32.reduceMul]
    · exact zFr_sI (zFr_sI (zFr_sI (zFr_sI (zFr_refl _ M) rfl) rfl) rfl) rfl
    · exact ⟨P, C', g, sn, ⟨⟨a1.1, hC1, a1.2.2⟩, a2, ⟨rfl, rfl⟩, a4, a5, a6, a7, a8, a9, a10, a11, a12⟩, Or.inl ⟨rfl, Or.inl rfl⟩⟩
  · refine ⟨-2000000000, M, M, ?_, ?_, zFr_refl _ M, h0⟩
    · simp +decide only [B130_0, B130_12, B130_37, B130_38, B130_63, B130_64, c0, c1, c2, zbsome, zpu1, zpu0, cond_true, cond_false, zib0, zib1, zib_ite, zq00, zq20, zq22, zq90, zq99, zq40, zq44, zq100, zq1010, Bool.and_true, if_true, if_false, z1ne0, not_true_eq_false, not_false_eq_true, zite10, eq_self, and_true, true_and, and_false, false_and, ↓reduceIte, Int32.reduceLT, Int32.reduceLE, Int32.reduceAdd, Int32.reduceSub, Int32.reduceMul]
    · simp +decide only [B200_0, B200_24, B200_38, B200_57, B200_60, B200_63, B200_79, B200_102, B200_106, c0, c1, c2, zbsome, zpu1, zpu0, cond_true, cond_false, zib0, zib1, zib_ite, zq00, zq20, zq22, zq90, zq99, zq40, zq44, zq100, zq1010, Bool.and_true, if_true, if_false, z1ne0, not_true_eq_false, not_false_eq_true, zite10, eq_self, and_true, true_and, and_false, false_and, ↓reduceIte, Int32.reduceLT, Int32.reduceLE, Int32.reduceAdd, Int32.reduceSub, Int32.reduceMul]
