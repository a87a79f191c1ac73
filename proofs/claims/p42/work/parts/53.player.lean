/-- 'player' -/
theorem Q6 (d : Nat) (x1 x2 x3 : Int32) (u : zV) (M : zM) (hp : Rpl M) (hz : Rpz M) : ∃ (y : Int32) (M1 M2 : zM), zgo false (d + 1) 136 0 [zr 12 0, zi x1, zi x2, zi x3, u] [] M = some (some (zi y), M1) ∧ zgo false (d + 1) 234 0 [zr 13 0, zi x1, zi x2, zi x3] [] M1 = some (some (zi y), M2) ∧ zFr (fun n => zo 6 n) M M2 ∧ Rpl M2 ∧ Rpz M2 ∧ zgI M 13 0 31 ≤ zgI M2 13 0 31 ∧ ∀ s, zgI M2 74 0 s = zgI M 74 0 s := by
  by_cases ok : (0 ≤ x1 ∧ x1 ≤ 7) ∧ (0 ≤ x2 ∧ x2 ≤ 99999) ∧ (-99 ≤ x3 ∧ x3 ≤ 99)
  case neg =>
    refine ⟨-1, M, M, ?_, ?_, zFr_refl _ M, hp, hz, by grind, fun s => rfl⟩
    · rw [B136_0, B136_32]
      grind (splits := 30)
    · by_cases k1 : 0 ≤ x1 ∧ x1 ≤ 7
      · by_cases k2 : 0 ≤ x2 ∧ x2 ≤ 99999
        · have k3 : ¬ (-99 ≤ x3 ∧ x3 ≤ 99) := fun q => ok ⟨k1, k2, q⟩
          simp +decide only [B234_0, B234_7, B234_18, B234_29, B234_32, B234_56, B234_79, S_in, k1, k2, k3, zbsome, zpu1, zpu0, cond_true, cond_false, zib0, zib1, zib_ite, zq00, zq20, zq22, zq90, zq99, zq40, zq44, zq100, zq1010, Bool.and_true, if_true, if_false, z1ne0, not_true_eq_false, not_false_eq_true, zite10, eq_self, and_true, true_and, and_false, false_and, ↓reduceIte, Int32.reduceLT, Int32.reduceLE, Int32.reduceAdd, Int32.reduceSub, Int32.reduceMul]
        · simp +decide only [B234_0, B234_7, B234_18, B234_29, B234_32, B234_56, B234_79, S_in, k1, k2, zbsome, zpu1, zpu0, cond_true, cond_false, zib0, zib1, zib_ite, zq00, zq20, zq22, zq90, zq99, zq40, zq44, zq100, zq1010, Bool.and_true, if_true, if_false, z1ne0, not_true_eq_false, not_false_eq_true, zite10, eq_self, and_true, true_and, and_false, false_and, ↓reduceIte, Int32.reduceLT, Int32.reduceLE, Int32.reduceAdd, Int32.reduceSub, Int32.reduceMul]
      · simp +decide only [B234_0, B234_7, B234_18, B234_29, B234_32, B234_56, B234_79, S_in, k1, zbsome, zpu1, zpu0, cond_true, cond_false, zib0, zib1, zib_ite, zq00, zq20, zq22, zq90, zq99, zq40, zq44, zq100, zq1010, Bool.and_true, if_true, if_false, z1ne0, not_true_eq_false, not_false_eq_true, zite10, eq_self, and_true, true_and, and_false, false_and, ↓reduceIte, Int32.reduceLT, Int32.reduceLE, Int32.reduceAdd, Int32.reduceSub, Int32.reduceMul]
  obtain ⟨k1, k2, k3⟩ := ok
  obtain ⟨n, hn, n1, n2⟩ := zpl_n hp
  have a1 : ¬ x1 < 0 := z_le_nlt k1.1
  have a2 : ¬ 8 ≤ x1 := by grind
  have a3 : ¬ x2 < 0 := z_le_nlt k2.1
  have a4 : ¬ 99999 < x2 := z_le_nlt k2.2
  have a5 : ¬ x3 < -99 := z_le_nlt k3.1
  have a6 : x3 ≤ 99 := k3.2
  by_cases full : n = 10
  · subst full
    have b1 : zgI M 12 0 12 = 10 := n1
    have b2 : zgI M 13 0 31 = 10 := n2
    refine ⟨-3, M, M, ?_, ?_, zFr_refl _ M, hp, hz, by grind, fun s => rfl⟩
    · simp +decide only [B136_0, B136_32, B136_55, B136_83, B136_108, a1, a2, a3, a4, a5, a6, b1, zbsome, zpu1, zpu0, cond_true, cond_false, zib0, zib1, zib_ite, zq00, zq20, zq22, zq90, zq99, zq40, zq44, zq100, zq1010, Bool.and_true, if_true, if_false, z1ne0, not_true_eq_false, not_false_eq_true, zite10, eq_self, and_true, true_and, and_false, false_and, ↓reduceIte, Int32.reduceLT, Int32.reduceLE, Int32.reduceAdd, Int32.reduceSub, Int32.reduceMul]
    · simp +decide only [B234_0, B234_7, B234_18, B234_29, B234_32, B234_56, B234_79, S_in, k1, k2, k3, b2, zbsome, zpu1, zpu0, cond_true, cond_false, zib0, zib1, zib_ite, zq00, zq20, zq22, zq90, zq99, zq40, zq44, zq100, zq1010, Bool.and_true, if_true, if_false, z1ne0, not_true_eq_false, not_false_eq_true, zite10, eq_self, and_true, true_and, and_false, false_and, ↓reduceIte, Int32.reduceLT, Int32.reduceLE, Int32.reduceAdd, Int32.reduceSub, Int32.reduceMul]
  have hn : n < 10 := by omega
  have b0 : ¬ (10 : Int32) ≤ nI n := nI_ge (a := n) (b := 10) (by omega) (by omega)
  have b1 : nI n < 10 := nI_lt (a := n) (b := 10) (by omega) (by omega)
  have b2 : zin (nI n) 10 = true := zin_nI hn (by omega)
  have b3 : (nI n).toNatClampNeg = n := nI_clamp (by omega)
  have b4 : ¬ nI n = 10 := by
    rw [show (10 : Int32) = nI 10 from rfl, nI_eq (by omega) (by omega)]
    omega
  have b5 : nI n + 1 = nI (n + 1) := nI_1 n
  have b6 : nI (n + 1) - 1 = nI n := nI_pred n
  have ow : ∀ t, zo 6 (zown 2 n t) = true := fun t => by
    rw [show zown 2 n t = if n < 10 then 6 else 12 from rfl, if_pos hn]
    rfl
  have h100 : (100 : Int32) * x2 = x2 * 100 := Int32.mul_comm _ _
  have m1 : zgI (zsI (zsI (zsI (zsI M 2 n 0 x1) 2 n 1 (x2 * 100)) 2 n 2 x3) 12 0 12 (nI (n + 1))) 13 0 31 = nI n := n2
  refine ⟨nI n, zsI (zsI (zsI (zsI M 2 n 0 x1) 2 n 1 (x2 * 100)) 2 n 2 x3) 12 0 12 (nI (n + 1)), zsI (zsI (zsI (zsI (zsI (zsI (zsI (zsI M 2 n 0 x1) 2 n 1 (x2 * 100)) 2 n 2 x3) 12 0 12 (nI (n + 1))) 70 0 n x1) 71 0 n (x2 * 100)) 72 0 n x3) 13 0 31 (nI (n + 1)), ?_, ?_, ?_, ?_, ?_, ?_, fun s => rfl⟩
  · have m2 : zgI (zsI (zsI (zsI M 2 n 0 x1) 2 n 1 (x2 * 100)) 2 n 2 x3) 12 0 12 = nI n := n1
    have m3 : zgI (zsI (zsI (zsI (zsI M 2 n 0 x1) 2 n 1 (x2 * 100)) 2 n 2 x3) 12 0 12 (nI (n + 1))) 12 0 12 = nI (n + 1) := rfl
    simp +decide only [B136_0, B136_32, B136_55, B136_83, B136_108, a1, a2, a3, a4, a5, a6, n1, b0, b1, b2, b3, m2, b5, m3, b6, zbsome, zpu1, zpu0, cond_true, cond_false, zib0, zib1, zib_ite, zq00, zq20, zq22, zq90, zq99, zq40, zq44, zq100, zq1010, Bool.and_true, if_true, if_false, z1ne0, not_true_eq_false, not_false_eq_true, zite10, eq_self, and_true, true_and, and_false, false_and, ↓reduceIte, Int32.reduceLT, Int32.reduceLE, Int32.reduceAdd, Int32.reduceSub, Int32.reduceMul]
  · have m2 : ∀ v, zgI (zsI (zsI (zsI (zsI (zsI M 2 n 0 x1) 2 n 1 (x2 * 100)) 2 n 2 x3) 12 0 12 (nI (n + 1))) 70 0 n v) 13 0 31 = nI n := fun _ => n2
    have m3 : ∀ v w, zgI (zsI (zsI (zsI (zsI (zsI (zsI M 2 n 0 x1) 2 n 1 (x2 * 100)) 2 n 2 x3) 12 0 12 (nI (n + 1))) 70 0 n v) 71 0 n w) 13 0 31 = nI n := fun _ _ => n2
    have m4 : ∀ v w z, zgI (zsI (zsI (zsI (zsI (zsI (zsI (zsI M 2 n 0 x1) 2 n 1 (x2 * 100)) 2 n 2 x3) 12 0 12 (nI (n + 1))) 70 0 n v) 71 0 n w) 72 0 n z) 13 0 31 = nI n := fun _ _ _ => n2
    have m5 : ∀ M', zgI (zsI M' 13 0 31 (nI (n + 1))) 13 0 31 = nI (n + 1) := fun _ => rfl
    simp +decide only [B234_0, B234_7, B234_18, B234_29, B234_32, B234_56, B234_79, S_in, k1, k2, k3, m1, m2, m3, m4, m5, b2, b3, b4, b5, b6, h100, zbsome, zpu1, zpu0, cond_true, cond_false, zib0, zib1, zib_ite, zq00, zq20, zq22, zq90, zq99, zq40, zq44, zq100, zq1010, Bool.and_true, if_true, if_false, z1ne0, not_true_eq_false, not_false_eq_true, zite10, eq_self, and_true, true_and, and_false, false_and, ↓reduceIte, Int32.reduceLT, Int32.reduceLE, Int32.reduceAdd, Int32.reduceSub, Int32.reduceMul]
  · exact zFr_sI (zFr_sI (zFr_sI (zFr_sI (zFr_sI (zFr_sI (zFr_sI (zFr_sI (zFr_refl _ M) (ow 0)) (ow 1)) (ow 2)) rfl) rfl) rfl) rfl) rfl
  · have e31 : (nI (n + 1)).toInt = n + 1 := by rw [nI_toInt (by omega)]; omega
    have e31' : (zgI M 13 0 31).toInt = n := by rw [n2, nI_toInt (by omega)]
    refine ⟨rfl, ⟨?_, ?_⟩, fun s hs => ?_⟩
    · show 0 ≤ (nI (n + 1)).toInt
      omega
    · show (nI (n + 1)).toInt ≤ 10
      omega
    · have hs : (s : Int) < (nI (n + 1)).toInt := hs
      by_cases e : s = n
      · subst e
        have hz' := hz s hn (by omega)
        have y0 : 0 ≤ x1.toInt ∧ x1.toInt ≤ 7 := by rw [zI_le, zI_le] at k1; exact k1
        have y1 : 0 ≤ (x2 * 100).toInt ∧ (x2 * 100).toInt ≤ 9999900 := by
          have : 0 ≤ x2 * 100 ∧ x2 * 100 ≤ 9999900 := by grind
          rw [zI_le, zI_le] at this
          exact this
        have y2 : -99 ≤ x3.toInt ∧ x3.toInt ≤ 99 := by rw [zI_le, zI_le] at k3; exact k3
        refine ⟨⟨by grind [zgI_sI], by grind [zgI_sI], by grind [zgI_sI], by grind [zgI_sI], by grind [zgI_sI], by grind [zgI_sI]⟩, ?_, ?_, ?_⟩
        · rw [show zgI (zsI (zsI (zsI (zsI (zsI (zsI (zsI (zsI M 2 s 0 x1) 2 s 1 (x2 * 100)) 2 s 2 x3) 12 0 12 (nI (s + 1))) 70 0 s x1) 71 0 s (x2 * 100)) 72 0 s x3) 13 0 31 (nI (s + 1))) 70 0 s = x1 by grind [zgI_sI]]
          exact y0
        · rw [show zgI (zsI (zsI (zsI (zsI (zsI (zsI (zsI (zsI M 2 s 0 x1) 2 s 1 (x2 * 100)) 2 s 2 x3) 12 0 12 (nI (s + 1))) 70 0 s x1) 71 0 s (x2 * 100)) 72 0 s x3) 13 0 31 (nI (s + 1))) 71 0 s = x2 * 100 by grind [zgI_sI]]
          exact y1
        · rw [show zgI (zsI (zsI (zsI (zsI (zsI (zsI (zsI (zsI M 2 s 0 x1) 2 s 1 (x2 * 100)) 2 s 2 x3) 12 0 12 (nI (s + 1))) 70 0 s x1) 71 0 s (x2 * 100)) 72 0 s x3) 13 0 31 (nI (s + 1))) 72 0 s = x3 by grind [zgI_sI]]
          exact y2
      · refine zPl1_eq (hp.2.2 s (by omega)) (fun j hj => ?_) (fun j h1 h2 => ?_)
        · simp [zgI_sI, e]
        · simp [zgI_sI, e, show ¬ j = 13 by omega, show ¬ j = 12 by omega, show ¬ j = 2 by omega]
  · intro s hs hs2
    have hs2 : (nI (n + 1)).toInt ≤ s := hs2
    rw [nI_toInt (by omega)] at hs2
    have w := hz s hs (by rw [n2, nI_toInt (by omega)]; omega)
    refine ⟨?_, ?_, ?_, w.2.2.2⟩
    · rw [show zgI (zsI (zsI (zsI (zsI (zsI (zsI (zsI (zsI M 2 n 0 x1) 2 n 1 (x2 * 100)) 2 n 2 x3) 12 0 12 (nI (n + 1))) 70 0 n x1) 71 0 n (x2 * 100)) 72 0 n x3) 13 0 31 (nI (n + 1))) 2 s 3 = zgI M 2 s 3 by grind [zgI_sI]]
      exact w.1
    · rw [show zgI (zsI (zsI (zsI (zsI (zsI (zsI (zsI (zsI M 2 n 0 x1) 2 n 1 (x2 * 100)) 2 n 2 x3) 12 0 12 (nI (n + 1))) 70 0 n x1) 71 0 n (x2 * 100)) 72 0 n x3) 13 0 31 (nI (n + 1))) 2 s 4 = zgI M 2 s 4 by grind [zgI_sI]]
      exact w.2.1
    · rw [show zgI (zsI (zsI (zsI (zsI (zsI (zsI (zsI (zsI M 2 n 0 x1) 2 n 1 (x2 * 100)) 2 n 2 x3) 12 0 12 (nI (n + 1))) 70 0 n x1) 71 0 n (x2 * 100)) 72 0 n x3) 13 0 31 (nI (n + 1))) 2 s 5 = zgI M 2 s 5 by grind [zgI_sI]]
      exact w.2.2.1
  · show zgI M 13 0 31 ≤ nI (n + 1)
    rw [n2]
    exact nI_le (by omega) (by omega)
