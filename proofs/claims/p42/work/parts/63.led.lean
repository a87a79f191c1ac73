/-! ===== hands led ===== -/
def yCds (k k' di h : Nat) (A B : zM) (m : Nat) : Prop := m ≤ 20 ∧ ∀ s, s < m → zgI A k di s = zgI B k' 0 (24 * h + s)
/-- what was left: numbers -/
def yLft (di h : Nat) (A B : zM) (lf : Nat → Nat) : Prop := (∀ v, 1 ≤ v → v ≤ 10 → zgI A 28 di v = nI (lf v) ∧ zgI B 95 0 (11 * h + v) = nI (lf v)) ∧ zgI B 95 0 (11 * h) = nI (ysm lf) ∧ 1 ≤ ysm lf ∧ ysm lf ≤ 416
def yDl (di h : Nat) (A B : zM) : Prop :=
  (zgI A 4 di 9 = zgI B 83 0 h ∧ zgI A 4 di 10 = zgI B 84 0 h ∧ zgI A 4 di 11 = zgI B 85 0 h ∧ zgI A 4 di 15 = zgI B 86 0 h ∧ zgI A 4 di 12 = zgI B 87 0 h ∧ zgI A 4 di 13 = zgI B 88 0 h ∧ zgI A 4 di 18 = zgI B 89 0 h ∧ zgI A 4 di 19 = zgI B 90 0 h) ∧ (zgI B 89 0 h = 0 ∨ zgI B 89 0 h = 1) ∧ (zgI B 90 0 h = 0 ∨ zgI B 90 0 h = 1) ∧
  (∃ m, zgI A 4 di 5 = nI m ∧ zgI B 92 0 h = nI m ∧ yCds 24 91 di h A B m) ∧ (∃ m, zgI A 4 di 6 = nI m ∧ zgI B 94 0 h = nI m ∧ yCds 25 93 di h A B m) ∧ ∃ lf, yLft di h A B lf
def Rled (M : zM) : Prop := ∃ n, n ≤ 60 ∧ zgI M 12 0 13 = nI n ∧ zgI M 13 0 45 = nI n ∧ ∀ h, h < n → yDl h h M M
theorem yDl_fr {di h : Nat} {A B A' B' : zM} (hd : yDl di h A B) (h1 : ∀ k s, (k = 4 ∧ s ≠ 16) ∨ k = 24 ∨ k = 25 ∨ k = 28 → zgI A' k di s = zgI A k di s) (h2 : ∀ k s, 83 ≤ k → k ≤ 95 → zgI B' k 0 s = zgI B k 0 s) : yDl di h A' B' := by
  obtain ⟨⟨a1, a2, a3, a4, a5, a6, a7, a8⟩, b1, b2, ⟨m, m1, m2, m3, m4⟩, ⟨t, t1, t2, t3, t4⟩, lf, l1, l2, l3⟩ := hd
  refine ⟨⟨?_, ?_, ?_, ?_, ?_, ?_, ?_, ?_⟩, ?_, ?_, ⟨m, ?_, ?_, m3, fun s hs => ?_⟩, ⟨t, ?_, ?_, t3, fun s hs => ?_⟩, lf, fun v v1 v2 => ?_, ?_, l3⟩
  · rw [h1 4 9 (by omega), h2 83 h (by omega) (by omega)]; exact a1
  · rw [h1 4 10 (by omega), h2 84 h (by omega) (by omega)]; exact a2
  · rw [h1 4 11 (by omega), h2 85 h (by omega) (by omega)]; exact a3
  · rw [h1 4 15 (by omega), h2 86 h (by omega) (by omega)]; exact a4
  · rw [h1 4 12 (by omega), h2 87 h (by omega) (by omega)]; exact a5
  · rw [h1 4 13 (by omega), h2 88 h (by omega) (by omega)]; exact a6
  · rw [h1 4 18 (by omega), h2 89 h (by omega) (by omega)]; exact a7
  · rw [h1 4 19 (by omega), h2 90 h (by omega) (by omega)]; exact a8
  · rw [h2 89 h (by omega) (by omega)]; exact b1
  · rw [h2 90 h (by omega) (by omega)]; exact b2
  · rw [h1 4 5 (by omega)]; exact m1
  · rw [h2 92 h (by omega) (by omega)]; exact m2
  · rw [h1 24 s (by omega), h2 91 _ (by omega) (by omega)]; exact m4 s hs
  · rw [h1 4 6 (by omega)]; exact t1
  · rw [h2 94 h (by omega) (by omega)]; exact t2
  · rw [h1 25 s (by omega), h2 93 _ (by omega) (by omega)]; exact t4 s hs
  · rw [h1 28 v (by omega), h2 95 _ (by omega) (by omega)]; exact l1 v v1 v2
  · rw [h2 95 _ (by omega) (by omega)]; exact l2
theorem Rled_fr {m : Nat → Bool} {M M' : zM} (h : zFr m M M') (hm : m 7 = false) (hm' : m 27 = false) (hR : Rled M) : Rled M' := by
  obtain ⟨n, h1, h2, h3, h4⟩ := hR
  refine ⟨n, h1, by rw [(h 12 0 13 hm).1]; exact h2, by rw [(h 13 0 45 hm').1]; exact h3, fun i hi => yDl_fr (h4 i hi) (fun k s hk => (h k i s ?_).1) (fun k s k1 k2 => (h k 0 s ?_).1)⟩
  · rcases hk with ⟨rfl, hs⟩ | rfl | rfl | rfl
    · rw [show zown 4 i s = if i < 60 ∧ s ≠ 16 then 7 else 12 from rfl, if_pos ⟨by omega, hs⟩]; exact hm
    · rw [show zown 24 i s = if i < 60 then 7 else 12 from rfl, if_pos (by omega)]; exact hm
    · rw [show zown 25 i s = if i < 60 then 7 else 12 from rfl, if_pos (by omega)]; exact hm
    · rw [show zown 28 i s = if i < 60 then 7 else 12 from rfl, if_pos (by omega)]; exact hm
  · rcases (by omega : k = 83 ∨ k = 84 ∨ k = 85 ∨ k = 86 ∨ k = 87 ∨ k = 88 ∨ k = 89 ∨ k = 90 ∨ k = 91 ∨ k = 92 ∨ k = 93 ∨ k = 94 ∨ k = 95) with rfl | rfl | rfl | rfl | rfl | rfl | rfl | rfl | rfl | rfl | rfl | rfl | rfl <;> exact hm'
/-- 'dealAt' -/
theorem S182 (d n : Nat) (x : Int32) (M : zM) (h : zgI M 12 0 13 = nI n) (hn : n ≤ 60) : zgo false d 182 0 [zr 12 0, zi x] [] M = some (some (if zin x n = true then zr 4 x.toNatClampNeg else zr 0 0), M) := by
  simp only [B182_0, B182_30, B182_31, h]
  by_cases hz : zin x n = true
  · obtain ⟨j, hj, rfl⟩ := zin_of hz
    rw [if_neg (nI_pos (by omega)), if_neg (nI_ge hj (by omega)), if_neg (show ¬ (60 : Int32) ≤ nI j from nI_ge (b := 60) (by omega) (by omega)), if_pos (zin_nI (by omega) (by omega)), if_pos hz]
  · rw [if_neg hz]
    by_cases h1 : x < 0
    · rw [if_pos h1]
    · rw [if_neg h1]
      obtain ⟨j, hj, rfl⟩ := nI_of h1
      have : n ≤ j := by
        rcases Nat.lt_or_ge j n with q | q
        · exact absurd (zin_nI q (by omega)) hz
        · exact q
      rw [if_pos (nI_le this hj)]
theorem S182n (d n j : Nat) (M : zM) (h : zgI M 12 0 13 = nI n) (hn : n ≤ 60) (hj : j < n) : zgo false d 182 0 [zr 12 0, zi (nI j)] [] M = some (some (zr 4 j), M) := by
  rw [S182 d n _ M h hn, if_pos (zin_nI hj (by omega)), nI_clamp (by omega)]
theorem ynz {x : Int32} (h : 10 ≤ x) : ¬ x = 0 ∧ ¬ x = 1 ∧ ¬ x = 2 ∧ ¬ x = 3 ∧ ¬ x = 4 ∧ ¬ x = 5 ∧ ¬ x = 6 ∧ ¬ x = 7 ∧ ¬ x = 8 := by
  refine ⟨?_, ?_, ?_, ?_, ?_, ?_, ?_, ?_, ?_⟩ <;> (intro q; subst q; exact absurd h (by decide))
/-- 'led' -/
theorem Q11 (d : Nat) (x1 x2 : Int32) (u : zV) (M : zM) (h : Rled M) : ∃ (y : Int32), zgo false (d + 3) 141 0 [zr 12 0, zi x1, zi x2, u] [] M = some (some (zi y), M) ∧ zgo false (d + 3) 274 0 [zr 13 0, zi x1, zi x2] [] M = some (some (zi y), M) := by
  obtain ⟨n, hn, n1, n2, hd⟩ := h
  have hc := fun d => S182 d n x1 M n1 hn
  by_cases hm : x1 = -1
  · subst hm
    by_cases h0 : x2 = 0
    · subst h0
      exact ⟨nI n, by simp +decide only [B141_0, B141_14, B141_19, B141_34, n1, zbsome, zpu1, zpu0, cond_true, cond_false, zib0, zib1, zib_ite, zq00, zq20, zq22, zq90, zq99, zq40, zq44, zq100, zq1010, Bool.and_true, if_true, if_false, z1ne0, not_true_eq_false, not_false_eq_true, zite10, eq_self, and_true, true_and, and_false, false_and, ↓reduceIte, Int32.reduceLT, Int32.reduceLE, Int32.reduceAdd, Int32.reduceSub, Int32.reduceMul], by simp +decide only [B274_0, B274_18, B274_30, B274_44, B274_79, B274_88, B274_123, B274_239, n2, zbsome, zpu1, zpu0, cond_true, cond_false, zib0, zib1, zib_ite, zq00, zq20, zq22, zq90, zq99, zq40, zq44, zq100, zq1010, Bool.and_true, if_true, if_false, z1ne0, not_true_eq_false, not_false_eq_true, zite10, eq_self, and_true, true_and, and_false, false_and, ↓reduceIte, Int32.reduceLT, Int32.reduceLE, Int32.reduceAdd, Int32.reduceSub, Int32.reduceMul]⟩
    · have z : ¬ zin (-1) n = true := by
        rw [zin_iff]
        have : (-1 : Int32).toInt = -1 := rfl
        omega
      exact ⟨-2000000000, by simp +decide only [B141_0, B141_14, B141_19, B141_34, h0, hc, z, zbsome, zpu1, zpu0, cond_true, cond_false, zib0, zib1, zib_ite, zq00, zq20, zq22, zq90, zq99, zq40, zq44, zq100, zq1010, Bool.and_true, if_true, if_false, z1ne0, not_true_eq_false, not_false_eq_true, zite10, eq_self, and_true, true_and, and_false, false_and, ↓reduceIte, Int32.reduceLT, Int32.reduceLE, Int32.reduceAdd, Int32.reduceSub, Int32.reduceMul], by simp +decide only [B274_0, B274_18, B274_30, B274_44, B274_79, B274_88, B274_123, B274_239, h0, zbsome, zpu1, zpu0, cond_true, cond_false, zib0, zib1, zib_ite, zq00, zq20, zq22, zq90, zq99, zq40, zq44, zq100, zq1010, Bool.and_true, if_true, if_false, z1ne0, not_true_eq_false, not_false_eq_true, zite10, eq_self, and_true, true_and, and_false, false_and, ↓reduceIte, Int32.reduceLT, Int32.reduceLE, Int32.reduceAdd, Int32.reduceSub, Int32.reduceMul]⟩
  have hb : (0 ≤ x1 ∧ x1 ≤ nI n - 1) ↔ zin x1 n = true := by
    constructor
    · rintro ⟨a, b⟩
      obtain ⟨j, hj, rfl⟩ := nI_of (z_le_nlt a)
      by_cases q : j < n
      · exact zin_nI q (by omega)
      · exfalso
        have := nI_le (show n ≤ j by omega) hj
        have n61 : nI n ≤ 60 := nI_le (b := 60) hn (by omega)
        have n0 : 0 ≤ nI n := nI_pos' (by omega)
        grind
    · intro hz
      obtain ⟨j, hj, rfl⟩ := zin_of hz
      have n61 : nI n ≤ 60 := nI_le (b := 60) hn (by omega)
      have n0 : 0 ≤ nI n := nI_pos' (by omega)
      have j0 : 0 ≤ nI j := nI_pos' (by omega)
      have := nI_lt hj (by omega)
      grind
  by_cases hz : zin x1 n = true
  case neg =>
    have hz' : ¬ (0 ≤ x1 ∧ x1 ≤ nI n - 1) := mt hb.mp hz
    exact ⟨-2000000000, by simp +decide only [B141_0, B141_14, B141_19, B141_34, hm, hc, hz, zbsome, zpu1, zpu0, cond_true, cond_false, zib0, zib1, zib_ite, zq00, zq20, zq22, zq90, zq99, zq40, zq44, zq100, zq1010, Bool.and_true, if_true, if_false, z1ne0, not_true_eq_false, not_false_eq_true, zite10, eq_self, and_true, true_and, and_false, false_and, ↓reduceIte, Int32.reduceLT, Int32.reduceLE, Int32.reduceAdd, Int32.reduceSub, Int32.reduceMul], by simp +decide only [B274_0, B274_18, B274_30, B274_44, B274_79, B274_88, B274_123, B274_239, hm, S_in, n2, hz', zbsome, zpu1, zpu0, cond_true, cond_false, zib0, zib1, zib_ite, zq00, zq20, zq22, zq90, zq99, zq40, zq44, zq100, zq1010, Bool.and_true, if_true, if_false, z1ne0, not_true_eq_false, not_false_eq_true, zite10, eq_self, and_true, true_and, and_false, false_and, ↓reduceIte, Int32.reduceLT, Int32.reduceLE, Int32.reduceAdd, Int32.reduceSub, Int32.reduceMul]⟩
  have hz' := hb.mpr hz
  obtain ⟨j, hj, rfl⟩ := zin_of hz
  have z60 : zin (nI j) 60 = true := zin_nI (by omega) (by omega)
  have cj : (nI j).toNatClampNeg = j := nI_clamp (by omega)
  obtain ⟨⟨a1, a2, a3, a4, a5, a6, a7, a8⟩, b1, b2, ⟨m, m1, m2, m3, m4⟩, ⟨t, t1, t2, t3, t4⟩, -⟩ := hd j hj
  have hc' : ∀ d, zgo false d 182 0 [zr 12 0, zi (nI j)] [] M = some (some (zr 4 j), M) := fun d => S182n d n j M n1 hn hj
  by_cases r1 : 10 ≤ x2 ∧ x2 ≤ 29
  · have c1 : ¬ x2 < 10 := z_le_nlt r1.1
    have c2 : ¬ 30 ≤ x2 := by grind
    have nz : ¬ x2 = 0 ∧ ¬ x2 = 1 ∧ ¬ x2 = 2 ∧ ¬ x2 = 3 ∧ ¬ x2 = 4 ∧ ¬ x2 = 5 ∧ ¬ x2 = 6 ∧ ¬ x2 = 7 ∧ ¬ x2 = 8 := ynz r1.1
    obtain ⟨i, hi, e⟩ := zin_of (zin20.mpr ⟨by grind, by grind⟩ : zin (x2 - 10) 20 = true)
    have ex : x2 = nI (i + 10) := by
      rw [← nI_add, ← e]
      show x2 = x2 - 10 + 10
      grind
    have e2 : 24 * nI j + x2 - 10 = nI (24 * j + i) := by
      rw [show (24 : Int32) = nI 24 from rfl, pk_mul, ← nI_add, ← e]
      grind
    have z2 : zin (nI (24 * j + i)) 1440 = true := zin_nI (by omega) (by omega)
    have c3 : (nI (24 * j + i)).toNatClampNeg = 24 * j + i := nI_clamp (by omega)
    by_cases q : m ≤ i
    · have q' : nI m ≤ nI i := nI_le q (by omega)
      exact ⟨-2000000000, by simp +decide only [B141_0, B141_14, B141_19, B141_34, B29_0, B29_99, B29_112, B29_118, B30_0, B30_34, B30_39, B30_40, B30_74, B30_79, B30_80, hm, hc', nz, c1, c2, m1, e, q', zbsome, zpu1, zpu0, cond_true, cond_false, zib0, zib1, zib_ite, zq00, zq20, zq22, zq90, zq99, zq40, zq44, zq100, zq1010, Bool.and_true, if_true, if_false, z1ne0, not_true_eq_false, not_false_eq_true, zite10, eq_self, and_true, true_and, and_false, false_and, ↓reduceIte, Int32.reduceLT, Int32.reduceLE, Int32.reduceAdd, Int32.reduceSub, Int32.reduceMul], by simp +decide only [B274_0, B274_18, B274_30, B274_44, B274_79, B274_88, B274_123, B274_239, hm, S_in, n2, hz', r1, z60, cj, m2, e, q', zbsome, zpu1, zpu0, cond_true, cond_false, zib0, zib1, zib_ite, zq00, zq20, zq22, zq90, zq99, zq40, zq44, zq100, zq1010, Bool.and_true, if_true, if_false, z1ne0, not_true_eq_false, not_false_eq_true, zite10, eq_self, and_true, true_and, and_false, false_and, ↓reduceIte, Int32.reduceLT, Int32.reduceLE, Int32.reduceAdd, Int32.reduceSub, Int32.reduceMul]⟩
    · have q' : ¬ nI m ≤ nI i := nI_ge (by omega) (by omega)
      exact ⟨zgI M 24 j i, by simp +decide only [B141_0, B141_14, B141_19, B141_34, B29_0, B29_99, B29_112, B29_118, B30_0, B30_34, B30_39, B30_40, B30_74, B30_79, B30_80, hm, hc', nz, c1, c2, m1, e, q', at24n _ _ _ _ _ hi, zbsome, zpu1, zpu0, cond_true, cond_false, zib0, zib1, zib_ite, zq00, zq20, zq22, zq90, zq99, zq40, zq44, zq100, zq1010, Bool.and_true, if_true, if_false, z1ne0, not_true_eq_false, not_false_eq_true, zite10, eq_self, and_true, true_and, and_false, false_and, ↓reduceIte, Int32.reduceLT, Int32.reduceLE, Int32.reduceAdd, Int32.reduceSub, Int32.reduceMul], by simp +decide only [B274_0, B274_18, B274_30, B274_44, B274_79, B274_88, B274_123, B274_239, hm, S_in, n2, hz', r1, z60, cj, m2, e, q', e2, z2, c3, m4 i (show i < m by omega), zbsome, zpu1, zpu0, cond_true, cond_false, zib0, zib1, zib_ite, zq00, zq20, zq22, zq90, zq99, zq40, zq44, zq100, zq1010, Bool.and_true, if_true, if_false, z1ne0, not_true_eq_false, not_false_eq_true, zite10, eq_self, and_true, true_and, and_false, false_and, ↓reduceIte, Int32.reduceLT, Int32.reduceLE, Int32.reduceAdd, Int32.reduceSub, Int32.reduceMul]⟩
  by_cases r2 : 30 ≤ x2 ∧ x2 ≤ 49
  · have c0 : ¬ x2 < 10 := by grind
    have c1 : ¬ x2 < 30 := z_le_nlt r2.1
    have c2 : ¬ 50 ≤ x2 := by grind
    have nz : ¬ x2 = 0 ∧ ¬ x2 = 1 ∧ ¬ x2 = 2 ∧ ¬ x2 = 3 ∧ ¬ x2 = 4 ∧ ¬ x2 = 5 ∧ ¬ x2 = 6 ∧ ¬ x2 = 7 ∧ ¬ x2 = 8 := ynz (by grind)
    obtain ⟨i, hi, e⟩ := zin_of (zin20.mpr ⟨by grind, by grind⟩ : zin (x2 - 30) 20 = true)
    have e2 : 24 * nI j + x2 - 30 = nI (24 * j + i) := by
      rw [show (24 : Int32) = nI 24 from rfl, pk_mul, ← nI_add, ← e]
      grind
    have z2 : zin (nI (24 * j + i)) 1440 = true := zin_nI (by omega) (by omega)
    have c3 : (nI (24 * j + i)).toNatClampNeg = 24 * j + i := nI_clamp (by omega)
    by_cases q : t ≤ i
    · have q' : nI t ≤ nI i := nI_le q (by omega)
      exact ⟨-2000000000, by simp +decide only [B141_0, B141_14, B141_19, B141_34, B29_0, B29_99, B29_112, B29_118, B30_0, B30_34, B30_39, B30_40, B30_74, B30_79, B30_80, hm, hc', nz, c0, c1, c2, r2.1, t1, e, q', zbsome, zpu1, zpu0, cond_true, cond_false, zib0, zib1, zib_ite, zq00, zq20, zq22, zq90, zq99, zq40, zq44, zq100, zq1010, Bool.and_true, if_true, if_false, z1ne0, not_true_eq_false, not_false_eq_true, zite10, eq_self, and_true, true_and, and_false, false_and, ↓reduceIte, Int32.reduceLT, Int32.reduceLE, Int32.reduceAdd, Int32.reduceSub, Int32.reduceMul], by simp +decide only [B274_0, B274_18, B274_30, B274_44, B274_79, B274_88, B274_123, B274_239, hm, S_in, n2, hz', r1, r2, z60, cj, t2, e, q', zbsome, zpu1, zpu0, cond_true, cond_false, zib0, zib1, zib_ite, zq00, zq20, zq22, zq90, zq99, zq40, zq44, zq100, zq1010, Bool.and_true, if_true, if_false, z1ne0, not_true_eq_false, not_false_eq_true, zite10, eq_self, and_true, true_and, and_false, false_and, ↓reduceIte, Int32.reduceLT, Int32.reduceLE, Int32.reduceAdd, Int32.reduceSub, Int32.reduceMul]⟩
    · have q' : ¬ nI t ≤ nI i := nI_ge (by omega) (by omega)
      exact ⟨zgI M 25 j i, by simp +decide only [B141_0, B141_14, B141_19, B141_34, B29_0, B29_99, B29_112, B29_118, B30_0, B30_34, B30_39, B30_40, B30_74, B30_79, B30_80, hm, hc', nz, c0, c1, c2, r2.1, t1, e, q', at25n _ _ _ _ _ hi, zbsome, zpu1, zpu0, cond_true, cond_false, zib0, zib1, zib_ite, zq00, zq20, zq22, zq90, zq99, zq40, zq44, zq100, zq1010, Bool.and_true, if_true, if_false, z1ne0, not_true_eq_false, not_false_eq_true, zite10, eq_self, and_true, true_and, and_false, false_and, ↓reduceIte, Int32.reduceLT, Int32.reduceLE, Int32.reduceAdd, Int32.reduceSub, Int32.reduceMul], by simp +decide only [B274_0, B274_18, B274_30, B274_44, B274_79, B274_88, B274_123, B274_239, hm, S_in, n2, hz', r1, r2, z60, cj, t2, e, q', e2, z2, c3, t4 i (show i < t by omega), zbsome, zpu1, zpu0, cond_true, cond_false, zib0, zib1, zib_ite, zq00, zq20, zq22, zq90, zq99, zq40, zq44, zq100, zq1010, Bool.and_true, if_true, if_false, z1ne0, not_true_eq_false, not_false_eq_true, zite10, eq_self, and_true, true_and, and_false, false_and, ↓reduceIte, Int32.reduceLT, Int32.reduceLE, Int32.reduceAdd, Int32.reduceSub, Int32.reduceMul]⟩
  have e30 : x2 < 10 ∨ 50 ≤ x2 := by grind
  by_cases s0 : x2 = 0
  · subst s0; exact ⟨_, by simp +decide only [B141_0, B141_14, B141_19, B141_34, B29_0, B29_99, B29_112, B29_118, hm, hc', zbsome, zpu1, zpu0, cond_true, cond_false, zib0, zib1, zib_ite, zq00, zq20, zq22, zq90, zq99, zq40, zq44, zq100, zq1010, Bool.and_true, if_true, if_false, z1ne0, not_true_eq_false, not_false_eq_true, zite10, eq_self, and_true, true_and, and_false, false_and, ↓reduceIte, Int32.reduceLT, Int32.reduceLE, Int32.reduceAdd, Int32.reduceSub, Int32.reduceMul]; rfl, by simp +decide only [B274_0, B274_18, B274_30, B274_44, B274_79, B274_88, B274_123, B274_239, hm, S_in, n2, hz', z60, cj, a1, zbsome, zpu1, zpu0, cond_true, cond_false, zib0, zib1, zib_ite, zq00, zq20, zq22, zq90, zq99, zq40, zq44, zq100, zq1010, Bool.and_true, if_true, if_false, z1ne0, not_true_eq_false, not_false_eq_true, zite10, eq_self, and_true, true_and, and_false, false_and, ↓reduceIte, Int32.reduceLT, Int32.reduceLE, Int32.reduceAdd, Int32.reduceSub, Int32.reduceMul]⟩
  by_cases s1 : x2 = 1
  · subst s1; exact ⟨_, by simp +decide only [B141_0, B141_14, B141_19, B141_34, B29_0, B29_99, B29_112, B29_118, hm, hc', zbsome, zpu1, zpu0, cond_true, cond_false, zib0, zib1, zib_ite, zq00, zq20, zq22, zq90, zq99, zq40, zq44, zq100, zq1010, Bool.and_true, if_true, if_false, z1ne0, not_true_eq_false, not_false_eq_true, zite10, eq_self, and_true, true_and, and_false, false_and, ↓reduceIte, Int32.reduceLT, Int32.reduceLE, Int32.reduceAdd, Int32.reduceSub, Int32.reduceMul]; rfl, by simp +decide only [B274_0, B274_18, B274_30, B274_44, B274_79, B274_88, B274_123, B274_239, hm, S_in, n2, hz', z60, cj, a2, zbsome, zpu1, zpu0, cond_true, cond_false, zib0, zib1, zib_ite, zq00, zq20, zq22, zq90, zq99, zq40, zq44, zq100, zq1010, Bool.and_true, if_true, if_false, z1ne0, not_true_eq_false, not_false_eq_true, zite10, eq_self, and_true, true_and, and_false, false_and, ↓reduceIte, Int32.reduceLT, Int32.reduceLE, Int32.reduceAdd, Int32.reduceSub, Int32.reduceMul]⟩
  by_cases s2 : x2 = 2
  · subst s2; exact ⟨_, by simp +decide only [B141_0, B141_14, B141_19, B141_34, B29_0, B29_99, B29_112, B29_118, hm, hc', m1, zbsome, zpu1, zpu0, cond_true, cond_false, zib0, zib1, zib_ite, zq00, zq20, zq22, zq90, zq99, zq40, zq44, zq100, zq1010, Bool.and_true, if_true, if_false, z1ne0, not_true_eq_false, not_false_eq_true, zite10, eq_self, and_true, true_and, and_false, false_and, ↓reduceIte, Int32.reduceLT, Int32.reduceLE, Int32.reduceAdd, Int32.reduceSub, Int32.reduceMul]; rfl, by simp +decide only [B274_0, B274_18, B274_30, B274_44, B274_79, B274_88, B274_123, B274_239, hm, S_in, n2, hz', z60, cj, m2, zbsome, zpu1, zpu0, cond_true, cond_false, zib0, zib1, zib_ite, zq00, zq20, zq22, zq90, zq99, zq40, zq44, zq100, zq1010, Bool.and_true, if_true, if_false, z1ne0, not_true_eq_false, not_false_eq_true, zite10, eq_self, and_true, true_and, and_false, false_and, ↓reduceIte, Int32.reduceLT, Int32.reduceLE, Int32.reduceAdd, Int32.reduceSub, Int32.reduceMul]⟩
  by_cases s3 : x2 = 3
  · subst s3; exact ⟨_, by simp +decide only [B141_0, B141_14, B141_19, B141_34, B29_0, B29_99, B29_112, B29_118, hm, hc', t1, zbsome, zpu1, zpu0, cond_true, cond_false, zib0, zib1, zib_ite, zq00, zq20, zq22, zq90, zq99, zq40, zq44, zq100, zq1010, Bool.and_true, if_true, if_false, z1ne0, not_true_eq_false, not_false_eq_true, zite10, eq_self, and_true, true_and, and_false, false_and, ↓reduceIte, Int32.reduceLT, Int32.reduceLE, Int32.reduceAdd, Int32.reduceSub, Int32.reduceMul]; rfl, by simp +decide only [B274_0, B274_18, B274_30, B274_44, B274_79, B274_88, B274_123, B274_239, hm, S_in, n2, hz', z60, cj, t2, zbsome, zpu1, zpu0, cond_true, cond_false, zib0, zib1, zib_ite, zq00, zq20, zq22, zq90, zq99, zq40, zq44, zq100, zq1010, Bool.and_true, if_true, if_false, z1ne0, not_true_eq_false, not_false_eq_true, zite10, eq_self, and_true, true_and, and_false, false_and, ↓reduceIte, Int32.reduceLT, Int32.reduceLE, Int32.reduceAdd, Int32.reduceSub, Int32.reduceMul]⟩
  by_cases s4 : x2 = 4
  · subst s4; exact ⟨_, by simp +decide only [B141_0, B141_14, B141_19, B141_34, B29_0, B29_99, B29_112, B29_118, hm, hc', zbsome, zpu1, zpu0, cond_true, cond_false, zib0, zib1, zib_ite, zq00, zq20, zq22, zq90, zq99, zq40, zq44, zq100, zq1010, Bool.and_true, if_true, if_false, z1ne0, not_true_eq_false, not_false_eq_true, zite10, eq_self, and_true, true_and, and_false, false_and, ↓reduceIte, Int32.reduceLT, Int32.reduceLE, Int32.reduceAdd, Int32.reduceSub, Int32.reduceMul]; rfl, by simp +decide only [B274_0, B274_18, B274_30, B274_44, B274_79, B274_88, B274_123, B274_239, hm, S_in, n2, hz', z60, cj, a3, zbsome, zpu1, zpu0, cond_true, cond_false, zib0, zib1, zib_ite, zq00, zq20, zq22, zq90, zq99, zq40, zq44, zq100, zq1010, Bool.and_true, if_true, if_false, z1ne0, not_true_eq_false, not_false_eq_true, zite10, eq_self, and_true, true_and, and_false, false_and, ↓reduceIte, Int32.reduceLT, Int32.reduceLE, Int32.reduceAdd, Int32.reduceSub, Int32.reduceMul]⟩
  by_cases s5 : x2 = 5
  · subst s5; exact ⟨_, by simp +decide only [B141_0, B141_14, B141_19, B141_34, B29_0, B29_99, B29_112, B29_118, hm, hc', zbsome, zpu1, zpu0, cond_true, cond_false, zib0, zib1, zib_ite, zq00, zq20, zq22, zq90, zq99, zq40, zq44, zq100, zq1010, Bool.and_true, if_true, if_false, z1ne0, not_true_eq_false, not_false_eq_true, zite10, eq_self, and_true, true_and, and_false, false_and, ↓reduceIte, Int32.reduceLT, Int32.reduceLE, Int32.reduceAdd, Int32.reduceSub, Int32.reduceMul]; rfl, by simp +decide only [B274_0, B274_18, B274_30, B274_44, B274_79, B274_88, B274_123, B274_239, hm, S_in, n2, hz', z60, cj, a4, zbsome, zpu1, zpu0, cond_true, cond_false, zib0, zib1, zib_ite, zq00, zq20, zq22, zq90, zq99, zq40, zq44, zq100, zq1010, Bool.and_true, if_true, if_false, z1ne0, not_true_eq_false, not_false_eq_true, zite10, eq_self, and_true, true_and, and_false, false_and, ↓reduceIte, Int32.reduceLT, Int32.reduceLE, Int32.reduceAdd, Int32.reduceSub, Int32.reduceMul]⟩
  by_cases s6 : x2 = 6
  · subst s6; exact ⟨_, by simp +decide only [B141_0, B141_14, B141_19, B141_34, B29_0, B29_99, B29_112, B29_118, hm, hc', zbsome, zpu1, zpu0, cond_true, cond_false, zib0, zib1, zib_ite, zq00, zq20, zq22, zq90, zq99, zq40, zq44, zq100, zq1010, Bool.and_true, if_true, if_false, z1ne0, not_true_eq_false, not_false_eq_true, zite10, eq_self, and_true, true_and, and_false, false_and, ↓reduceIte, Int32.reduceLT, Int32.reduceLE, Int32.reduceAdd, Int32.reduceSub, Int32.reduceMul]; rfl, by simp +decide only [B274_0, B274_18, B274_30, B274_44, B274_79, B274_88, B274_123, B274_239, hm, S_in, n2, hz', z60, cj, a5, zbsome, zpu1, zpu0, cond_true, cond_false, zib0, zib1, zib_ite, zq00, zq20, zq22, zq90, zq99, zq40, zq44, zq100, zq1010, Bool.and_true, if_true, if_false, z1ne0, not_true_eq_false, not_false_eq_true, zite10, eq_self, and_true, true_and, and_false, false_and, ↓reduceIte, Int32.reduceLT, Int32.reduceLE, Int32.reduceAdd, Int32.reduceSub, Int32.reduceMul]⟩
  by_cases s7 : x2 = 7
  · subst s7
    rcases b1 with b1 | b1
    · exact ⟨0, by simp +decide only [B141_0, B141_14, B141_19, B141_34, B29_0, B29_99, B29_112, B29_118, hm, hc', a7, b1, zbsome, zpu1, zpu0, cond_true, cond_false, zib0, zib1, zib_ite, zq00, zq20, zq22, zq90, zq99, zq40, zq44, zq100, zq1010, Bool.and_true, if_true, if_false, z1ne0, not_true_eq_false, not_false_eq_true, zite10, eq_self, and_true, true_and, and_false, false_and, ↓reduceIte, Int32.reduceLT, Int32.reduceLE, Int32.reduceAdd, Int32.reduceSub, Int32.reduceMul], by simp +decide only [B274_0, B274_18, B274_30, B274_44, B274_79, B274_88, B274_123, B274_239, hm, S_in, n2, hz', z60, cj, b1, zbsome, zpu1, zpu0, cond_true, cond_false, zib0, zib1, zib_ite, zq00, zq20, zq22, zq90, zq99, zq40, zq44, zq100, zq1010, Bool.and_true, if_true, if_false, z1ne0, not_true_eq_false, not_false_eq_true, zite10, eq_self, and_true, true_and, and_false, false_and, ↓reduceIte, Int32.reduceLT, Int32.reduceLE, Int32.reduceAdd, Int32.reduceSub, Int32.reduceMul]⟩
    · exact ⟨1, by simp +decide only [B141_0, B141_14, B141_19, B141_34, B29_0, B29_99, B29_112, B29_118, hm, hc', a7, b1, zbsome, zpu1, zpu0, cond_true, cond_false, zib0, zib1, zib_ite, zq00, zq20, zq22, zq90, zq99, zq40, zq44, zq100, zq1010, Bool.and_true, if_true, if_false, z1ne0, not_true_eq_false, not_false_eq_true, zite10, eq_self, and_true, true_and, and_false, false_and, ↓reduceIte, Int32.reduceLT, Int32.reduceLE, Int32.reduceAdd, Int32.reduceSub, Int32.reduceMul], by simp +decide only [B274_0, B274_18, B274_30, B274_44, B274_79, B274_88, B274_123, B274_239, hm, S_in, n2, hz', z60, cj, b1, zbsome, zpu1, zpu0, cond_true, cond_false, zib0, zib1, zib_ite, zq00, zq20, zq22, zq90, zq99, zq40, zq44, zq100, zq1010, Bool.and_true, if_true, if_false, z1ne0, not_true_eq_false, not_false_eq_true, zite10, eq_self, and_true, true_and, and_false, false_and, ↓reduceIte, Int32.reduceLT, Int32.reduceLE, Int32.reduceAdd, Int32.reduceSub, Int32.reduceMul]⟩
  by_cases s8 : x2 = 8
  · subst s8
    rcases b2 with b2 | b2
    · exact ⟨0, by simp +decide only [B141_0, B141_14, B141_19, B141_34, B29_0, B29_99, B29_112, B29_118, hm, hc', a8, b2, zbsome, zpu1, zpu0, cond_true, cond_false, zib0, zib1, zib_ite, zq00, zq20, zq22, zq90, zq99, zq40, zq44, zq100, zq1010, Bool.and_true, if_true, if_false, z1ne0, not_true_eq_false, not_false_eq_true, zite10, eq_self, and_true, true_and, and_false, false_and, ↓reduceIte, Int32.reduceLT, Int32.reduceLE, Int32.reduceAdd, Int32.reduceSub, Int32.reduceMul], by simp +decide only [B274_0, B274_18, B274_30, B274_44, B274_79, B274_88, B274_123, B274_239, hm, S_in, n2, hz', z60, cj, b2, zbsome, zpu1, zpu0, cond_true, cond_false, zib0, zib1, zib_ite, zq00, zq20, zq22, zq90, zq99, zq40, zq44, zq100, zq1010, Bool.and_true, if_true, if_false, z1ne0, not_true_eq_false, not_false_eq_true, zite10, eq_self, and_true, true_and, and_false, false_and, ↓reduceIte, Int32.reduceLT, Int32.reduceLE, Int32.reduceAdd, Int32.reduceSub, Int32.reduceMul]⟩
    · exact ⟨1, by simp +decide only [B141_0, B141_14, B141_19, B141_34, B29_0, B29_99, B29_112, B29_118, hm, hc', a8, b2, zbsome, zpu1, zpu0, cond_true, cond_false, zib0, zib1, zib_ite, zq00, zq20, zq22, zq90, zq99, zq40, zq44, zq100, zq1010, Bool.and_true, if_true, if_false, z1ne0, not_true_eq_false, not_false_eq_true, zite10, eq_self, and_true, true_and, and_false, false_and, ↓reduceIte, Int32.reduceLT, Int32.reduceLE, Int32.reduceAdd, Int32.reduceSub, Int32.reduceMul], by simp +decide only [B274_0, B274_18, B274_30, B274_44, B274_79, B274_88, B274_123, B274_239, hm, S_in, n2, hz', z60, cj, b2, zbsome, zpu1, zpu0, cond_true, cond_false, zib0, zib1, zib_ite, zq00, zq20, zq22, zq90, zq99, zq40, zq44, zq100, zq1010, Bool.and_true, if_true, if_false, z1ne0, not_true_eq_false, not_false_eq_true, zite10, eq_self, and_true, true_and, and_false, false_and, ↓reduceIte, Int32.reduceLT, Int32.reduceLE, Int32.reduceAdd, Int32.reduceSub, Int32.reduceMul]⟩
  refine ⟨-2000000000, ?_, by simp +decide only [B274_0, B274_18, B274_30, B274_44, B274_79, B274_88, B274_123, B274_239, hm, S_in, n2, hz', r1, r2, s0, s1, s2, s3, s4, s5, s6, s7, s8, zbsome, zpu1, zpu0, cond_true, cond_false, zib0, zib1, zib_ite, zq00, zq20, zq22, zq90, zq99, zq40, zq44, zq100, zq1010, Bool.and_true, if_true, if_false, z1ne0, not_true_eq_false, not_false_eq_true, zite10, eq_self, and_true, true_and, and_false, false_and, ↓reduceIte, Int32.reduceLT, Int32.reduceLE, Int32.reduceAdd, Int32.reduceSub, Int32.reduceMul]⟩
  rcases e30 with q | q
  · have q2 : x2 < 30 := by grind
    simp +decide only [B141_0, B141_14, B141_19, B141_34, B29_0, B29_99, B29_112, B29_118, B30_0, B30_34, B30_39, B30_40, B30_74, B30_79, B30_80, hm, hc', s0, s1, s2, s3, s4, s5, s6, s7, s8, q, q2, zbsome, zpu1, zpu0, cond_true, cond_false, zib0, zib1, zib_ite, zq00, zq20, zq22, zq90, zq99, zq40, zq44, zq100, zq1010, Bool.and_true, if_true, if_false, z1ne0, not_true_eq_false, not_false_eq_true, zite10, eq_self, and_true, true_and, and_false, false_and, ↓reduceIte, Int32.reduceLT, Int32.reduceLE, Int32.reduceAdd, Int32.reduceSub, Int32.reduceMul]
  · have q1 : ¬ x2 < 10 := by grind
    have q2 : 30 ≤ x2 := by grind
    have q3 : ¬ x2 < 30 := by grind
    simp +decide only [B141_0, B141_14, B141_19, B141_34, B29_0, B29_99, B29_112, B29_118, B30_0, B30_34, B30_39, B30_40, B30_74, B30_79, B30_80, hm, hc', s0, s1, s2, s3, s4, s5, s6, s7, s8, q, q1, q2, q3, zbsome, zpu1, zpu0, cond_true, cond_false, zib0, zib1, zib_ite, zq00, zq20, zq22, zq90, zq99, zq40, zq44, zq100, zq1010, Bool.and_true, if_true, if_false, z1ne0, not_true_eq_false, not_false_eq_true, zite10, eq_self, and_true, true_and, and_false, false_and, ↓reduceIte, Int32.reduceLT, Int32.reduceLE, Int32.reduceAdd, Int32.reduceSub, Int32.reduceMul]
/-! heard, hides -/
theorem L157 (d n : Nat) (M : zM) (hn : n ≤ 60) (n1 : zgI M 12 0 13 = nI n) (n2 : zgI M 13 0 45 = nI n) (hd : ∀ h, h < n → yDl h h M M) : ∀ (j k : Nat) (x : Int32) (u : zV), k + j = n → ∃ y, zgo false (d + 1) 157 4 [zr 12 0, zi x, zi (nI k), u] [] M = some (some (zi y), M) ∧ zgo false (d + 1) 277 4 [zr 13 0, zi x, zi (nI k)] [] M = some (some (zi y), M)
  | 0, k, x, u, hk => by
    have hk : k = n := by omega
    subst hk
    exact ⟨x, by rw [B157_4, n1, if_pos (nI_le (by omega) (by omega))], by rw [B277_4, n2, if_pos (nI_le (by omega) (by omega))]⟩
  | j + 1, k, x, u, hk => by
    obtain ⟨y, e1, e2⟩ := L157 d n M hn n1 n2 hd j (k + 1) (x + (zgI M 87 0 k - zgI M 88 0 k)) (zr 4 k) (by omega)
    obtain ⟨⟨a1, a2, a3, a4, a5, a6, a7, a8⟩, -⟩ := hd k (by omega)
    have ck : (nI k).toNatClampNeg = k := nI_clamp (by omega)
    have z : zin (nI k) 60 = true := zin_nI (by omega) (by omega)
    refine ⟨y, ?_, ?_⟩
    · rw [B157_4, n1, if_neg (nI_ge (by omega) (by omega)), S182n _ n k M n1 hn (by omega)]
      simp +decide only [B157_17, B157_34, a5, a6, nI_1, zbsome, zpu1, zpu0, cond_true, cond_false, zib0, zib1, zib_ite, zq00, zq20, zq22, zq90, zq99, zq40, zq44, zq100, zq1010, Bool.and_true, if_true, if_false, z1ne0, not_true_eq_false, not_false_eq_true, zite10, eq_self, and_true, true_and, and_false, false_and, ↓reduceIte, Int32.reduceLT, Int32.reduceLE, Int32.reduceAdd, Int32.reduceSub, Int32.reduceMul]
      exact e1
    · rw [B277_4, n2, if_neg (nI_ge (by omega) (by omega)), if_pos z, if_pos z, ck, B277_28, nI_1]
      exact e2
/-- 'hides' -/
theorem Q27 (d : Nat) (u1 u2 u3 u4 u5 : zV) (M : zM) (h : Rled M) : ∃ (y : Int32), zgo false (d + 1) 157 0 [zr 12 0, u1, u2, u3] [] M = some (some (zi y), M) ∧ zgo false (d + 1) 277 0 [zr 13 0, u4, u5] [] M = some (some (zi y), M) := by
  obtain ⟨n, hn, n1, n2, hd⟩ := h
  rw [B157_0, B277_0]
  exact L157 d n M hn n1 n2 hd n 0 0 u3 (by omega)
def yWf (f : Nat → Int32) (t : Int32) : Nat → Int32
  | 0 => 0
  | k + 1 => if t < f k then yWf f t k else yWf f t k + 1
theorem L189 (d N : Nat) (t : Int32) (M : zM) (f : Nat → Int32) (hN : N ≤ 8) (h1 : zgI M 12 0 14 = nI N) (h2 : ∀ k, k < N → zgI M 54 0 k = f k) : ∀ (j k : Nat), k + j = N → zgo false (d + 1) 189 4 [zr 12 0, zi t, zi (yWf f t k), zi (nI k)] [] M = some (some (zi (yWf f t N)), M)
  | 0, k, hk => by
    have hk : k = N := by omega
    subst hk
    rw [B189_4, h1, if_pos (nI_le (by omega) (by omega))]
  | j + 1, k, hk => by
    have ih := L189 d N t M f hN h1 h2 j (k + 1) (by omega)
    rw [B189_4, h1, if_neg (nI_ge (by omega) (by omega)), at54n _ _ _ _ _ (by omega), h2 k (by omega)]
    by_cases c : t < f k
    · rw [yWf, if_pos c] at ih
      simp +decide only [B189_20, B189_27, c, nI_1, zbsome, zpu1, zpu0, cond_true, cond_false, zib0, zib1, zib_ite, zq00, zq20, zq22, zq90, zq99, zq40, zq44, zq100, zq1010, Bool.and_true, if_true, if_false, z1ne0, not_true_eq_false, not_false_eq_true, zite10, eq_self, and_true, true_and, and_false, false_and, ↓reduceIte, Int32.reduceLT, Int32.reduceLE, Int32.reduceAdd, Int32.reduceSub, Int32.reduceMul]
      exact ih
    · rw [yWf, if_neg c] at ih
      simp +decide only [B189_20, B189_27, c, nI_1, zbsome, zpu1, zpu0, cond_true, cond_false, zib0, zib1, zib_ite, zq00, zq20, zq22, zq90, zq99, zq40, zq44, zq100, zq1010, Bool.and_true, if_true, if_false, z1ne0, not_true_eq_false, not_false_eq_true, zite10, eq_self, and_true, true_and, and_false, false_and, ↓reduceIte, Int32.reduceLT, Int32.reduceLE, Int32.reduceAdd, Int32.reduceSub, Int32.reduceMul]
      exact ih
theorem L289b (d N : Nat) (t x1 x2 : Int32) (h : Nat) (M : zM) (f : Nat → Int32) (hN : N ≤ 8) (h1 : zgI M 13 0 87 = nI N) (h2 : ∀ k, k < N → zgI M 108 0 k = f k) (hh : h < 60) (ht : zgI M 86 0 h = t) : ∀ (j k : Nat), k + j = N → ∃ u4 u5, zgo false d 289 30 [zr 13 0, zi x1, zi x2, zi (nI h), zi (yWf f t k), zi (nI k)] [] M = zgo false d 289 16 [zr 13 0, zi x1, zi (if yWf f t N = x1 then x2 + 1 else x2), zi (nI (h + 1)), u4, u5] [] M
  | 0, k, hk => by
    have hk : k = N := by omega
    subst hk
    refine ⟨zi (yWf f t k), zi (nI k), ?_⟩
    rw [B289_30, h1, if_pos (nI_le (by omega) (by omega))]
    by_cases c : yWf f t k = x1
    · rw [if_pos c, if_pos c, B289_83, nI_1]
    · rw [if_neg c, if_neg c, B289_83, nI_1, Int32.add_zero]
  | j + 1, k, hk => by
    obtain ⟨u4, u5, e⟩ := L289b d N t x1 x2 h M f hN h1 h2 hh ht j (k + 1) (by omega)
    refine ⟨u4, u5, ?_⟩
    rw [B289_30, h1, if_neg (nI_ge (by omega) (by omega)), if_pos (zin_nI (by omega) (by omega)), if_pos (zin_nI (by omega) (by omega)), nI_clamp (by omega), nI_clamp (by omega), h2 k (by omega), ht]
    by_cases c : t < f k
    · rw [yWf, if_pos c] at e
      rw [if_pos c, B289_62, Int32.add_zero, nI_1]
      exact e
    · rw [yWf, if_neg c] at e
      rw [if_neg c, B289_62, nI_1]
      exact e
theorem L156 (d n N : Nat) (x1 : Int32) (M : zM) (f : Nat → Int32) (hn : n ≤ 60) (n1 : zgI M 12 0 13 = nI n) (n2 : zgI M 13 0 45 = nI n) (hd : ∀ h, h < n → yDl h h M M) (hN : N ≤ 8) (h1 : zgI M 12 0 14 = nI N) (h2 : ∀ k, k < N → zgI M 54 0 k = f k) (h3 : zgI M 13 0 87 = nI N) (h4 : ∀ k, k < N → zgI M 108 0 k = f k) : ∀ (j k : Nat) (x2 : Int32) (u v w : zV), k + j = n → ∃ y, zgo false (d + 2) 156 19 [zr 12 0, zi x1, zi x2, zi (nI k), u] [] M = some (some (zi y), M) ∧ zgo false (d + 2) 289 16 [zr 13 0, zi x1, zi x2, zi (nI k), v, w] [] M = some (some (zi y), M)
  | 0, k, x2, u, v, w, hk => by
    have hk : k = n := by omega
    subst hk
    exact ⟨x2, by rw [B156_19, n1, if_pos (nI_le (by omega) (by omega))], by rw [B289_16, n2, if_pos (nI_le (by omega) (by omega))]⟩
  | j + 1, k, x2, u, v, w, hk => by
    obtain ⟨⟨a1, a2, a3, a4, -⟩, -⟩ := hd k (by omega)
    obtain ⟨u4, u5, e⟩ := L289b (d + 2) N (zgI M 86 0 k) x1 x2 k M f hN h3 h4 (by omega) rfl N 0 (by omega)
    obtain ⟨y, e1, e2⟩ := L156 d n N x1 M f hn n1 n2 hd hN h1 h2 h3 h4 j (k + 1) (if yWf f (zgI M 86 0 k) N = x1 then x2 + 1 else x2) (zr 4 k) u4 u5 (by omega)
    have l := L189 d N (zgI M 86 0 k) M f hN h1 h2 N 0 (by omega)
    have l' : zgo false (d + 1) 189 0 [zr 12 0, zi (zgI M 86 0 k), zu, zu] [] M = some (some (zi (yWf f (zgI M 86 0 k) N)), M) := by
      rw [B189_0]
      exact l
    refine ⟨y, ?_, ?_⟩
    · rw [B156_19, n1, if_neg (nI_ge (by omega) (by omega)), S182n _ n k M n1 hn (by omega)]
      by_cases c : yWf f (zgI M 86 0 k) N = x1
      · rw [if_pos c] at e1
        simp +decide only [B156_32, B156_48, B156_55, a4, l', c, nI_1, zbsome, zpu1, zpu0, cond_true, cond_false, zib0, zib1, zib_ite, zq00, zq20, zq22, zq90, zq99, zq40, zq44, zq100, zq1010, Bool.and_true, if_true, if_false, z1ne0, not_true_eq_false, not_false_eq_true, zite10, eq_self, and_true, true_and, and_false, false_and, ↓reduceIte, Int32.reduceLT, Int32.reduceLE, Int32.reduceAdd, Int32.reduceSub, Int32.reduceMul]
        exact e1
      · rw [if_neg c] at e1
        simp +decide only [B156_32, B156_48, B156_55, a4, l', c, nI_1, zbsome, zpu1, zpu0, cond_true, cond_false, zib0, zib1, zib_ite, zq00, zq20, zq22, zq90, zq99, zq40, zq44, zq100, zq1010, Bool.and_true, if_true, if_false, z1ne0, not_true_eq_false, not_false_eq_true, zite10, eq_self, and_true, true_and, and_false, false_and, ↓reduceIte, Int32.reduceLT, Int32.reduceLE, Int32.reduceAdd, Int32.reduceSub, Int32.reduceMul]
        exact e1
    · rw [B289_16, n2, if_neg (nI_ge (by omega) (by omega))]
      exact e.trans e2
/-- 'heard' -/
theorem Q26 (d : Nat) (x1 : Int32) (u1 u2 u3 v1 v2 v3 v4 : zV) (M : zM) (h : Rled M) (hb : Rbnd M) : ∃ (y : Int32), zgo false (d + 2) 156 0 [zr 12 0, zi x1, u1, u2, u3] [] M = some (some (zi y), M) ∧ zgo false (d + 2) 289 0 [zr 13 0, zi x1, v1, v2, v3, v4] [] M = some (some (zi y), M) := by
  obtain ⟨n, hn, n1, n2, hd⟩ := h
  obtain ⟨b1, b2, b3⟩ := hb
  obtain ⟨N, hN, e⟩ := zin_of (zin_iff.mpr ⟨b2.1, (by omega : (zgI M 13 0 87).toInt < ((9 : Nat) : Int))⟩)
  have e' : (zgI M 13 0 87).toInt = N := by rw [e, nI_toInt (by omega)]
  by_cases ok : 0 ≤ x1 ∧ x1 ≤ 8
  · have c : ¬ x1 < 0 := z_le_nlt ok.1
    obtain ⟨y, e1, e2⟩ := L156 d n N x1 M (fun k => zgI M 108 0 k) hn n1 n2 hd (by omega) (b1.trans e) (fun k hk => b3 k (by omega)) e (fun k _ => rfl) n 0 0 u3 v3 v4 (by omega)
    refine ⟨y, ?_, ?_⟩
    · simp +decide only [B156_0, c, ok.2, zbsome, zpu1, zpu0, cond_true, cond_false, zib0, zib1, zib_ite, zq00, zq20, zq22, zq90, zq99, zq40, zq44, zq100, zq1010, Bool.and_true, if_true, if_false, z1ne0, not_true_eq_false, not_false_eq_true, zite10, eq_self, and_true, true_and, and_false, false_and, ↓reduceIte, Int32.reduceLT, Int32.reduceLE, Int32.reduceAdd, Int32.reduceSub, Int32.reduceMul]
      exact e1
    · simp +decide only [B289_0, B289_7, S_in, ok, zbsome, zpu1, zpu0, cond_true, cond_false, zib0, zib1, zib_ite, zq00, zq20, zq22, zq90, zq99, zq40, zq44, zq100, zq1010, Bool.and_true, if_true, if_false, z1ne0, not_true_eq_false, not_false_eq_true, zite10, eq_self, and_true, true_and, and_false, false_and, ↓reduceIte, Int32.reduceLT, Int32.reduceLE, Int32.reduceAdd, Int32.reduceSub, Int32.reduceMul]
      exact e2
  · refine ⟨-1, ?_, ?_⟩
    · by_cases c : x1 < 0
      · simp +decide only [B156_0, B156_13, c, zbsome, zpu1, zpu0, cond_true, cond_false, zib0, zib1, zib_ite, zq00, zq20, zq22, zq90, zq99, zq40, zq44, zq100, zq1010, Bool.and_true, if_true, if_false, z1ne0, not_true_eq_false, not_false_eq_true, zite10, eq_self, and_true, true_and, and_false, false_and, ↓reduceIte, Int32.reduceLT, Int32.reduceLE, Int32.reduceAdd, Int32.reduceSub, Int32.reduceMul]
      · have c2 : ¬ x1 ≤ 8 := fun q => ok ⟨z_nlt_le c, q⟩
        simp +decide only [B156_0, B156_13, c, c2, zbsome, zpu1, zpu0, cond_true, cond_false, zib0, zib1, zib_ite, zq00, zq20, zq22, zq90, zq99, zq40, zq44, zq100, zq1010, Bool.and_true, if_true, if_false, z1ne0, not_true_eq_false, not_false_eq_true, zite10, eq_self, and_true, true_and, and_false, false_and, ↓reduceIte, Int32.reduceLT, Int32.reduceLE, Int32.reduceAdd, Int32.reduceSub, Int32.reduceMul]
    · simp +decide only [B289_0, B289_7, S_in, ok, zbsome, zpu1, zpu0, cond_true, cond_false, zib0, zib1, zib_ite, zq00, zq20, zq22, zq90, zq99, zq40, zq44, zq100, zq1010, Bool.and_true, if_true, if_false, z1ne0, not_true_eq_false, not_false_eq_true, zite10, eq_self, and_true, true_and, and_false, false_and, ↓reduceIte, Int32.reduceLT, Int32.reduceLE, Int32.reduceAdd, Int32.reduceSub, Int32.reduceMul]
