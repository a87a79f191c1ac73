/-! ===== reading a text, level by level; by program (wip/whole/src/gen70.py) ===== -/
theorem yTpA_n {A : zM} {n : Nat} {t : Nat → Nat} {k : Nat} (h : yTpA A n t) : yTpA (zsI A 8 0 3 (nI k)) n t := ⟨h.1, h.2.1, h.2.2.1, h.2.2.2⟩
theorem yC_eq {n : Nat} {t : Nat → Nat} {p : Nat} (h : p < n) : yC n t p = t p := if_pos h
theorem yNot0 : ¬ (0 : Int32) ≤ -1 := by decide
theorem yPos0 {q : Nat} (h : q < 2 ^ 31) : (0 : Int32) ≤ nI q := nI_pos' h
theorem yJn0 (d c : Nat) (M : zM) (hc : c ≤ 256) (h124 : ¬ c = 124) : zgo false d 91 0 [zi (yS c), zi 0] [] M = some (some (zi 0), M) := by
  simp +decide only [B91_0, B91_43, B91_55, B91_74, B91_79, B91_92, B91_97, B91_116, B91_121, yS124 hc, h124, zbsome, zpu1, zpu0, cond_true, cond_false, zib0, zib1, zib_ite, zq00, zq20, zq22, zq90, zq99, zq40, zq44, zq100, zq1010, Bool.and_true, if_true, if_false, z1ne0, not_true_eq_false, not_false_eq_true, zite10, eq_self, and_true, true_and, and_false, false_and, ↓reduceIte, Int32.reduceLT, Int32.reduceLE, Int32.reduceAdd, Int32.reduceSub, Int32.reduceMul]
theorem ySt0 {n : Nat} {t : Nat → Nat} (d op i q : Nat) (u5 : zV) (A : zM) (hT : yTpA A n t) (hp : zgI A 8 0 3 = nI q) (hq : q ≤ n) (hc : yC n t q ≤ 256) (h124 : ¬ yC n t q = 124) : zgo false (d + 2) 85 39 [zr 8 0, zi 0, zi (nI op), zi 120, zi (nI i), u5] [] A = some (some (zi 1), A) := by
  rw [B85_39]
  by_cases hi : (120 : Int32) ≤ nI i
  · rw [if_pos hi]
  · rw [if_neg hi, S89y d hT hp hq]
    simp +decide only [B85_49, B85_57, yJn0 _ _ _ hc h124, zbsome, zpu1, zpu0, cond_true, cond_false, zib0, zib1, zib_ite, zq00, zq20, zq22, zq90, zq99, zq40, zq44, zq100, zq1010, Bool.and_true, if_true, if_false, z1ne0, not_true_eq_false, not_false_eq_true, zite10, eq_self, and_true, true_and, and_false, false_and, ↓reduceIte, Int32.reduceLT, Int32.reduceLE, Int32.reduceAdd, Int32.reduceSub, Int32.reduceMul]
theorem yEx0 (d : Nat) (B : zM) (q : Nat) (hq : q ≤ 120) (h : zgI B 13 0 21 = nI q) : zgo false (d + 1) 222 4 [zr 13 0] [] B = some (none, B) := by
  simp +decide only [B222_0, B222_4, B222_15, B222_34, B222_41, B222_44, h, yPos0 (show q < 2 ^ 31 by omega), zbsome, zpu1, zpu0, cond_true, cond_false, zib0, zib1, zib_ite, zq00, zq20, zq22, zq90, zq99, zq40, zq44, zq100, zq1010, Bool.and_true, if_true, if_false, z1ne0, not_true_eq_false, not_false_eq_true, zite10, eq_self, and_true, true_and, and_false, false_and, ↓reduceIte, Int32.reduceLT, Int32.reduceLE, Int32.reduceAdd, Int32.reduceSub, Int32.reduceMul]
theorem yLoop0 {n : Nat} {t : Nat → Nat} {op K : Nat} (sub : yGood (K + 1) 85 [zr 8 0, zi 1, zi (nI op), zu, zu, zu] 221 [zr 13 0] n t op) (dA dB p0 z m : Nat) (A0 B0 : zM) (hzp : z ≤ p0 ∧ m ≤ p0) : ∀ (f i p : Nat) (l : List yOp) (A B : zM) (u5 u1 : zV), n - p ≤ f → i ≤ p → yAcc n t A0 B0 A B p0 z m op p l → zRR (zgo false (dA + K + 2) 85 39 [zr 8 0, zi 0, zi (nI op), zi 120, zi (nI i), u5] [] A) (zgo false (dB + K + 2) 222 4 [zr 13 0] [] B) (fun v A' w B' => w = none ∧ yRes n t p0 z m op A0 B0 v A' B') := by
  intro f
  induction f with
  | zero =>
    intro i p l A B u5 u1 hf hi acc
    have P := acc.2.2.2.1
    obtain ⟨⟨a1, a2, a3⟩, b1, b2, b3, b4, b5, b6, hT, hU⟩ := P
    have hc : yC n t p ≤ 256 := yC_le hT.2.1 p
    have c0 : yC n t p = 256 := if_neg (by omega)
    have hL := fun d => S211y d hT hU b3 a1

    have h124 : ¬ yC n t p = 124 := by omega
    refine ⟨(some (zi 1), A), (none, B), ySt0 (dA + K) op i p u5 A hT b1 a1 hc h124, ?_, rfl, Or.inl ⟨rfl, p, l, acc⟩⟩
    simp +decide only [B222_0, B222_4, B222_15, B222_34, B222_41, B222_44, b4, yNot0, hL, yL124 hc, h124, zbsome, zpu1, zpu0, cond_true, cond_false, zib0, zib1, zib_ite, zq00, zq20, zq22, zq90, zq99, zq40, zq44, zq100, zq1010, Bool.and_true, if_true, if_false, z1ne0, not_true_eq_false, not_false_eq_true, zite10, eq_self, and_true, true_and, and_false, false_and, ↓reduceIte, Int32.reduceLT, Int32.reduceLE, Int32.reduceAdd, Int32.reduceSub, Int32.reduceMul]
  | succ f ih =>
    intro i p l A B u5 u1 hf hi acc
    have P := acc.2.2.2.1
    obtain ⟨⟨a1, a2, a3⟩, b1, b2, b3, b4, b5, b6, hT, hU⟩ := P
    have hc : yC n t p ≤ 256 := yC_le hT.2.1 p
    have hL := fun d => S211y d hT hU b3 a1
    have hn := hT.1
    -- a sign s that joins
    have join : ∀ s, ySgn s → yC n t p = s → (∀ d M, zgo false d 91 0 [zi (nI s), zi 0] [] M = some (some (zi 1), M)) → (∀ B2 B3, zgo false (dB + K + 1) 221 0 [zr 13 0] [] (zsI B 13 0 20 (nI (p + 1))) = some (none, B2) → zgo false (dB + K + 1) 213 0 [zr 13 0, zi (nI s), zi 0] [] B2 = some (none, B3) → zgo false (dB + K + 2) 222 4 [zr 13 0] [] B = zgo false (dB + K + 2) 222 4 [zr 13 0] [] B3) → zRR (zgo false (dA + K + 2) 85 39 [zr 8 0, zi 0, zi (nI op), zi 120, zi (nI i), u5] [] A) (zgo false (dB + K + 2) 222 4 [zr 13 0] [] B) (fun v A' w B' => w = none ∧ yRes n t p0 z m op A0 B0 v A' B') := by
      intro s hs hcs hj hm
      have hsl := ySgn_lt hs
      have hpn : p < n := yC_lt (t := t) (by omega)
      have i120 : ¬ (120 : Int32) ≤ nI i := nI_ge (b := 120) (by omega) (by omega)
      have hS : ∀ d, zgo false (d + 1) 89 0 [zr 8 0] [] A = some (some (zi (nI s)), A) := fun d => by
        rw [S89y d hT b1 a1, hcs]
        unfold yS
        rw [if_pos (by omega)]
      obtain ⟨⟨v, A2⟩, ⟨w, B2⟩, e1, e2, hw, r⟩ := sub dA dB (p + 1) (z + l.length) (m + l.length) _ _ (yPa_next acc.2.2.2.1 hpn)
      have hw : w = none := hw
      subst hw
      have e1 : zgo false (dA + K + 1) 85 0 [zr 8 0, zi 1, zi (nI op), zu, zu, zu] [] (zsI A 8 0 3 (nI (p + 1))) = some (v, A2) := e1
      have e2 : zgo false (dB + K + 1) 221 0 [zr 13 0] [] (zsI B 13 0 20 (nI (p + 1))) = some (none, B2) := e2
      have hM := fun B3 => hm B2 B3 e2
      rcases r with ⟨hv, p2, l2, acc2⟩ | bad
      · have hv : v = some (zi 1) := hv
        subst hv
        have acc3 := yAcc_bin hzp acc acc2 hs
        have P2 := acc2.2.2.2.1
        have hp2 : p + 1 < p2 := acc2.2.2.1
        have z2 : z + l.length + l2.length < 128 := by
          have := P2.1
          omega
        have m2 : m + l.length + l2.length < 130 := by
          have := P2.1
          omega
        obtain ⟨a, b, q1, q2, q3⟩ := ih (i + 1) p2 _ _ _ (zi (nI s)) (zi (nI s)) (by omega) (by omega) acc3
        refine ⟨a, b, ?_, ?_, q3⟩
        · rw [B85_39, if_neg i120]
          simp +decide only [B85_49, B85_57, B85_80, B85_95, hS, hj, b1, nI_1, e1, S92y _ _ P2.2.2.1 z2, zbsome, zpu1, zpu0, cond_true, cond_false, zib0, zib1, zib_ite, zq00, zq20, zq22, zq90, zq99, zq40, zq44, zq100, zq1010, Bool.and_true, if_true, if_false, z1ne0, not_true_eq_false, not_false_eq_true, zite10, eq_self, and_true, true_and, and_false, false_and, ↓reduceIte, Int32.reduceLT, Int32.reduceLE, Int32.reduceAdd, Int32.reduceSub, Int32.reduceMul]
          exact q1
        · rw [hM _ (S213y _ _ _ P2.2.2.2.2.2.2.1 m2)]
          exact q2
      · obtain ⟨m', z', q, r1, r2, r3, r4, r5, r6, r7, hv⟩ := yBad_bin (op := op) hn hzp acc bad
        have x6 : ∀ a w, zgI (yEmB B2 m' a w) 13 0 21 = nI q := fun a w => by rw [yEmB_I (by omega) (by omega)]; exact r6
        rcases hv with ⟨hv, hb⟩ | ⟨hv, hq, hd, hb⟩
        · have hv : v = some (zi 0) := hv
          subst hv
          refine ⟨(some (zi 0), A2), (none, yEmB B2 m' (nI s) 0), ?_, ?_, rfl, Or.inr (hb _ _)⟩
          · rw [B85_39, if_neg i120]
            simp +decide only [B85_49, B85_57, B85_80, hS, hj, b1, nI_1, e1, zbsome, zpu1, zpu0, cond_true, cond_false, zib0, zib1, zib_ite, zq00, zq20, zq22, zq90, zq99, zq40, zq44, zq100, zq1010, Bool.and_true, if_true, if_false, z1ne0, not_true_eq_false, not_false_eq_true, zite10, eq_self, and_true, true_and, and_false, false_and, ↓reduceIte, Int32.reduceLT, Int32.reduceLE, Int32.reduceAdd, Int32.reduceSub, Int32.reduceMul]
          · rw [hM _ (S213y _ _ _ r1 r2)]
            exact yEx0 (dB + K + 1) _ q (by omega) (x6 _ _)
        · have hv : v = some (zi 1) := hv
          subst hv
          have hT3 : yTpA (yEmA A2 z' (-1000 - nI s)) n t := yTpA_fr (yTpA_fr (yTpA_n hT) bad.1) (yEmA_fo (z0 := 0) (by omega))
          have hp3 : zgI (yEmA A2 z' (-1000 - nI s)) 8 0 3 = nI q := by rw [yEmA_I (by omega) (by omega)]; exact r5
          have hcq := yC_eq (t := t) hq
          unfold yDg at hd
          refine ⟨(some (zi 1), yEmA A2 z' (-1000 - nI s)), (none, yEmB B2 m' (nI s) 0), ?_, ?_, rfl, Or.inr (hb _ _ _)⟩
          · rw [B85_39, if_neg i120]
            simp +decide only [B85_49, B85_57, B85_80, B85_95, hS, hj, b1, nI_1, e1, S92y _ _ r3 r4, zbsome, zpu1, zpu0, cond_true, cond_false, zib0, zib1, zib_ite, zq00, zq20, zq22, zq90, zq99, zq40, zq44, zq100, zq1010, Bool.and_true, if_true, if_false, z1ne0, not_true_eq_false, not_false_eq_true, zite10, eq_self, and_true, true_and, and_false, false_and, ↓reduceIte, Int32.reduceLT, Int32.reduceLE, Int32.reduceAdd, Int32.reduceSub, Int32.reduceMul]
            exact ySt0 (dA + K) op (i + 1) q _ _ hT3 hp3 r7 (yC_le hT3.2.1 q) (by omega)
          · rw [hM _ (S213y _ _ _ r1 r2)]
            exact yEx0 (dB + K + 1) _ q (by omega) (x6 _ _)
    by_cases h124 : yC n t p = 124
    · refine join 124 (by unfold ySgn; omega) h124 (fun d M => ?_) (fun B2 B3 e2 e3 => ?_)
      · show zgo false d 91 0 [zi 124, zi 0] [] M = _
        simp +decide only [B91_0, B91_43, B91_55, B91_74, B91_79, B91_92, B91_97, B91_116, B91_121, zbsome, zpu1, zpu0, cond_true, cond_false, zib0, zib1, zib_ite, zq00, zq20, zq22, zq90, zq99, zq40, zq44, zq100, zq1010, Bool.and_true, if_true, if_false, z1ne0, not_true_eq_false, not_false_eq_true, zite10, eq_self, and_true, true_and, and_false, false_and, ↓reduceIte, Int32.reduceLT, Int32.reduceLE, Int32.reduceAdd, Int32.reduceSub, Int32.reduceMul]
      · have hL' : ∀ d, zgo false d 211 0 [zr 13 0] [] B = some (some (zi 124), B) := fun d => by
          rw [hL d, h124]
          rfl
        have e3' : zgo false (dB + K + 1) 213 0 [zr 13 0, zi 124, zi 0] [] B2 = some (none, B3) := e3
        rw [B222_4, b4, if_neg yNot0]
        simp +decide only [B222_15, B222_34, B222_41, B222_44, hL', b3, nI_1, e2, e3', zbsome, zpu1, zpu0, cond_true, cond_false, zib0, zib1, zib_ite, zq00, zq20, zq22, zq90, zq99, zq40, zq44, zq100, zq1010, Bool.and_true, if_true, if_false, z1ne0, not_true_eq_false, not_false_eq_true, zite10, eq_self, and_true, true_and, and_false, false_and, ↓reduceIte, Int32.reduceLT, Int32.reduceLE, Int32.reduceAdd, Int32.reduceSub, Int32.reduceMul]
        first | done | rfl
    refine ⟨(some (zi 1), A), (none, B), ySt0 (dA + K) op i p u5 A hT b1 a1 hc h124, ?_, rfl, Or.inl ⟨rfl, p, l, acc⟩⟩
    simp +decide only [B222_0, B222_4, B222_15, B222_34, B222_41, B222_44, b4, yNot0, hL, yL124 hc, h124, zbsome, zpu1, zpu0, cond_true, cond_false, zib0, zib1, zib_ite, zq00, zq20, zq22, zq90, zq99, zq40, zq44, zq100, zq1010, Bool.and_true, if_true, if_false, z1ne0, not_true_eq_false, not_false_eq_true, zite10, eq_self, and_true, true_and, and_false, false_and, ↓reduceIte, Int32.reduceLT, Int32.reduceLE, Int32.reduceAdd, Int32.reduceSub, Int32.reduceMul]
theorem yLv0 {n : Nat} {t : Nat → Nat} {op K : Nat} (sub : yGood (K + 1) 85 [zr 8 0, zi 1, zi (nI op), zu, zu, zu] 221 [zr 13 0] n t op) : yGood (K + 2) 85 [zr 8 0, zi 0, zi (nI op), zu, zu, zu] 222 [zr 13 0] n t op := by
  intro dA dB p z m A B P
  have hzp : z ≤ p ∧ m ≤ p := ⟨P.1.2.1, P.1.2.2⟩
  obtain ⟨⟨v, A1⟩, ⟨w, B1⟩, e1, e2, hw, r⟩ := sub dA dB p z m A B P
  have hw : w = none := hw
  subst hw
  have e1 : zgo false (dA + K + 1) 85 0 [zr 8 0, zi 1, zi (nI op), zu, zu, zu] [] A = some (v, A1) := e1
  have e2 : zgo false (dB + K + 1) 221 0 [zr 13 0] [] B = some (none, B1) := e2
  have c : zgo false (dA + K + 2) 85 0 [zr 8 0, zi 0, zi (nI op), zu, zu, zu] [] A = zgo false (dA + K + 2) 85 19 [zr 8 0, zi 0, zi (nI op), zu, zu, zu] (zpush v []) A1 := by
    rw [B85_0, if_pos (by decide)]
    simp +decide only [e1, zbsome, zpu1, zpu0, cond_true, cond_false, zib0, zib1, zib_ite, zq00, zq20, zq22, zq90, zq99, zq40, zq44, zq100, zq1010, Bool.and_true, if_true, if_false, z1ne0, not_true_eq_false, not_false_eq_true, zite10, eq_self, and_true, true_and, and_false, false_and, ↓reduceIte, Int32.reduceLT, Int32.reduceLE, Int32.reduceAdd, Int32.reduceSub, Int32.reduceMul]
  have k : zgo false (dB + K + 2) 222 0 [zr 13 0] [] B = zgo false (dB + K + 2) 222 4 [zr 13 0] [] B1 := by
    rw [B222_0]
    rw [e2]
    rfl
  show zRR (zgo false (dA + K + 2) 85 0 _ [] A) (zgo false (dB + K + 2) 222 0 _ [] B) _
  rw [c, k]
  rcases r with ⟨hv, p2, l2, acc2⟩ | bad
  · have hv : v = some (zi 1) := hv
    subst hv
    have q := yLoop0 sub dA dB p z m A B hzp n 0 p2 l2 A1 B1 zu zu (by omega) (by omega) acc2
    rw [zpu1]
    rw [B85_19, if_neg (by decide), if_neg (by decide), B85_35]
    exact q
  · obtain ⟨f1, g1, q, m', z', h, hv, ⟨c1, c2, c3, c4, c5, c6, c7⟩, d1, d2, d3, d4, d5⟩ := bad
    have hn := P.2.2.2.2.2.2.2.1
    have h120 := hn.1
    have bad : yBad n t A B p z m v A1 B1 := ⟨f1, g1, q, m', z', h, hv, ⟨c1, c2, c3, c4, c5, c6, c7⟩, d1, d2, d3, d4, d5⟩
    rcases hv with hv | ⟨hv, hq, hd⟩
    · have hv : v = some (zi 0) := hv
      subst hv
      refine ⟨(some (zi 0), A1), (none, B1), ?_, yEx0 _ _ q (by omega) d3, rfl, Or.inr bad⟩
      rw [zpu1, B85_19, if_pos rfl]
    · have hv : v = some (zi 1) := hv
      subst hv
      have hT3 := yTpA_fr hn f1
      have hcq := yC_eq (t := t) hq
      unfold yDg at hd
      refine ⟨(some (zi 1), A1), (none, B1), ?_, yEx0 _ _ q (by omega) d3, rfl, Or.inr bad⟩
      rw [zpu1, B85_19, if_neg (by decide), if_neg (by decide), B85_35]
      exact ySt0 (dA + K) op 0 q _ _ hT3 d1 c2 (yC_le hT3.2.1 q) (by omega)
theorem yJn1 (d c : Nat) (M : zM) (hc : c ≤ 256) (h38 : ¬ c = 38) : zgo false d 91 0 [zi (yS c), zi 1] [] M = some (some (zi 0), M) := by
  simp +decide only [B91_0, B91_43, B91_55, B91_74, B91_79, B91_92, B91_97, B91_116, B91_121, yS38 hc, h38, zbsome, zpu1, zpu0, cond_true, cond_false, zib0, zib1, zib_ite, zq00, zq20, zq22, zq90, zq99, zq40, zq44, zq100, zq1010, Bool.and_true, if_true, if_false, z1ne0, not_true_eq_false, not_false_eq_true, zite10, eq_self, and_true, true_and, and_false, false_and, ↓reduceIte, Int32.reduceLT, Int32.reduceLE, Int32.reduceAdd, Int32.reduceSub, Int32.reduceMul]
theorem ySt1 {n : Nat} {t : Nat → Nat} (d op i q : Nat) (u5 : zV) (A : zM) (hT : yTpA A n t) (hp : zgI A 8 0 3 = nI q) (hq : q ≤ n) (hc : yC n t q ≤ 256) (h38 : ¬ yC n t q = 38) : zgo false (d + 2) 85 39 [zr 8 0, zi 1, zi (nI op), zi 120, zi (nI i), u5] [] A = some (some (zi 1), A) := by
  rw [B85_39]
  by_cases hi : (120 : Int32) ≤ nI i
  · rw [if_pos hi]
  · rw [if_neg hi, S89y d hT hp hq]
    simp +decide only [B85_49, B85_57, yJn1 _ _ _ hc h38, zbsome, zpu1, zpu0, cond_true, cond_false, zib0, zib1, zib_ite, zq00, zq20, zq22, zq90, zq99, zq40, zq44, zq100, zq1010, Bool.and_true, if_true, if_false, z1ne0, not_true_eq_false, not_false_eq_true, zite10, eq_self, and_true, true_and, and_false, false_and, ↓reduceIte, Int32.reduceLT, Int32.reduceLE, Int32.reduceAdd, Int32.reduceSub, Int32.reduceMul]
theorem yEx1 (d : Nat) (B : zM) (q : Nat) (hq : q ≤ 120) (h : zgI B 13 0 21 = nI q) : zgo false (d + 1) 221 4 [zr 13 0] [] B = some (none, B) := by
  simp +decide only [B221_0, B221_4, B221_15, B221_34, B221_41, B221_44, h, yPos0 (show q < 2 ^ 31 by omega), zbsome, zpu1, zpu0, cond_true, cond_false, zib0, zib1, zib_ite, zq00, zq20, zq22, zq90, zq99, zq40, zq44, zq100, zq1010, Bool.and_true, if_true, if_false, z1ne0, not_true_eq_false, not_false_eq_true, zite10, eq_self, and_true, true_and, and_false, false_and, ↓reduceIte, Int32.reduceLT, Int32.reduceLE, Int32.reduceAdd, Int32.reduceSub, Int32.reduceMul]
theorem yLoop1 {n : Nat} {t : Nat → Nat} {op K : Nat} (sub : yGood (K + 1) 85 [zr 8 0, zi 2, zi (nI op), zu, zu, zu] 220 [zr 13 0, zu] n t op) (dA dB p0 z m : Nat) (A0 B0 : zM) (hzp : z ≤ p0 ∧ m ≤ p0) : ∀ (f i p : Nat) (l : List yOp) (A B : zM) (u5 u1 : zV), n - p ≤ f → i ≤ p → yAcc n t A0 B0 A B p0 z m op p l → zRR (zgo false (dA + K + 2) 85 39 [zr 8 0, zi 1, zi (nI op), zi 120, zi (nI i), u5] [] A) (zgo false (dB + K + 2) 221 4 [zr 13 0] [] B) (fun v A' w B' => w = none ∧ yRes n t p0 z m op A0 B0 v A' B') := by
  intro f
  induction f with
  | zero =>
    intro i p l A B u5 u1 hf hi acc
    have P := acc.2.2.2.1
    obtain ⟨⟨a1, a2, a3⟩, b1, b2, b3, b4, b5, b6, hT, hU⟩ := P
    have hc : yC n t p ≤ 256 := yC_le hT.2.1 p
    have c0 : yC n t p = 256 := if_neg (by omega)
    have hL := fun d => S211y d hT hU b3 a1

    have h38 : ¬ yC n t p = 38 := by omega
    refine ⟨(some (zi 1), A), (none, B), ySt1 (dA + K) op i p u5 A hT b1 a1 hc h38, ?_, rfl, Or.inl ⟨rfl, p, l, acc⟩⟩
    simp +decide only [B221_0, B221_4, B221_15, B221_34, B221_41, B221_44, b4, yNot0, hL, yL38 hc, h38, zbsome, zpu1, zpu0, cond_true, cond_false, zib0, zib1, zib_ite, zq00, zq20, zq22, zq90, zq99, zq40, zq44, zq100, zq1010, Bool.and_true, if_true, if_false, z1ne0, not_true_eq_false, not_false_eq_true, zite10, eq_self, and_true, true_and, and_false, false_and, ↓reduceIte, Int32.reduceLT, Int32.reduceLE, Int32.reduceAdd, Int32.reduceSub, Int32.reduceMul]
  | succ f ih =>
    intro i p l A B u5 u1 hf hi acc
    have P := acc.2.2.2.1
    obtain ⟨⟨a1, a2, a3⟩, b1, b2, b3, b4, b5, b6, hT, hU⟩ := P
    have hc : yC n t p ≤ 256 := yC_le hT.2.1 p
    have hL := fun d => S211y d hT hU b3 a1
    have hn := hT.1
    -- a sign s that joins
    have join : ∀ s, ySgn s → yC n t p = s → (∀ d M, zgo false d 91 0 [zi (nI s), zi 1] [] M = some (some (zi 1), M)) → (∀ B2 B3, zgo false (dB + K + 1) 220 0 [zr 13 0, zu] [] (zsI B 13 0 20 (nI (p + 1))) = some (none, B2) → zgo false (dB + K + 1) 213 0 [zr 13 0, zi (nI s), zi 0] [] B2 = some (none, B3) → zgo false (dB + K + 2) 221 4 [zr 13 0] [] B = zgo false (dB + K + 2) 221 4 [zr 13 0] [] B3) → zRR (zgo false (dA + K + 2) 85 39 [zr 8 0, zi 1, zi (nI op), zi 120, zi (nI i), u5] [] A) (zgo false (dB + K + 2) 221 4 [zr 13 0] [] B) (fun v A' w B' => w = none ∧ yRes n t p0 z m op A0 B0 v A' B') := by
      intro s hs hcs hj hm
      have hsl := ySgn_lt hs
      have hpn : p < n := yC_lt (t := t) (by omega)
      have i120 : ¬ (120 : Int32) ≤ nI i := nI_ge (b := 120) (by omega) (by omega)
      have hS : ∀ d, zgo false (d + 1) 89 0 [zr 8 0] [] A = some (some (zi (nI s)), A) := fun d => by
        rw [S89y d hT b1 a1, hcs]
        unfold yS
        rw [if_pos (by omega)]
      obtain ⟨⟨v, A2⟩, ⟨w, B2⟩, e1, e2, hw, r⟩ := sub dA dB (p + 1) (z + l.length) (m + l.length) _ _ (yPa_next acc.2.2.2.1 hpn)
      have hw : w = none := hw
      subst hw
      have e1 : zgo false (dA + K + 1) 85 0 [zr 8 0, zi 2, zi (nI op), zu, zu, zu] [] (zsI A 8 0 3 (nI (p + 1))) = some (v, A2) := e1
      have e2 : zgo false (dB + K + 1) 220 0 [zr 13 0, zu] [] (zsI B 13 0 20 (nI (p + 1))) = some (none, B2) := e2
      have hM := fun B3 => hm B2 B3 e2
      rcases r with ⟨hv, p2, l2, acc2⟩ | bad
      · have hv : v = some (zi 1) := hv
        subst hv
        have acc3 := yAcc_bin hzp acc acc2 hs
        have P2 := acc2.2.2.2.1
        have hp2 : p + 1 < p2 := acc2.2.2.1
        have z2 : z + l.length + l2.length < 128 := by
          have := P2.1
          omega
        have m2 : m + l.length + l2.length < 130 := by
          have := P2.1
          omega
        obtain ⟨a, b, q1, q2, q3⟩ := ih (i + 1) p2 _ _ _ (zi (nI s)) (zi (nI s)) (by omega) (by omega) acc3
        refine ⟨a, b, ?_, ?_, q3⟩
        · rw [B85_39, if_neg i120]
          simp +decide only [B85_49, B85_57, B85_80, B85_95, hS, hj, b1, nI_1, e1, S92y _ _ P2.2.2.1 z2, zbsome, zpu1, zpu0, cond_true, cond_false, zib0, zib1, zib_ite, zq00, zq20, zq22, zq90, zq99, zq40, zq44, zq100, zq1010, Bool.and_true, if_true, if_false, z1ne0, not_true_eq_false, not_false_eq_true, zite10, eq_self, and_true, true_and, and_false, false_and, ↓reduceIte, Int32.reduceLT, Int32.reduceLE, Int32.reduceAdd, Int32.reduceSub, Int32.reduceMul]
          exact q1
        · rw [hM _ (S213y _ _ _ P2.2.2.2.2.2.2.1 m2)]
          exact q2
      · obtain ⟨m', z', q, r1, r2, r3, r4, r5, r6, r7, hv⟩ := yBad_bin (op := op) hn hzp acc bad
        have x6 : ∀ a w, zgI (yEmB B2 m' a w) 13 0 21 = nI q := fun a w => by rw [yEmB_I (by omega) (by omega)]; exact r6
        rcases hv with ⟨hv, hb⟩ | ⟨hv, hq, hd, hb⟩
        · have hv : v = some (zi 0) := hv
          subst hv
          refine ⟨(some (zi 0), A2), (none, yEmB B2 m' (nI s) 0), ?_, ?_, rfl, Or.inr (hb _ _)⟩
          · rw [B85_39, if_neg i120]
            simp +decide only [B85_49, B85_57, B85_80, hS, hj, b1, nI_1, e1, zbsome, zpu1, zpu0, cond_true, cond_false, zib0, zib1, zib_ite, zq00, zq20, zq22, zq90, zq99, zq40, zq44, zq100, zq1010, Bool.and_true, if_true, if_false, z1ne0, not_true_eq_false, not_false_eq_true, zite10, eq_self, and_true, true_and, and_false, false_and, ↓reduceIte, Int32.reduceLT, Int32.reduceLE, Int32.reduceAdd, Int32.reduceSub, Int32.reduceMul]
          · rw [hM _ (S213y _ _ _ r1 r2)]
            exact yEx1 (dB + K + 1) _ q (by omega) (x6 _ _)
        · have hv : v = some (zi 1) := hv
          subst hv
          have hT3 : yTpA (yEmA A2 z' (-1000 - nI s)) n t := yTpA_fr (yTpA_fr (yTpA_n hT) bad.1) (yEmA_fo (z0 := 0) (by omega))
          have hp3 : zgI (yEmA A2 z' (-1000 - nI s)) 8 0 3 = nI q := by rw [yEmA_I (by omega) (by omega)]; exact r5
          have hcq := yC_eq (t := t) hq
          unfold yDg at hd
          refine ⟨(some (zi 1), yEmA A2 z' (-1000 - nI s)), (none, yEmB B2 m' (nI s) 0), ?_, ?_, rfl, Or.inr (hb _ _ _)⟩
          · rw [B85_39, if_neg i120]
            simp +decide only [B85_49, B85_57, B85_80, B85_95, hS, hj, b1, nI_1, e1, S92y _ _ r3 r4, zbsome, zpu1, zpu0, cond_true, cond_false, zib0, zib1, zib_ite, zq00, zq20, zq22, zq90, zq99, zq40, zq44, zq100, zq1010, Bool.and_true, if_true, if_false, z1ne0, not_true_eq_false, not_false_eq_true, zite10, eq_self, and_true, true_and, and_false, false_and, ↓reduceIte, Int32.reduceLT, Int32.reduceLE, Int32.reduceAdd, Int32.reduceSub, Int32.reduceMul]
            exact ySt1 (dA + K) op (i + 1) q _ _ hT3 hp3 r7 (yC_le hT3.2.1 q) (by omega)
          · rw [hM _ (S213y _ _ _ r1 r2)]
            exact yEx1 (dB + K + 1) _ q (by omega) (x6 _ _)
    by_cases h38 : yC n t p = 38
    · refine join 38 (by unfold ySgn; omega) h38 (fun d M => ?_) (fun B2 B3 e2 e3 => ?_)
      · show zgo false d 91 0 [zi 38, zi 1] [] M = _
        simp +decide only [B91_0, B91_43, B91_55, B91_74, B91_79, B91_92, B91_97, B91_116, B91_121, zbsome, zpu1, zpu0, cond_true, cond_false, zib0, zib1, zib_ite, zq00, zq20, zq22, zq90, zq99, zq40, zq44, zq100, zq1010, Bool.and_true, if_true, if_false, z1ne0, not_true_eq_false, not_false_eq_true, zite10, eq_self, and_true, true_and, and_false, false_and, ↓reduceIte, Int32.reduceLT, Int32.reduceLE, Int32.reduceAdd, Int32.reduceSub, Int32.reduceMul]
      · have hL' : ∀ d, zgo false d 211 0 [zr 13 0] [] B = some (some (zi 38), B) := fun d => by
          rw [hL d, h38]
          rfl
        have e3' : zgo false (dB + K + 1) 213 0 [zr 13 0, zi 38, zi 0] [] B2 = some (none, B3) := e3
        rw [B221_4, b4, if_neg yNot0]
        simp +decide only [B221_15, B221_34, B221_41, B221_44, hL', b3, nI_1, e2, e3', zbsome, zpu1, zpu0, cond_true, cond_false, zib0, zib1, zib_ite, zq00, zq20, zq22, zq90, zq99, zq40, zq44, zq100, zq1010, Bool.and_true, if_true, if_false, z1ne0, not_true_eq_false, not_false_eq_true, zite10, eq_self, and_true, true_and, and_false, false_and, ↓reduceIte, Int32.reduceLT, Int32.reduceLE, Int32.reduceAdd, Int32.reduceSub, Int32.reduceMul]
        first | done | rfl
    refine ⟨(some (zi 1), A), (none, B), ySt1 (dA + K) op i p u5 A hT b1 a1 hc h38, ?_, rfl, Or.inl ⟨rfl, p, l, acc⟩⟩
    simp +decide only [B221_0, B221_4, B221_15, B221_34, B221_41, B221_44, b4, yNot0, hL, yL38 hc, h38, zbsome, zpu1, zpu0, cond_true, cond_false, zib0, zib1, zib_ite, zq00, zq20, zq22, zq90, zq99, zq40, zq44, zq100, zq1010, Bool.and_true, if_true, if_false, z1ne0, not_true_eq_false, not_false_eq_true, zite10, eq_self, and_true, true_and, and_false, false_and, ↓reduceIte, Int32.reduceLT, Int32.reduceLE, Int32.reduceAdd, Int32.reduceSub, Int32.reduceMul]
theorem yLv1 {n : Nat} {t : Nat → Nat} {op K : Nat} (sub : yGood (K + 1) 85 [zr 8 0, zi 2, zi (nI op), zu, zu, zu] 220 [zr 13 0, zu] n t op) : yGood (K + 2) 85 [zr 8 0, zi 1, zi (nI op), zu, zu, zu] 221 [zr 13 0] n t op := by
  intro dA dB p z m A B P
  have hzp : z ≤ p ∧ m ≤ p := ⟨P.1.2.1, P.1.2.2⟩
  obtain ⟨⟨v, A1⟩, ⟨w, B1⟩, e1, e2, hw, r⟩ := sub dA dB p z m A B P
  have hw : w = none := hw
  subst hw
  have e1 : zgo false (dA + K + 1) 85 0 [zr 8 0, zi 2, zi (nI op), zu, zu, zu] [] A = some (v, A1) := e1
  have e2 : zgo false (dB + K + 1) 220 0 [zr 13 0, zu] [] B = some (none, B1) := e2
  have c : zgo false (dA + K + 2) 85 0 [zr 8 0, zi 1, zi (nI op), zu, zu, zu] [] A = zgo false (dA + K + 2) 85 19 [zr 8 0, zi 1, zi (nI op), zu, zu, zu] (zpush v []) A1 := by
    rw [B85_0, if_pos (by decide)]
    simp +decide only [e1, zbsome, zpu1, zpu0, cond_true, cond_false, zib0, zib1, zib_ite, zq00, zq20, zq22, zq90, zq99, zq40, zq44, zq100, zq1010, Bool.and_true, if_true, if_false, z1ne0, not_true_eq_false, not_false_eq_true, zite10, eq_self, and_true, true_and, and_false, false_and, ↓reduceIte, Int32.reduceLT, Int32.reduceLE, Int32.reduceAdd, Int32.reduceSub, Int32.reduceMul]
  have k : zgo false (dB + K + 2) 221 0 [zr 13 0] [] B = zgo false (dB + K + 2) 221 4 [zr 13 0] [] B1 := by
    rw [B221_0]
    rw [e2]
    rfl
  show zRR (zgo false (dA + K + 2) 85 0 _ [] A) (zgo false (dB + K + 2) 221 0 _ [] B) _
  rw [c, k]
  rcases r with ⟨hv, p2, l2, acc2⟩ | bad
  · have hv : v = some (zi 1) := hv
    subst hv
    have q := yLoop1 sub dA dB p z m A B hzp n 0 p2 l2 A1 B1 zu zu (by omega) (by omega) acc2
    rw [zpu1]
    rw [B85_19, if_neg (by decide), if_neg (by decide), B85_35]
    exact q
  · obtain ⟨f1, g1, q, m', z', h, hv, ⟨c1, c2, c3, c4, c5, c6, c7⟩, d1, d2, d3, d4, d5⟩ := bad
    have hn := P.2.2.2.2.2.2.2.1
    have h120 := hn.1
    have bad : yBad n t A B p z m v A1 B1 := ⟨f1, g1, q, m', z', h, hv, ⟨c1, c2, c3, c4, c5, c6, c7⟩, d1, d2, d3, d4, d5⟩
    rcases hv with hv | ⟨hv, hq, hd⟩
    · have hv : v = some (zi 0) := hv
      subst hv
      refine ⟨(some (zi 0), A1), (none, B1), ?_, yEx1 _ _ q (by omega) d3, rfl, Or.inr bad⟩
      rw [zpu1, B85_19, if_pos rfl]
    · have hv : v = some (zi 1) := hv
      subst hv
      have hT3 := yTpA_fr hn f1
      have hcq := yC_eq (t := t) hq
      unfold yDg at hd
      refine ⟨(some (zi 1), A1), (none, B1), ?_, yEx1 _ _ q (by omega) d3, rfl, Or.inr bad⟩
      rw [zpu1, B85_19, if_neg (by decide), if_neg (by decide), B85_35]
      exact ySt1 (dA + K) op 0 q _ _ hT3 d1 c2 (yC_le hT3.2.1 q) (by omega)
theorem yJn3 (d c : Nat) (M : zM) (hc : c ≤ 256) (h43 : ¬ c = 43) (h45 : ¬ c = 45) : zgo false d 91 0 [zi (yS c), zi 3] [] M = some (some (zi 0), M) := by
  simp +decide only [B91_0, B91_43, B91_55, B91_74, B91_79, B91_92, B91_97, B91_116, B91_121, yS43 hc, h43, yS45 hc, h45, zbsome, zpu1, zpu0, cond_true, cond_false, zib0, zib1, zib_ite, zq00, zq20, zq22, zq90, zq99, zq40, zq44, zq100, zq1010, Bool.and_true, if_true, if_false, z1ne0, not_true_eq_false, not_false_eq_true, zite10, eq_self, and_true, true_and, and_false, false_and, ↓reduceIte, Int32.reduceLT, Int32.reduceLE, Int32.reduceAdd, Int32.reduceSub, Int32.reduceMul]
theorem ySt3 {n : Nat} {t : Nat → Nat} (d op i q : Nat) (u5 : zV) (A : zM) (hT : yTpA A n t) (hp : zgI A 8 0 3 = nI q) (hq : q ≤ n) (hc : yC n t q ≤ 256) (h43 : ¬ yC n t q = 43) (h45 : ¬ yC n t q = 45) : zgo false (d + 2) 85 39 [zr 8 0, zi 3, zi (nI op), zi 120, zi (nI i), u5] [] A = some (some (zi 1), A) := by
  rw [B85_39]
  by_cases hi : (120 : Int32) ≤ nI i
  · rw [if_pos hi]
  · rw [if_neg hi, S89y d hT hp hq]
    simp +decide only [B85_49, B85_57, yJn3 _ _ _ hc h43 h45, zbsome, zpu1, zpu0, cond_true, cond_false, zib0, zib1, zib_ite, zq00, zq20, zq22, zq90, zq99, zq40, zq44, zq100, zq1010, Bool.and_true, if_true, if_false, z1ne0, not_true_eq_false, not_false_eq_true, zite10, eq_self, and_true, true_and, and_false, false_and, ↓reduceIte, Int32.reduceLT, Int32.reduceLE, Int32.reduceAdd, Int32.reduceSub, Int32.reduceMul]
theorem yEx3 (d : Nat) (u1 : zV) (B : zM) (q : Nat) (hq : q ≤ 120) (h : zgI B 13 0 21 = nI q) : zgo false (d + 1) 219 4 [zr 13 0, u1] [] B = some (none, B) := by
  simp +decide only [B219_0, B219_4, B219_15, B219_24, B219_29, B219_33, B219_48, B219_54, B219_57, h, yPos0 (show q < 2 ^ 31 by omega), zbsome, zpu1, zpu0, cond_true, cond_false, zib0, zib1, zib_ite, zq00, zq20, zq22, zq90, zq99, zq40, zq44, zq100, zq1010, Bool.and_true, if_true, if_false, z1ne0, not_true_eq_false, not_false_eq_true, zite10, eq_self, and_true, true_and, and_false, false_and, ↓reduceIte, Int32.reduceLT, Int32.reduceLE, Int32.reduceAdd, Int32.reduceSub, Int32.reduceMul]
theorem yLoop3 {n : Nat} {t : Nat → Nat} {op K : Nat} (sub : yGood (K + 1) 85 [zr 8 0, zi 4, zi (nI op), zu, zu, zu] 218 [zr 13 0, zu] n t op) (dA dB p0 z m : Nat) (A0 B0 : zM) (hzp : z ≤ p0 ∧ m ≤ p0) : ∀ (f i p : Nat) (l : List yOp) (A B : zM) (u5 u1 : zV), n - p ≤ f → i ≤ p → yAcc n t A0 B0 A B p0 z m op p l → zRR (zgo false (dA + K + 2) 85 39 [zr 8 0, zi 3, zi (nI op), zi 120, zi (nI i), u5] [] A) (zgo false (dB + K + 2) 219 4 [zr 13 0, u1] [] B) (fun v A' w B' => w = none ∧ yRes n t p0 z m op A0 B0 v A' B') := by
  intro f
  induction f with
  | zero =>
    intro i p l A B u5 u1 hf hi acc
    have P := acc.2.2.2.1
    obtain ⟨⟨a1, a2, a3⟩, b1, b2, b3, b4, b5, b6, hT, hU⟩ := P
    have hc : yC n t p ≤ 256 := yC_le hT.2.1 p
    have c0 : yC n t p = 256 := if_neg (by omega)
    have hL := fun d => S211y d hT hU b3 a1

    have h43 : ¬ yC n t p = 43 := by omega
    have h45 : ¬ yC n t p = 45 := by omega
    refine ⟨(some (zi 1), A), (none, B), ySt3 (dA + K) op i p u5 A hT b1 a1 hc h43 h45, ?_, rfl, Or.inl ⟨rfl, p, l, acc⟩⟩
    simp +decide only [B219_0, B219_4, B219_15, B219_24, B219_29, B219_33, B219_48, B219_54, B219_57, b4, yNot0, hL, yL43 hc, h43, yL45 hc, h45, zbsome, zpu1, zpu0, cond_true, cond_false, zib0, zib1, zib_ite, zq00, zq20, zq22, zq90, zq99, zq40, zq44, zq100, zq1010, Bool.and_true, if_true, if_false, z1ne0, not_true_eq_false, not_false_eq_true, zite10, eq_self, and_true, true_and, and_false, false_and, ↓reduceIte, Int32.reduceLT, Int32.reduceLE, Int32.reduceAdd, Int32.reduceSub, Int32.reduceMul]
  | succ f ih =>
    intro i p l A B u5 u1 hf hi acc
    have P := acc.2.2.2.1
    obtain ⟨⟨a1, a2, a3⟩, b1, b2, b3, b4, b5, b6, hT, hU⟩ := P
    have hc : yC n t p ≤ 256 := yC_le hT.2.1 p
    have hL := fun d => S211y d hT hU b3 a1
    have hn := hT.1
    -- a sign s that joins
    have join : ∀ s, ySgn s → yC n t p = s → (∀ d M, zgo false d 91 0 [zi (nI s), zi 3] [] M = some (some (zi 1), M)) → (∀ B2 B3, zgo false (dB + K + 1) 218 0 [zr 13 0, zu] [] (zsI B 13 0 20 (nI (p + 1))) = some (none, B2) → zgo false (dB + K + 1) 213 0 [zr 13 0, zi (nI s), zi 0] [] B2 = some (none, B3) → zgo false (dB + K + 2) 219 4 [zr 13 0, u1] [] B = zgo false (dB + K + 2) 219 4 [zr 13 0, zi (nI s)] [] B3) → zRR (zgo false (dA + K + 2) 85 39 [zr 8 0, zi 3, zi (nI op), zi 120, zi (nI i), u5] [] A) (zgo false (dB + K + 2) 219 4 [zr 13 0, u1] [] B) (fun v A' w B' => w = none ∧ yRes n t p0 z m op A0 B0 v A' B') := by
      intro s hs hcs hj hm
      have hsl := ySgn_lt hs
      have hpn : p < n := yC_lt (t := t) (by omega)
      have i120 : ¬ (120 : Int32) ≤ nI i := nI_ge (b := 120) (by omega) (by omega)
      have hS : ∀ d, zgo false (d + 1) 89 0 [zr 8 0] [] A = some (some (zi (nI s)), A) := fun d => by
        rw [S89y d hT b1 a1, hcs]
        unfold yS
        rw [if_pos (by omega)]
      obtain ⟨⟨v, A2⟩, ⟨w, B2⟩, e1, e2, hw, r⟩ := sub dA dB (p + 1) (z + l.length) (m + l.length) _ _ (yPa_next acc.2.2.2.1 hpn)
      have hw : w = none := hw
      subst hw
      have e1 : zgo false (dA + K + 1) 85 0 [zr 8 0, zi 4, zi (nI op), zu, zu, zu] [] (zsI A 8 0 3 (nI (p + 1))) = some (v, A2) := e1
      have e2 : zgo false (dB + K + 1) 218 0 [zr 13 0, zu] [] (zsI B 13 0 20 (nI (p + 1))) = some (none, B2) := e2
      have hM := fun B3 => hm B2 B3 e2
      rcases r with ⟨hv, p2, l2, acc2⟩ | bad
      · have hv : v = some (zi 1) := hv
        subst hv
        have acc3 := yAcc_bin hzp acc acc2 hs
        have P2 := acc2.2.2.2.1
        have hp2 : p + 1 < p2 := acc2.2.2.1
        have z2 : z + l.length + l2.length < 128 := by
          have := P2.1
          omega
        have m2 : m + l.length + l2.length < 130 := by
          have := P2.1
          omega
        obtain ⟨a, b, q1, q2, q3⟩ := ih (i + 1) p2 _ _ _ (zi (nI s)) (zi (nI s)) (by omega) (by omega) acc3
        refine ⟨a, b, ?_, ?_, q3⟩
        · rw [B85_39, if_neg i120]
          simp +decide only [B85_49, B85_57, B85_80, B85_95, hS, hj, b1, nI_1, e1, S92y _ _ P2.2.2.1 z2, zbsome, zpu1, zpu0, cond_true, cond_false, zib0, zib1, zib_ite, zq00, zq20, zq22, zq90, zq99, zq40, zq44, zq100, zq1010, Bool.and_true, if_true, if_false, z1ne0, not_true_eq_false, not_false_eq_true, zite10, eq_self, and_true, true_and, and_false, false_and, ↓reduceIte, Int32.reduceLT, Int32.reduceLE, Int32.reduceAdd, Int32.reduceSub, Int32.reduceMul]
          exact q1
        · rw [hM _ (S213y _ _ _ P2.2.2.2.2.2.2.1 m2)]
          exact q2
      · obtain ⟨m', z', q, r1, r2, r3, r4, r5, r6, r7, hv⟩ := yBad_bin (op := op) hn hzp acc bad
        have x6 : ∀ a w, zgI (yEmB B2 m' a w) 13 0 21 = nI q := fun a w => by rw [yEmB_I (by omega) (by omega)]; exact r6
        rcases hv with ⟨hv, hb⟩ | ⟨hv, hq, hd, hb⟩
        · have hv : v = some (zi 0) := hv
          subst hv
          refine ⟨(some (zi 0), A2), (none, yEmB B2 m' (nI s) 0), ?_, ?_, rfl, Or.inr (hb _ _)⟩
          · rw [B85_39, if_neg i120]
            simp +decide only [B85_49, B85_57, B85_80, hS, hj, b1, nI_1, e1, zbsome, zpu1, zpu0, cond_true, cond_false, zib0, zib1, zib_ite, zq00, zq20, zq22, zq90, zq99, zq40, zq44, zq100, zq1010, Bool.and_true, if_true, if_false, z1ne0, not_true_eq_false, not_false_eq_true, zite10, eq_self, and_true, true_and, and_false, false_and, ↓reduceIte, Int32.reduceLT, Int32.reduceLE, Int32.reduceAdd, Int32.reduceSub, Int32.reduceMul]
          · rw [hM _ (S213y _ _ _ r1 r2)]
            exact yEx3 (dB + K + 1) _ _ q (by omega) (x6 _ _)
        · have hv : v = some (zi 1) := hv
          subst hv
          have hT3 : yTpA (yEmA A2 z' (-1000 - nI s)) n t := yTpA_fr (yTpA_fr (yTpA_n hT) bad.1) (yEmA_fo (z0 := 0) (by omega))
          have hp3 : zgI (yEmA A2 z' (-1000 - nI s)) 8 0 3 = nI q := by rw [yEmA_I (by omega) (by omega)]; exact r5
          have hcq := yC_eq (t := t) hq
          unfold yDg at hd
          refine ⟨(some (zi 1), yEmA A2 z' (-1000 - nI s)), (none, yEmB B2 m' (nI s) 0), ?_, ?_, rfl, Or.inr (hb _ _ _)⟩
          · rw [B85_39, if_neg i120]
            simp +decide only [B85_49, B85_57, B85_80, B85_95, hS, hj, b1, nI_1, e1, S92y _ _ r3 r4, zbsome, zpu1, zpu0, cond_true, cond_false, zib0, zib1, zib_ite, zq00, zq20, zq22, zq90, zq99, zq40, zq44, zq100, zq1010, Bool.and_true, if_true, if_false, z1ne0, not_true_eq_false, not_false_eq_true, zite10, eq_self, and_true, true_and, and_false, false_and, ↓reduceIte, Int32.reduceLT, Int32.reduceLE, Int32.reduceAdd, Int32.reduceSub, Int32.reduceMul]
            exact ySt3 (dA + K) op (i + 1) q _ _ hT3 hp3 r7 (yC_le hT3.2.1 q) (by omega) (by omega)
          · rw [hM _ (S213y _ _ _ r1 r2)]
            exact yEx3 (dB + K + 1) _ _ q (by omega) (x6 _ _)
    by_cases h43 : yC n t p = 43
    · refine join 43 (by unfold ySgn; omega) h43 (fun d M => ?_) (fun B2 B3 e2 e3 => ?_)
      · show zgo false d 91 0 [zi 43, zi 3] [] M = _
        simp +decide only [B91_0, B91_43, B91_55, B91_74, B91_79, B91_92, B91_97, B91_116, B91_121, zbsome, zpu1, zpu0, cond_true, cond_false, zib0, zib1, zib_ite, zq00, zq20, zq22, zq90, zq99, zq40, zq44, zq100, zq1010, Bool.and_true, if_true, if_false, z1ne0, not_true_eq_false, not_false_eq_true, zite10, eq_self, and_true, true_and, and_false, false_and, ↓reduceIte, Int32.reduceLT, Int32.reduceLE, Int32.reduceAdd, Int32.reduceSub, Int32.reduceMul]
      · have hL' : ∀ d, zgo false d 211 0 [zr 13 0] [] B = some (some (zi 43), B) := fun d => by
          rw [hL d, h43]
          rfl
        have e3' : zgo false (dB + K + 1) 213 0 [zr 13 0, zi 43, zi 0] [] B2 = some (none, B3) := e3
        rw [B219_4, b4, if_neg yNot0]
        simp +decide only [B219_15, B219_24, B219_29, B219_33, B219_48, B219_54, B219_57, hL', b3, nI_1, e2, e3', zbsome, zpu1, zpu0, cond_true, cond_false, zib0, zib1, zib_ite, zq00, zq20, zq22, zq90, zq99, zq40, zq44, zq100, zq1010, Bool.and_true, if_true, if_false, z1ne0, not_true_eq_false, not_false_eq_true, zite10, eq_self, and_true, true_and, and_false, false_and, ↓reduceIte, Int32.reduceLT, Int32.reduceLE, Int32.reduceAdd, Int32.reduceSub, Int32.reduceMul]
        first | done | rfl
    by_cases h45 : yC n t p = 45
    · refine join 45 (by unfold ySgn; omega) h45 (fun d M => ?_) (fun B2 B3 e2 e3 => ?_)
      · show zgo false d 91 0 [zi 45, zi 3] [] M = _
        simp +decide only [B91_0, B91_43, B91_55, B91_74, B91_79, B91_92, B91_97, B91_116, B91_121, zbsome, zpu1, zpu0, cond_true, cond_false, zib0, zib1, zib_ite, zq00, zq20, zq22, zq90, zq99, zq40, zq44, zq100, zq1010, Bool.and_true, if_true, if_false, z1ne0, not_true_eq_false, not_false_eq_true, zite10, eq_self, and_true, true_and, and_false, false_and, ↓reduceIte, Int32.reduceLT, Int32.reduceLE, Int32.reduceAdd, Int32.reduceSub, Int32.reduceMul]
      · have hL' : ∀ d, zgo false d 211 0 [zr 13 0] [] B = some (some (zi 45), B) := fun d => by
          rw [hL d, h45]
          rfl
        have e3' : zgo false (dB + K + 1) 213 0 [zr 13 0, zi 45, zi 0] [] B2 = some (none, B3) := e3
        rw [B219_4, b4, if_neg yNot0]
        simp +decide only [B219_15, B219_24, B219_29, B219_33, B219_48, B219_54, B219_57, hL', b3, nI_1, e2, e3', zbsome, zpu1, zpu0, cond_true, cond_false, zib0, zib1, zib_ite, zq00, zq20, zq22, zq90, zq99, zq40, zq44, zq100, zq1010, Bool.and_true, if_true, if_false, z1ne0, not_true_eq_false, not_false_eq_true, zite10, eq_self, and_true, true_and, and_false, false_and, ↓reduceIte, Int32.reduceLT, Int32.reduceLE, Int32.reduceAdd, Int32.reduceSub, Int32.reduceMul]
        first | done | rfl
    refine ⟨(some (zi 1), A), (none, B), ySt3 (dA + K) op i p u5 A hT b1 a1 hc h43 h45, ?_, rfl, Or.inl ⟨rfl, p, l, acc⟩⟩
    simp +decide only [B219_0, B219_4, B219_15, B219_24, B219_29, B219_33, B219_48, B219_54, B219_57, b4, yNot0, hL, yL43 hc, h43, yL45 hc, h45, zbsome, zpu1, zpu0, cond_true, cond_false, zib0, zib1, zib_ite, zq00, zq20, zq22, zq90, zq99, zq40, zq44, zq100, zq1010, Bool.and_true, if_true, if_false, z1ne0, not_true_eq_false, not_false_eq_true, zite10, eq_self, and_true, true_and, and_false, false_and, ↓reduceIte, Int32.reduceLT, Int32.reduceLE, Int32.reduceAdd, Int32.reduceSub, Int32.reduceMul]
theorem yLv3 {n : Nat} {t : Nat → Nat} {op K : Nat} (sub : yGood (K + 1) 85 [zr 8 0, zi 4, zi (nI op), zu, zu, zu] 218 [zr 13 0, zu] n t op) : yGood (K + 2) 85 [zr 8 0, zi 3, zi (nI op), zu, zu, zu] 219 [zr 13 0, zu] n t op := by
  intro dA dB p z m A B P
  have hzp : z ≤ p ∧ m ≤ p := ⟨P.1.2.1, P.1.2.2⟩
  obtain ⟨⟨v, A1⟩, ⟨w, B1⟩, e1, e2, hw, r⟩ := sub dA dB p z m A B P
  have hw : w = none := hw
  subst hw
  have e1 : zgo false (dA + K + 1) 85 0 [zr 8 0, zi 4, zi (nI op), zu, zu, zu] [] A = some (v, A1) := e1
  have e2 : zgo false (dB + K + 1) 218 0 [zr 13 0, zu] [] B = some (none, B1) := e2
  have c : zgo false (dA + K + 2) 85 0 [zr 8 0, zi 3, zi (nI op), zu, zu, zu] [] A = zgo false (dA + K + 2) 85 19 [zr 8 0, zi 3, zi (nI op), zu, zu, zu] (zpush v []) A1 := by
    rw [B85_0, if_pos (by decide)]
    simp +decide only [e1, zbsome, zpu1, zpu0, cond_true, cond_false, zib0, zib1, zib_ite, zq00, zq20, zq22, zq90, zq99, zq40, zq44, zq100, zq1010, Bool.and_true, if_true, if_false, z1ne0, not_true_eq_false, not_false_eq_true, zite10, eq_self, and_true, true_and, and_false, false_and, ↓reduceIte, Int32.reduceLT, Int32.reduceLE, Int32.reduceAdd, Int32.reduceSub, Int32.reduceMul]
  have k : zgo false (dB + K + 2) 219 0 [zr 13 0, zu] [] B = zgo false (dB + K + 2) 219 4 [zr 13 0, zu] [] B1 := by
    rw [B219_0]
    rw [e2]
    rfl
  show zRR (zgo false (dA + K + 2) 85 0 _ [] A) (zgo false (dB + K + 2) 219 0 _ [] B) _
  rw [c, k]
  rcases r with ⟨hv, p2, l2, acc2⟩ | bad
  · have hv : v = some (zi 1) := hv
    subst hv
    have q := yLoop3 sub dA dB p z m A B hzp n 0 p2 l2 A1 B1 zu zu (by omega) (by omega) acc2
    rw [zpu1]
    rw [B85_19, if_neg (by decide), if_neg (by decide), B85_35]
    exact q
  · obtain ⟨f1, g1, q, m', z', h, hv, ⟨c1, c2, c3, c4, c5, c6, c7⟩, d1, d2, d3, d4, d5⟩ := bad
    have hn := P.2.2.2.2.2.2.2.1
    have h120 := hn.1
    have bad : yBad n t A B p z m v A1 B1 := ⟨f1, g1, q, m', z', h, hv, ⟨c1, c2, c3, c4, c5, c6, c7⟩, d1, d2, d3, d4, d5⟩
    rcases hv with hv | ⟨hv, hq, hd⟩
    · have hv : v = some (zi 0) := hv
      subst hv
      refine ⟨(some (zi 0), A1), (none, B1), ?_, yEx3 _ _ _ q (by omega) d3, rfl, Or.inr bad⟩
      rw [zpu1, B85_19, if_pos rfl]
    · have hv : v = some (zi 1) := hv
      subst hv
      have hT3 := yTpA_fr hn f1
      have hcq := yC_eq (t := t) hq
      unfold yDg at hd
      refine ⟨(some (zi 1), A1), (none, B1), ?_, yEx3 _ _ _ q (by omega) d3, rfl, Or.inr bad⟩
      rw [zpu1, B85_19, if_neg (by decide), if_neg (by decide), B85_35]
      exact ySt3 (dA + K) op 0 q _ _ hT3 d1 c2 (yC_le hT3.2.1 q) (by omega) (by omega)
theorem yJn4 (d c : Nat) (M : zM) (hc : c ≤ 256) (h42 : ¬ c = 42) (h47 : ¬ c = 47) (h37 : ¬ c = 37) : zgo false d 91 0 [zi (yS c), zi 4] [] M = some (some (zi 0), M) := by
  simp +decide only [B91_0, B91_43, B91_55, B91_74, B91_79, B91_92, B91_97, B91_116, B91_121, yS42 hc, h42, yS47 hc, h47, yS37 hc, h37, zbsome, zpu1, zpu0, cond_true, cond_false, zib0, zib1, zib_ite, zq00, zq20, zq22, zq90, zq99, zq40, zq44, zq100, zq1010, Bool.and_true, if_true, if_false, z1ne0, not_true_eq_false, not_false_eq_true, zite10, eq_self, and_true, true_and, and_false, false_and, ↓reduceIte, Int32.reduceLT, Int32.reduceLE, Int32.reduceAdd, Int32.reduceSub, Int32.reduceMul]
theorem ySt4 {n : Nat} {t : Nat → Nat} (d op i q : Nat) (u5 : zV) (A : zM) (hT : yTpA A n t) (hp : zgI A 8 0 3 = nI q) (hq : q ≤ n) (hc : yC n t q ≤ 256) (h42 : ¬ yC n t q = 42) (h47 : ¬ yC n t q = 47) (h37 : ¬ yC n t q = 37) : zgo false (d + 2) 85 39 [zr 8 0, zi 4, zi (nI op), zi 120, zi (nI i), u5] [] A = some (some (zi 1), A) := by
  rw [B85_39]
  by_cases hi : (120 : Int32) ≤ nI i
  · rw [if_pos hi]
  · rw [if_neg hi, S89y d hT hp hq]
    simp +decide only [B85_49, B85_57, yJn4 _ _ _ hc h42 h47 h37, zbsome, zpu1, zpu0, cond_true, cond_false, zib0, zib1, zib_ite, zq00, zq20, zq22, zq90, zq99, zq40, zq44, zq100, zq1010, Bool.and_true, if_true, if_false, z1ne0, not_true_eq_false, not_false_eq_true, zite10, eq_self, and_true, true_and, and_false, false_and, ↓reduceIte, Int32.reduceLT, Int32.reduceLE, Int32.reduceAdd, Int32.reduceSub, Int32.reduceMul]
theorem yEx4 (d : Nat) (u1 : zV) (B : zM) (q : Nat) (hq : q ≤ 120) (h : zgI B 13 0 21 = nI q) : zgo false (d + 1) 218 4 [zr 13 0, u1] [] B = some (none, B) := by
  simp +decide only [B218_0, B218_4, B218_15, B218_24, B218_33, B218_38, B218_42, B218_57, B218_63, B218_66, h, yPos0 (show q < 2 ^ 31 by omega), zbsome, zpu1, zpu0, cond_true, cond_false, zib0, zib1, zib_ite, zq00, zq20, zq22, zq90, zq99, zq40, zq44, zq100, zq1010, Bool.and_true, if_true, if_false, z1ne0, not_true_eq_false, not_false_eq_true, zite10, eq_self, and_true, true_and, and_false, false_and, ↓reduceIte, Int32.reduceLT, Int32.reduceLE, Int32.reduceAdd, Int32.reduceSub, Int32.reduceMul]
theorem yLoop4 {n : Nat} {t : Nat → Nat} {op K : Nat} (sub : yGood (K + 1) 85 [zr 8 0, zi 5, zi (nI op), zu, zu, zu] 217 [zr 13 0, zu] n t op) (dA dB p0 z m : Nat) (A0 B0 : zM) (hzp : z ≤ p0 ∧ m ≤ p0) : ∀ (f i p : Nat) (l : List yOp) (A B : zM) (u5 u1 : zV), n - p ≤ f → i ≤ p → yAcc n t A0 B0 A B p0 z m op p l → zRR (zgo false (dA + K + 2) 85 39 [zr 8 0, zi 4, zi (nI op), zi 120, zi (nI i), u5] [] A) (zgo false (dB + K + 2) 218 4 [zr 13 0, u1] [] B) (fun v A' w B' => w = none ∧ yRes n t p0 z m op A0 B0 v A' B') := by
  intro f
  induction f with
  | zero =>
    intro i p l A B u5 u1 hf hi acc
    have P := acc.2.2.2.1
    obtain ⟨⟨a1, a2, a3⟩, b1, b2, b3, b4, b5, b6, hT, hU⟩ := P
    have hc : yC n t p ≤ 256 := yC_le hT.2.1 p
    have c0 : yC n t p = 256 := if_neg (by omega)
    have hL := fun d => S211y d hT hU b3 a1

    have h42 : ¬ yC n t p = 42 := by omega
    have h47 : ¬ yC n t p = 47 := by omega
    have h37 : ¬ yC n t p = 37 := by omega
    refine ⟨(some (zi 1), A), (none, B), ySt4 (dA + K) op i p u5 A hT b1 a1 hc h42 h47 h37, ?_, rfl, Or.inl ⟨rfl, p, l, acc⟩⟩
    simp +decide only [B218_0, B218_4, B218_15, B218_24, B218_33, B218_38, B218_42, B218_57, B218_63, B218_66, b4, yNot0, hL, yL42 hc, h42, yL47 hc, h47, yL37 hc, h37, zbsome, zpu1, zpu0, cond_true, cond_false, zib0, zib1, zib_ite, zq00, zq20, zq22, zq90, zq99, zq40, zq44, zq100, zq1010, Bool.and_true, if_true, if_false, z1ne0, not_true_eq_false, not_false_eq_true, zite10, eq_self, and_true, true_and, and_false, false_and, ↓reduceIte, Int32.reduceLT, Int32.reduceLE, Int32.reduceAdd, Int32.reduceSub, Int32.reduceMul]
  | succ f ih =>
    intro i p l A B u5 u1 hf hi acc
    have P := acc.2.2.2.1
    obtain ⟨⟨a1, a2, a3⟩, b1, b2, b3, b4, b5, b6, hT, hU⟩ := P
    have hc : yC n t p ≤ 256 := yC_le hT.2.1 p
    have hL := fun d => S211y d hT hU b3 a1
    have hn := hT.1
    -- a sign s that joins
    have join : ∀ s, ySgn s → yC n t p = s → (∀ d M, zgo false d 91 0 [zi (nI s), zi 4] [] M = some (some (zi 1), M)) → (∀ B2 B3, zgo false (dB + K + 1) 217 0 [zr 13 0, zu] [] (zsI B 13 0 20 (nI (p + 1))) = some (none, B2) → zgo false (dB + K + 1) 213 0 [zr 13 0, zi (nI s), zi 0] [] B2 = some (none, B3) → zgo false (dB + K + 2) 218 4 [zr 13 0, u1] [] B = zgo false (dB + K + 2) 218 4 [zr 13 0, zi (nI s)] [] B3) → zRR (zgo false (dA + K + 2) 85 39 [zr 8 0, zi 4, zi (nI op), zi 120, zi (nI i), u5] [] A) (zgo false (dB + K + 2) 218 4 [zr 13 0, u1] [] B) (fun v A' w B' => w = none ∧ yRes n t p0 z m op A0 B0 v A' B') := by
      intro s hs hcs hj hm
      have hsl := ySgn_lt hs
      have hpn : p < n := yC_lt (t := t) (by omega)
      have i120 : ¬ (120 : Int32) ≤ nI i := nI_ge (b := 120) (by omega) (by omega)
      have hS : ∀ d, zgo false (d + 1) 89 0 [zr 8 0] [] A = some (some (zi (nI s)), A) := fun d => by
        rw [S89y d hT b1 a1, hcs]
        unfold yS
        rw [if_pos (by omega)]
      obtain ⟨⟨v, A2⟩, ⟨w, B2⟩, e1, e2, hw, r⟩ := sub dA dB (p + 1) (z + l.length) (m + l.length) _ _ (yPa_next acc.2.2.2.1 hpn)
      have hw : w = none := hw
      subst hw
      have e1 : zgo false (dA + K + 1) 85 0 [zr 8 0, zi 5, zi (nI op), zu, zu, zu] [] (zsI A 8 0 3 (nI (p + 1))) = some (v, A2) := e1
      have e2 : zgo false (dB + K + 1) 217 0 [zr 13 0, zu] [] (zsI B 13 0 20 (nI (p + 1))) = some (none, B2) := e2
      have hM := fun B3 => hm B2 B3 e2
      rcases r with ⟨hv, p2, l2, acc2⟩ | bad
      · have hv : v = some (zi 1) := hv
        subst hv
        have acc3 := yAcc_bin hzp acc acc2 hs
        have P2 := acc2.2.2.2.1
        have hp2 : p + 1 < p2 := acc2.2.2.1
        have z2 : z + l.length + l2.length < 128 := by
          have := P2.1
          omega
        have m2 : m + l.length + l2.length < 130 := by
          have := P2.1
          omega
        obtain ⟨a, b, q1, q2, q3⟩ := ih (i + 1) p2 _ _ _ (zi (nI s)) (zi (nI s)) (by omega) (by omega) acc3
        refine ⟨a, b, ?_, ?_, q3⟩
        · rw [B85_39, if_neg i120]
          simp +decide only [B85_49, B85_57, B85_80, B85_95, hS, hj, b1, nI_1, e1, S92y _ _ P2.2.2.1 z2, zbsome, zpu1, zpu0, cond_true, cond_false, zib0, zib1, zib_ite, zq00, zq20, zq22, zq90, zq99, zq40, zq44, zq100, zq1010, Bool.and_true, if_true, if_false, z1ne0, not_true_eq_false, not_false_eq_true, zite10, eq_self, and_true, true_and, and_false, false_and, ↓reduceIte, Int32.reduceLT, Int32.reduceLE, Int32.reduceAdd, Int32.reduceSub, Int32.reduceMul]
          exact q1
        · rw [hM _ (S213y _ _ _ P2.2.2.2.2.2.2.1 m2)]
          exact q2
      · obtain ⟨m', z', q, r1, r2, r3, r4, r5, r6, r7, hv⟩ := yBad_bin (op := op) hn hzp acc bad
        have x6 : ∀ a w, zgI (yEmB B2 m' a w) 13 0 21 = nI q := fun a w => by rw [yEmB_I (by omega) (by omega)]; exact r6
        rcases hv with ⟨hv, hb⟩ | ⟨hv, hq, hd, hb⟩
        · have hv : v = some (zi 0) := hv
          subst hv
          refine ⟨(some (zi 0), A2), (none, yEmB B2 m' (nI s) 0), ?_, ?_, rfl, Or.inr (hb _ _)⟩
          · rw [B85_39, if_neg i120]
            simp +decide only [B85_49, B85_57, B85_80, hS, hj, b1, nI_1, e1, zbsome, zpu1, zpu0, cond_true, cond_false, zib0, zib1, zib_ite, zq00, zq20, zq22, zq90, zq99, zq40, zq44, zq100, zq1010, Bool.and_true, if_true, if_false, z1ne0, not_true_eq_false, not_false_eq_true, zite10, eq_self, and_true, true_and, and_false, false_and, ↓reduceIte, Int32.reduceLT, Int32.reduceLE, Int32.reduceAdd, Int32.reduceSub, Int32.reduceMul]
          · rw [hM _ (S213y _ _ _ r1 r2)]
            exact yEx4 (dB + K + 1) _ _ q (by omega) (x6 _ _)
        · have hv : v = some (zi 1) := hv
          subst hv
          have hT3 : yTpA (yEmA A2 z' (-1000 - nI s)) n t := yTpA_fr (yTpA_fr (yTpA_n hT) bad.1) (yEmA_fo (z0 := 0) (by omega))
          have hp3 : zgI (yEmA A2 z' (-1000 - nI s)) 8 0 3 = nI q := by rw [yEmA_I (by omega) (by omega)]; exact r5
          have hcq := yC_eq (t := t) hq
          unfold yDg at hd
          refine ⟨(some (zi 1), yEmA A2 z' (-1000 - nI s)), (none, yEmB B2 m' (nI s) 0), ?_, ?_, rfl, Or.inr (hb _ _ _)⟩
          · rw [B85_39, if_neg i120]
            simp +decide only [B85_49, B85_57, B85_80, B85_95, hS, hj, b1, nI_1, e1, S92y _ _ r3 r4, zbsome, zpu1, zpu0, cond_true, cond_false, zib0, zib1, zib_ite, zq00, zq20, zq22, zq90, zq99, zq40, zq44, zq100, zq1010, Bool.and_true, if_true, if_false, z1ne0, not_true_eq_false, not_false_eq_true, zite10, eq_self, and_true, true_and, and_false, false_and, ↓reduceIte, Int32.reduceLT, Int32.reduceLE, Int32.reduceAdd, Int32.reduceSub, Int32.reduceMul]
            exact ySt4 (dA + K) op (i + 1) q _ _ hT3 hp3 r7 (yC_le hT3.2.1 q) (by omega) (by omega) (by omega)
          · rw [hM _ (S213y _ _ _ r1 r2)]
            exact yEx4 (dB + K + 1) _ _ q (by omega) (x6 _ _)
    by_cases h42 : yC n t p = 42
    · refine join 42 (by unfold ySgn; omega) h42 (fun d M => ?_) (fun B2 B3 e2 e3 => ?_)
      · show zgo false d 91 0 [zi 42, zi 4] [] M = _
        simp +decide only [B91_0, B91_43, B91_55, B91_74, B91_79, B91_92, B91_97, B91_116, B91_121, zbsome, zpu1, zpu0, cond_true, cond_false, zib0, zib1, zib_ite, zq00, zq20, zq22, zq90, zq99, zq40, zq44, zq100, zq1010, Bool.and_true, if_true, if_false, z1ne0, not_true_eq_false, not_false_eq_true, zite10, eq_self, and_true, true_and, and_false, false_and, ↓reduceIte, Int32.reduceLT, Int32.reduceLE, Int32.reduceAdd, Int32.reduceSub, Int32.reduceMul]
      · have hL' : ∀ d, zgo false d 211 0 [zr 13 0] [] B = some (some (zi 42), B) := fun d => by
          rw [hL d, h42]
          rfl
        have e3' : zgo false (dB + K + 1) 213 0 [zr 13 0, zi 42, zi 0] [] B2 = some (none, B3) := e3
        rw [B218_4, b4, if_neg yNot0]
        simp +decide only [B218_15, B218_24, B218_33, B218_38, B218_42, B218_57, B218_63, B218_66, hL', b3, nI_1, e2, e3', zbsome, zpu1, zpu0, cond_true, cond_false, zib0, zib1, zib_ite, zq00, zq20, zq22, zq90, zq99, zq40, zq44, zq100, zq1010, Bool.and_true, if_true, if_false, z1ne0, not_true_eq_false, not_false_eq_true, zite10, eq_self, and_true, true_and, and_false, false_and, ↓reduceIte, Int32.reduceLT, Int32.reduceLE, Int32.reduceAdd, Int32.reduceSub, Int32.reduceMul]
        first | done | rfl
    by_cases h47 : yC n t p = 47
    · refine join 47 (by unfold ySgn; omega) h47 (fun d M => ?_) (fun B2 B3 e2 e3 => ?_)
      · show zgo false d 91 0 [zi 47, zi 4] [] M = _
        simp +decide only [B91_0, B91_43, B91_55, B91_74, B91_79, B91_92, B91_97, B91_116, B91_121, zbsome, zpu1, zpu0, cond_true, cond_false, zib0, zib1, zib_ite, zq00, zq20, zq22, zq90, zq99, zq40, zq44, zq100, zq1010, Bool.and_true, if_true, if_false, z1ne0, not_true_eq_false, not_false_eq_true, zite10, eq_self, and_true, true_and, and_false, false_and, ↓reduceIte, Int32.reduceLT, Int32.reduceLE, Int32.reduceAdd, Int32.reduceSub, Int32.reduceMul]
      · have hL' : ∀ d, zgo false d 211 0 [zr 13 0] [] B = some (some (zi 47), B) := fun d => by
          rw [hL d, h47]
          rfl
        have e3' : zgo false (dB + K + 1) 213 0 [zr 13 0, zi 47, zi 0] [] B2 = some (none, B3) := e3
        rw [B218_4, b4, if_neg yNot0]
        simp +decide only [B218_15, B218_24, B218_33, B218_38, B218_42, B218_57, B218_63, B218_66, hL', b3, nI_1, e2, e3', zbsome, zpu1, zpu0, cond_true, cond_false, zib0, zib1, zib_ite, zq00, zq20, zq22, zq90, zq99, zq40, zq44, zq100, zq1010, Bool.and_true, if_true, if_false, z1ne0, not_true_eq_false, not_false_eq_true, zite10, eq_self, and_true, true_and, and_false, false_and, ↓reduceIte, Int32.reduceLT, Int32.reduceLE, Int32.reduceAdd, Int32.reduceSub, Int32.reduceMul]
        first | done | rfl
    by_cases h37 : yC n t p = 37
    · refine join 37 (by unfold ySgn; omega) h37 (fun d M => ?_) (fun B2 B3 e2 e3 => ?_)
      · show zgo false d 91 0 [zi 37, zi 4] [] M = _
        simp +decide only [B91_0, B91_43, B91_55, B91_74, B91_79, B91_92, B91_97, B91_116, B91_121, zbsome, zpu1, zpu0, cond_true, cond_false, zib0, zib1, zib_ite, zq00, zq20, zq22, zq90, zq99, zq40, zq44, zq100, zq1010, Bool.and_true, if_true, if_false, z1ne0, not_true_eq_false, not_false_eq_true, zite10, eq_self, and_true, true_and, and_false, false_and, ↓reduceIte, Int32.reduceLT, Int32.reduceLE, Int32.reduceAdd, Int32.reduceSub, Int32.reduceMul]
      · have hL' : ∀ d, zgo false d 211 0 [zr 13 0] [] B = some (some (zi 37), B) := fun d => by
          rw [hL d, h37]
          rfl
        have e3' : zgo false (dB + K + 1) 213 0 [zr 13 0, zi 37, zi 0] [] B2 = some (none, B3) := e3
        rw [B218_4, b4, if_neg yNot0]
        simp +decide only [B218_15, B218_24, B218_33, B218_38, B218_42, B218_57, B218_63, B218_66, hL', b3, nI_1, e2, e3', zbsome, zpu1, zpu0, cond_true, cond_false, zib0, zib1, zib_ite, zq00, zq20, zq22, zq90, zq99, zq40, zq44, zq100, zq1010, Bool.and_true, if_true, if_false, z1ne0, not_true_eq_false, not_false_eq_true, zite10, eq_self, and_true, true_and, and_false, false_and, ↓reduceIte, Int32.reduceLT, Int32.reduceLE, Int32.reduceAdd, Int32.reduceSub, Int32.reduceMul]
        first | done | rfl
    refine ⟨(some (zi 1), A), (none, B), ySt4 (dA + K) op i p u5 A hT b1 a1 hc h42 h47 h37, ?_, rfl, Or.inl ⟨rfl, p, l, acc⟩⟩
    simp +decide only [B218_0, B218_4, B218_15, B218_24, B218_33, B218_38, B218_42, B218_57, B218_63, B218_66, b4, yNot0, hL, yL42 hc, h42, yL47 hc, h47, yL37 hc, h37, zbsome, zpu1, zpu0, cond_true, cond_false, zib0, zib1, zib_ite, zq00, zq20, zq22, zq90, zq99, zq40, zq44, zq100, zq1010, Bool.and_true, if_true, if_false, z1ne0, not_true_eq_false, not_false_eq_true, zite10, eq_self, and_true, true_and, and_false, false_and, ↓reduceIte, Int32.reduceLT, Int32.reduceLE, Int32.reduceAdd, Int32.reduceSub, Int32.reduceMul]
theorem yLv4 {n : Nat} {t : Nat → Nat} {op K : Nat} (sub : yGood (K + 1) 85 [zr 8 0, zi 5, zi (nI op), zu, zu, zu] 217 [zr 13 0, zu] n t op) : yGood (K + 2) 85 [zr 8 0, zi 4, zi (nI op), zu, zu, zu] 218 [zr 13 0, zu] n t op := by
  intro dA dB p z m A B P
  have hzp : z ≤ p ∧ m ≤ p := ⟨P.1.2.1, P.1.2.2⟩
  obtain ⟨⟨v, A1⟩, ⟨w, B1⟩, e1, e2, hw, r⟩ := sub dA dB p z m A B P
  have hw : w = none := hw
  subst hw
  have e1 : zgo false (dA + K + 1) 85 0 [zr 8 0, zi 5, zi (nI op), zu, zu, zu] [] A = some (v, A1) := e1
  have e2 : zgo false (dB + K + 1) 217 0 [zr 13 0, zu] [] B = some (none, B1) := e2
  have c : zgo false (dA + K + 2) 85 0 [zr 8 0, zi 4, zi (nI op), zu, zu, zu] [] A = zgo false (dA + K + 2) 85 19 [zr 8 0, zi 4, zi (nI op), zu, zu, zu] (zpush v []) A1 := by
    rw [B85_0, if_pos (by decide)]
    simp +decide only [e1, zbsome, zpu1, zpu0, cond_true, cond_false, zib0, zib1, zib_ite, zq00, zq20, zq22, zq90, zq99, zq40, zq44, zq100, zq1010, Bool.and_true, if_true, if_false, z1ne0, not_true_eq_false, not_false_eq_true, zite10, eq_self, and_true, true_and, and_false, false_and, ↓reduceIte, Int32.reduceLT, Int32.reduceLE, Int32.reduceAdd, Int32.reduceSub, Int32.reduceMul]
  have k : zgo false (dB + K + 2) 218 0 [zr 13 0, zu] [] B = zgo false (dB + K + 2) 218 4 [zr 13 0, zu] [] B1 := by
    rw [B218_0]
    rw [e2]
    rfl
  show zRR (zgo false (dA + K + 2) 85 0 _ [] A) (zgo false (dB + K + 2) 218 0 _ [] B) _
  rw [c, k]
  rcases r with ⟨hv, p2, l2, acc2⟩ | bad
  · have hv : v = some (zi 1) := hv
    subst hv
    have q := yLoop4 sub dA dB p z m A B hzp n 0 p2 l2 A1 B1 zu zu (by omega) (by omega) acc2
    rw [zpu1]
    rw [B85_19, if_neg (by decide), if_neg (by decide), B85_35]
    exact q
  · obtain ⟨f1, g1, q, m', z', h, hv, ⟨c1, c2, c3, c4, c5, c6, c7⟩, d1, d2, d3, d4, d5⟩ := bad
    have hn := P.2.2.2.2.2.2.2.1
    have h120 := hn.1
    have bad : yBad n t A B p z m v A1 B1 := ⟨f1, g1, q, m', z', h, hv, ⟨c1, c2, c3, c4, c5, c6, c7⟩, d1, d2, d3, d4, d5⟩
    rcases hv with hv | ⟨hv, hq, hd⟩
    · have hv : v = some (zi 0) := hv
      subst hv
      refine ⟨(some (zi 0), A1), (none, B1), ?_, yEx4 _ _ _ q (by omega) d3, rfl, Or.inr bad⟩
      rw [zpu1, B85_19, if_pos rfl]
    · have hv : v = some (zi 1) := hv
      subst hv
      have hT3 := yTpA_fr hn f1
      have hcq := yC_eq (t := t) hq
      unfold yDg at hd
      refine ⟨(some (zi 1), A1), (none, B1), ?_, yEx4 _ _ _ q (by omega) d3, rfl, Or.inr bad⟩
      rw [zpu1, B85_19, if_neg (by decide), if_neg (by decide), B85_35]
      exact ySt4 (dA + K) op 0 q _ _ hT3 d1 c2 (yC_le hT3.2.1 q) (by omega) (by omega) (by omega)
