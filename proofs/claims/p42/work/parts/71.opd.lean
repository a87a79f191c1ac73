/-! ===== reading a text: what compares, numbers ===== -/
theorem yLv2 {n : Nat} {t : Nat → Nat} {op K : Nat} (sub : yGood (K + 1) 85 [zr 8 0, zi 3, zi (nI op), zu, zu, zu] 219 [zr 13 0, zu] n t op) : yGood (K + 2) 85 [zr 8 0, zi 2, zi (nI op), zu, zu, zu] 220 [zr 13 0, zu] n t op := by
  intro dA dB p z m A B P
  have hzp : z ≤ p ∧ m ≤ p := ⟨P.1.2.1, P.1.2.2⟩
  obtain ⟨⟨v, A1⟩, ⟨w, B1⟩, e1, e2, hw, r⟩ := sub dA dB p z m A B P
  have hw : w = none := hw
  subst hw
  have e1 : zgo false (dA + K + 1) 85 0 [zr 8 0, zi 3, zi (nI op), zu, zu, zu] [] A = some (v, A1) := e1
  have e2 : zgo false (dB + K + 1) 219 0 [zr 13 0, zu] [] B = some (none, B1) := e2
  show zRR (zgo false (dA + K + 2) 85 0 _ [] A) (zgo false (dB + K + 2) 220 0 _ [] B) _
  have c : zgo false (dA + K + 2) 85 0 [zr 8 0, zi 2, zi (nI op), zu, zu, zu] [] A = zgo false (dA + K + 2) 85 19 [zr 8 0, zi 2, zi (nI op), zu, zu, zu] (zpush v []) A1 := by
    rw [B85_0, if_pos (by decide)]
    simp +decide only [e1, zbsome, zpu1, zpu0, cond_true, cond_false, zib0, zib1, zib_ite, zq00, zq20, zq22, zq90, zq99, zq40, zq44, zq100, zq1010, Bool.and_true, if_true, if_false, z1ne0, not_true_eq_false, not_false_eq_true, zite10, eq_self, and_true, true_and, and_false, false_and, ↓reduceIte, Int32.reduceLT, Int32.reduceLE, Int32.reduceAdd, Int32.reduceSub, Int32.reduceMul]
  have k : zgo false (dB + K + 2) 220 0 [zr 13 0, zu] [] B = zgo false (dB + K + 2) 220 4 [zr 13 0, zu] [] B1 := by
    rw [B220_0, e2]
    rfl
  rw [c, k]
  have hT0 := P.2.2.2.2.2.2.2.1
  have hU0 := P.2.2.2.2.2.2.2.2
  have hn := hT0.1
  have no1 : ¬ (1 : Int32) ≤ 0 := by decide
  rcases r with ⟨hv, p1, l1, acc⟩ | bad
  · have hv : v = some (zi 1) := hv
    subst hv
    have P1 := acc.2.2.2.1
    obtain ⟨⟨a1, a2, a3⟩, b1, b2, b3, b4, b5, b6, hT, hU⟩ := P1
    have hc : yC n t p1 ≤ 256 := yC_le hT.2.1 p1
    have hL := fun d => S211y d hT hU b3 a1
    have hS := fun d => S89y d hT b1 a1
    have join : ∀ s, ySgn s → yC n t p1 = s → (∀ d M, zgo false d 91 0 [zi (nI s), zi 2] [] M = some (some (zi 1), M)) → (zgo false (dB + K + 2) 220 4 [zr 13 0, zu] [] B1 = zgo false (dB + K + 2) 220 35 [zr 13 0, zi (nI s)] [] B1) → zRR (zgo false (dA + K + 2) 85 19 [zr 8 0, zi 2, zi (nI op), zu, zu, zu] (zpush (some (zi 1)) []) A1) (zgo false (dB + K + 2) 220 4 [zr 13 0, zu] [] B1) (fun v A' w B' => w = none ∧ yRes n t p z m op A B v A' B') := by
      intro s hs hcs hj hm
      have hsl := ySgn_lt hs
      have hpn : p1 < n := yC_lt (t := t) (by omega)
      have hS' : ∀ d, zgo false (d + 1) 89 0 [zr 8 0] [] A1 = some (some (zi (nI s)), A1) := fun d => by
        rw [hS d, hcs]
        unfold yS
        rw [if_pos (by omega)]
      obtain ⟨⟨v, A2⟩, ⟨w, B2⟩, e3, e4, hw, r⟩ := sub dA dB (p1 + 1) (z + l1.length) (m + l1.length) _ _ (yPa_next acc.2.2.2.1 hpn)
      have hw : w = none := hw
      subst hw
      have e3 : zgo false (dA + K + 1) 85 0 [zr 8 0, zi 3, zi (nI op), zu, zu, zu] [] (zsI A1 8 0 3 (nI (p1 + 1))) = some (v, A2) := e3
      have e4 : zgo false (dB + K + 1) 219 0 [zr 13 0, zu] [] (zsI B1 13 0 20 (nI (p1 + 1))) = some (none, B2) := e4
      rw [hm]
      rcases r with ⟨hv, p2, l2, acc2⟩ | bad
      · have hv : v = some (zi 1) := hv
        subst hv
        have acc3 := yAcc_bin hzp acc acc2 hs
        have P2 := acc2.2.2.2.1
        have z2 : z + l1.length + l2.length < 128 := by
          have := P2.1
          omega
        have m2 : m + l1.length + l2.length < 130 := by
          have := P2.1
          omega
        refine ⟨(some (zi 1), yEmA A2 (z + l1.length + l2.length) (-1000 - nI s)), (none, yEmB B2 (m + l1.length + l2.length) (nI s) 0), ?_, ?_, rfl, Or.inl ⟨rfl, p2, _, acc3⟩⟩
        · simp +decide only [B85_19, B85_35, B85_39, B85_49, B85_57, B85_80, B85_95, hS', hj, b1, nI_1, e3, S92y _ _ P2.2.2.1 z2, zbsome, zpu1, zpu0, cond_true, cond_false, zib0, zib1, zib_ite, zq00, zq20, zq22, zq90, zq99, zq40, zq44, zq100, zq1010, Bool.and_true, if_true, if_false, z1ne0, not_true_eq_false, not_false_eq_true, zite10, eq_self, and_true, true_and, and_false, false_and, ↓reduceIte, Int32.reduceLT, Int32.reduceLE, Int32.reduceAdd, Int32.reduceSub, Int32.reduceMul]
        · simp +decide only [B220_35, B220_49, B220_55, b3, nI_1, e4, S213y _ _ _ P2.2.2.2.2.2.2.1 m2, zbsome, zpu1, zpu0, cond_true, cond_false, zib0, zib1, zib_ite, zq00, zq20, zq22, zq90, zq99, zq40, zq44, zq100, zq1010, Bool.and_true, if_true, if_false, z1ne0, not_true_eq_false, not_false_eq_true, zite10, eq_self, and_true, true_and, and_false, false_and, ↓reduceIte, Int32.reduceLT, Int32.reduceLE, Int32.reduceAdd, Int32.reduceSub, Int32.reduceMul]
      · obtain ⟨m', z', q, r1, r2, r3, r4, r5, r6, r7, hv⟩ := yBad_bin (op := op) hn hzp acc bad
        rcases hv with ⟨hv, hb⟩ | ⟨hv, hq, hd, hb⟩
        · have hv : v = some (zi 0) := hv
          subst hv
          refine ⟨(some (zi 0), A2), (none, yEmB B2 m' (nI s) 0), ?_, ?_, rfl, Or.inr (hb _ _)⟩
          · simp +decide only [B85_19, B85_35, B85_39, B85_49, B85_57, B85_80, B85_95, hS', hj, b1, nI_1, e3, zbsome, zpu1, zpu0, cond_true, cond_false, zib0, zib1, zib_ite, zq00, zq20, zq22, zq90, zq99, zq40, zq44, zq100, zq1010, Bool.and_true, if_true, if_false, z1ne0, not_true_eq_false, not_false_eq_true, zite10, eq_self, and_true, true_and, and_false, false_and, ↓reduceIte, Int32.reduceLT, Int32.reduceLE, Int32.reduceAdd, Int32.reduceSub, Int32.reduceMul]
          · simp +decide only [B220_35, B220_49, B220_55, b3, nI_1, e4, S213y _ _ _ r1 r2, zbsome, zpu1, zpu0, cond_true, cond_false, zib0, zib1, zib_ite, zq00, zq20, zq22, zq90, zq99, zq40, zq44, zq100, zq1010, Bool.and_true, if_true, if_false, z1ne0, not_true_eq_false, not_false_eq_true, zite10, eq_self, and_true, true_and, and_false, false_and, ↓reduceIte, Int32.reduceLT, Int32.reduceLE, Int32.reduceAdd, Int32.reduceSub, Int32.reduceMul]
        · have hv : v = some (zi 1) := hv
          subst hv
          refine ⟨(some (zi 1), yEmA A2 z' (-1000 - nI s)), (none, yEmB B2 m' (nI s) 0), ?_, ?_, rfl, Or.inr (hb _ _ _)⟩
          · simp +decide only [B85_19, B85_35, B85_39, B85_49, B85_57, B85_80, B85_95, hS', hj, b1, nI_1, e3, S92y _ _ r3 r4, zbsome, zpu1, zpu0, cond_true, cond_false, zib0, zib1, zib_ite, zq00, zq20, zq22, zq90, zq99, zq40, zq44, zq100, zq1010, Bool.and_true, if_true, if_false, z1ne0, not_true_eq_false, not_false_eq_true, zite10, eq_self, and_true, true_and, and_false, false_and, ↓reduceIte, Int32.reduceLT, Int32.reduceLE, Int32.reduceAdd, Int32.reduceSub, Int32.reduceMul]
          · simp +decide only [B220_35, B220_49, B220_55, b3, nI_1, e4, S213y _ _ _ r1 r2, zbsome, zpu1, zpu0, cond_true, cond_false, zib0, zib1, zib_ite, zq00, zq20, zq22, zq90, zq99, zq40, zq44, zq100, zq1010, Bool.and_true, if_true, if_false, z1ne0, not_true_eq_false, not_false_eq_true, zite10, eq_self, and_true, true_and, and_false, false_and, ↓reduceIte, Int32.reduceLT, Int32.reduceLE, Int32.reduceAdd, Int32.reduceSub, Int32.reduceMul]
    have j1 : ∀ s, s = 60 ∨ s = 61 ∨ s = 62 → yC n t p1 = s → zRR (zgo false (dA + K + 2) 85 19 [zr 8 0, zi 2, zi (nI op), zu, zu, zu] (zpush (some (zi 1)) []) A1) (zgo false (dB + K + 2) 220 4 [zr 13 0, zu] [] B1) (fun v A' w B' => w = none ∧ yRes n t p z m op A B v A' B') := by
      intro s hs hcs
      refine join s (by unfold ySgn; omega) hcs (fun d M => ?_) ?_
      · rcases hs with rfl | rfl | rfl
        · show zgo false d 91 0 [zi 60, zi 2] [] M = _
          simp +decide only [B91_0, B91_43, B91_55, B91_74, B91_79, B91_92, B91_97, B91_116, B91_121, zbsome, zpu1, zpu0, cond_true, cond_false, zib0, zib1, zib_ite, zq00, zq20, zq22, zq90, zq99, zq40, zq44, zq100, zq1010, Bool.and_true, if_true, if_false, z1ne0, not_true_eq_false, not_false_eq_true, zite10, eq_self, and_true, true_and, and_false, false_and, ↓reduceIte, Int32.reduceLT, Int32.reduceLE, Int32.reduceAdd, Int32.reduceSub, Int32.reduceMul]
        · show zgo false d 91 0 [zi 61, zi 2] [] M = _
          simp +decide only [B91_0, B91_43, B91_55, B91_74, B91_79, B91_92, B91_97, B91_116, B91_121, zbsome, zpu1, zpu0, cond_true, cond_false, zib0, zib1, zib_ite, zq00, zq20, zq22, zq90, zq99, zq40, zq44, zq100, zq1010, Bool.and_true, if_true, if_false, z1ne0, not_true_eq_false, not_false_eq_true, zite10, eq_self, and_true, true_and, and_false, false_and, ↓reduceIte, Int32.reduceLT, Int32.reduceLE, Int32.reduceAdd, Int32.reduceSub, Int32.reduceMul]
        · show zgo false d 91 0 [zi 62, zi 2] [] M = _
          simp +decide only [B91_0, B91_43, B91_55, B91_74, B91_79, B91_92, B91_97, B91_116, B91_121, zbsome, zpu1, zpu0, cond_true, cond_false, zib0, zib1, zib_ite, zq00, zq20, zq22, zq90, zq99, zq40, zq44, zq100, zq1010, Bool.and_true, if_true, if_false, z1ne0, not_true_eq_false, not_false_eq_true, zite10, eq_self, and_true, true_and, and_false, false_and, ↓reduceIte, Int32.reduceLT, Int32.reduceLE, Int32.reduceAdd, Int32.reduceSub, Int32.reduceMul]
      · have hL' : ∀ d, zgo false d 211 0 [zr 13 0] [] B1 = some (some (zi (nI s)), B1) := fun d => by
          rw [hL d, hcs]
          unfold yL
          rw [if_pos (by omega), yByt (by omega)]
        rcases hs with rfl | rfl | rfl
        · simp +decide only [B220_4, B220_8, hL', b4, yNot0, zbsome, zpu1, zpu0, cond_true, cond_false, zib0, zib1, zib_ite, zq00, zq20, zq22, zq90, zq99, zq40, zq44, zq100, zq1010, Bool.and_true, if_true, if_false, z1ne0, not_true_eq_false, not_false_eq_true, zite10, eq_self, and_true, true_and, and_false, false_and, ↓reduceIte, Int32.reduceLT, Int32.reduceLE, Int32.reduceAdd, Int32.reduceSub, Int32.reduceMul]
        · simp +decide only [B220_4, B220_8, hL', b4, yNot0, zbsome, zpu1, zpu0, cond_true, cond_false, zib0, zib1, zib_ite, zq00, zq20, zq22, zq90, zq99, zq40, zq44, zq100, zq1010, Bool.and_true, if_true, if_false, z1ne0, not_true_eq_false, not_false_eq_true, zite10, eq_self, and_true, true_and, and_false, false_and, ↓reduceIte, Int32.reduceLT, Int32.reduceLE, Int32.reduceAdd, Int32.reduceSub, Int32.reduceMul]
        · simp +decide only [B220_4, B220_8, hL', b4, yNot0, zbsome, zpu1, zpu0, cond_true, cond_false, zib0, zib1, zib_ite, zq00, zq20, zq22, zq90, zq99, zq40, zq44, zq100, zq1010, Bool.and_true, if_true, if_false, z1ne0, not_true_eq_false, not_false_eq_true, zite10, eq_self, and_true, true_and, and_false, false_and, ↓reduceIte, Int32.reduceLT, Int32.reduceLE, Int32.reduceAdd, Int32.reduceSub, Int32.reduceMul]
    by_cases h60 : yC n t p1 = 60
    · exact j1 60 (by omega) h60
    by_cases h61 : yC n t p1 = 61
    · exact j1 61 (by omega) h61
    by_cases h62 : yC n t p1 = 62
    · exact j1 62 (by omega) h62
    refine ⟨(some (zi 1), A1), (none, B1), ?_, ?_, rfl, Or.inl ⟨rfl, p1, l1, acc⟩⟩
    · simp +decide only [B85_19, B85_35, B85_39, B85_49, B85_57, hS, B91_0, B91_43, B91_55, B91_74, B91_79, B91_92, B91_97, B91_116, B91_121, yS60 hc, yS61 hc, yS62 hc, h60, h61, h62, zbsome, zpu1, zpu0, cond_true, cond_false, zib0, zib1, zib_ite, zq00, zq20, zq22, zq90, zq99, zq40, zq44, zq100, zq1010, Bool.and_true, if_true, if_false, z1ne0, not_true_eq_false, not_false_eq_true, zite10, eq_self, and_true, true_and, and_false, false_and, ↓reduceIte, Int32.reduceLT, Int32.reduceLE, Int32.reduceAdd, Int32.reduceSub, Int32.reduceMul]
    · simp +decide only [B220_4, B220_8, B220_34, hL, b4, yNot0, yL60 hc, yL61 hc, yL62 hc, h60, h61, h62, zbsome, zpu1, zpu0, cond_true, cond_false, zib0, zib1, zib_ite, zq00, zq20, zq22, zq90, zq99, zq40, zq44, zq100, zq1010, Bool.and_true, if_true, if_false, z1ne0, not_true_eq_false, not_false_eq_true, zite10, eq_self, and_true, true_and, and_false, false_and, ↓reduceIte, Int32.reduceLT, Int32.reduceLE, Int32.reduceAdd, Int32.reduceSub, Int32.reduceMul]
  · obtain ⟨f1, g1, q, m', z', h, hv, ⟨c1, c2, c3, c4, c5, c6, c7⟩, d1, d2, d3, d4, d5⟩ := bad
    have bad : yBad n t A B p z m v A1 B1 := ⟨f1, g1, q, m', z', h, hv, ⟨c1, c2, c3, c4, c5, c6, c7⟩, d1, d2, d3, d4, d5⟩
    have d3 : zgI B1 13 0 21 = nI q := d3
    have d4 : zgI B1 13 0 20 = nI h := d4
    have d1 : zgI A1 8 0 3 = nI q := d1
    have hT3 := yTpA_fr hT0 f1
    have hU3 := yTpB_fr hU0 g1
    have km : zgo false (dB + K + 2) 220 4 [zr 13 0, zu] [] B1 = some (none, B1) := by
      have hL := fun d => S211y d hT3 hU3 d4 c5
      simp +decide only [B220_4, B220_8, B220_34, hL, d3, yPos0 (show q < 2 ^ 31 by omega), zbsome, zpu1, zpu0, cond_true, cond_false, zib0, zib1, zib_ite, zq00, zq20, zq22, zq90, zq99, zq40, zq44, zq100, zq1010, Bool.and_true, if_true, if_false, z1ne0, not_true_eq_false, not_false_eq_true, zite10, eq_self, and_true, true_and, and_false, false_and, ↓reduceIte, Int32.reduceLT, Int32.reduceLE, Int32.reduceAdd, Int32.reduceSub, Int32.reduceMul]
    rcases hv with hv | ⟨hv, hq, hd⟩
    · have hv : v = some (zi 0) := hv
      subst hv
      refine ⟨(some (zi 0), A1), (none, B1), ?_, km, rfl, Or.inr bad⟩
      rw [zpu1, B85_19, if_pos rfl]
    · have hv : v = some (zi 1) := hv
      subst hv
      have hcq := yC_eq (t := t) hq
      unfold yDg at hd
      have hc : yC n t q ≤ 256 := yC_le hT3.2.1 q
      refine ⟨(some (zi 1), A1), (none, B1), ?_, km, rfl, Or.inr bad⟩
      simp +decide only [B85_19, B85_35, B85_39, B85_49, B85_57, S89y _ hT3 d1 c2, B91_0, B91_43, B91_55, B91_74, B91_79, B91_92, B91_97, B91_116, B91_121, yS60 hc, yS61 hc, yS62 hc, show ¬ yC n t q = 60 by omega, show ¬ yC n t q = 61 by omega, show ¬ yC n t q = 62 by omega, zbsome, zpu1, zpu0, cond_true, cond_false, zib0, zib1, zib_ite, zq00, zq20, zq22, zq90, zq99, zq40, zq44, zq100, zq1010, Bool.and_true, if_true, if_false, z1ne0, not_true_eq_false, not_false_eq_true, zite10, eq_self, and_true, true_and, and_false, false_and, ↓reduceIte, Int32.reduceLT, Int32.reduceLE, Int32.reduceAdd, Int32.reduceSub, Int32.reduceMul]
/-- digits, one by one -/
theorem yDig {n : Nat} {t : Nat → Nat} (dA dB p : Nat) : ∀ (j i x : Nat) (A B : zM), i + j = 4 → x < 10 ^ i → yTpA A n t → yTpB B n t → p + i ≤ n → zgI A 8 0 3 = nI (p + i) → zgI B 13 0 20 = nI (p + i) → ∃ (k y : Nat) (A' B' : zM), (i ≤ k ∧ k ≤ 4 ∧ p + k ≤ n ∧ y ≤ 9999 ∧ (k < 4 → ¬ yDg (yC n t (p + k))) ∧ (i < 4 → yDg (yC n t (p + i)) → i < k)) ∧ zgo false (dA + 2) 88 4 [zr 8 0, zi (nI x), zi (nI i)] [] A = zgo false (dA + 2) 88 48 [zr 8 0, zi (nI y), zi (nI k)] [] A' ∧ zgo false (dB + 2) 216 4 [zr 13 0, zi (nI x), zi (nI i)] [] B = zgo false (dB + 2) 216 52 [zr 13 0, zi (nI y), zi (nI k)] [] B' ∧ zFo (fun a b c => a = 8 ∧ b = 0 ∧ c = 3) A A' ∧ zFo (fun a b c => a = 13 ∧ b = 0 ∧ c = 20) B B' ∧ zgI A' 8 0 3 = nI (p + k) ∧ zgI B' 13 0 20 = nI (p + k)
  | 0, i, x, A, B, hi, hx, hT, hU, hp, h1, h2 => by
    have hi : i = 4 := by omega
    subst hi
    refine ⟨4, x, A, B, ⟨by omega, by omega, hp, by omega, by omega, by omega⟩, ?_, ?_, zFo_refl _ A, zFo_refl _ B, h1, h2⟩
    · rw [B88_4, if_pos (by decide)]
    · rw [B216_4, if_pos (by decide)]
  | j + 1, i, x, A, B, hi, hx, hT, hU, hp, h1, h2 => by
    have hc : yC n t (p + i) ≤ 256 := yC_le hT.2.1 (p + i)
    have hL := fun d => S211y d hT hU h2 hp
    have hS := fun d => S89y d hT h1 hp
    have i4 : ¬ (4 : Int32) ≤ nI i := nI_ge (b := 4) (by omega) (by omega)
    have hpw : 10 ^ i ≤ 1000 := by
      rcases (by omega : i = 0 ∨ i = 1 ∨ i = 2 ∨ i = 3) with rfl | rfl | rfl | rfl <;> decide
    by_cases hd : yDg (yC n t (p + i))
    · obtain ⟨v1, v2⟩ := yLv hd
      have hd' := hd
      unfold yDg at hd'
      have hpn : p + i < n := yC_lt (t := t) (by omega)
      have e10 : 10 ^ (i + 1) = 10 ^ i * 10 := Nat.pow_succ 10 i
      obtain ⟨k, y, A', B', ⟨k1, k2, k3, k4, k5, k6⟩, e1, e2, f1, f2, g1, g2⟩ := yDig dA dB p j (i + 1) (x * 10 + (yC n t (p + i) - 48)) (zsI A 8 0 3 (nI (p + i + 1))) (zsI B 13 0 20 (nI (p + i + 1))) (by omega) (by omega) (yTpA_n hT) ⟨hU.1, hU.2⟩ (by omega) rfl rfl
      refine ⟨k, y, A', B', ⟨by omega, k2, k3, k4, k5, fun _ _ => by omega⟩, ?_, ?_, zFo_trans (zFo_sI (zFo_refl _ A) ⟨rfl, rfl, rfl⟩) f1, zFo_trans (zFo_sI (zFo_refl _ B) ⟨rfl, rfl, rfl⟩) f2, g1, g2⟩
      · have c1 : ¬ nI (yC n t (p + i)) < 48 := nI_nlt (b := 48) (by omega) (by omega)
        have c2 : ¬ (57 : Int32) < nI (yC n t (p + i)) := nI_nlt (a := 57) (by omega) (by omega)
        have e3 : nI x * 10 + nI (yC n t (p + i)) - 48 = nI (x * 10 + (yC n t (p + i) - 48)) := by
          rw [show (10 : Int32) = nI 10 from rfl, show (48 : Int32) = nI 48 from rfl, pk_mul, nI_add, pk_sub (by omega)]
          congr 1
          omega
        rw [B88_4, if_neg i4]
        simp +decide only [B88_13, B88_16, B88_27, B90_0, B90_16, B90_17, hS, v2, c1, c2, h1, e3, nI_1, zbsome, zpu1, zpu0, cond_true, cond_false, zib0, zib1, zib_ite, zq00, zq20, zq22, zq90, zq99, zq40, zq44, zq100, zq1010, Bool.and_true, if_true, if_false, z1ne0, not_true_eq_false, not_false_eq_true, zite10, eq_self, and_true, true_and, and_false, false_and, ↓reduceIte, Int32.reduceLT, Int32.reduceLE, Int32.reduceAdd, Int32.reduceSub, Int32.reduceMul]
        exact e1
      · have c3 : 48 ≤ nI (yC n t (p + i)) ∧ nI (yC n t (p + i)) ≤ 57 := ⟨nI_le (a := 48) (by omega) (by omega), nI_le (b := 57) (by omega) (by omega)⟩
        have e3 : 10 * nI x + nI (yC n t (p + i)) - 48 = nI (x * 10 + (yC n t (p + i) - 48)) := by
          rw [show (10 : Int32) = nI 10 from rfl, show (48 : Int32) = nI 48 from rfl, pk_mul, nI_add, pk_sub (by omega)]
          congr 1
          omega
        rw [B216_4, if_neg i4]
        simp +decide only [B216_13, B216_20, B216_31, S_in, hL, v1, c3, h2, e3, nI_1, zbsome, zpu1, zpu0, cond_true, cond_false, zib0, zib1, zib_ite, zq00, zq20, zq22, zq90, zq99, zq40, zq44, zq100, zq1010, Bool.and_true, if_true, if_false, z1ne0, not_true_eq_false, not_false_eq_true, zite10, eq_self, and_true, true_and, and_false, false_and, ↓reduceIte, Int32.reduceLT, Int32.reduceLE, Int32.reduceAdd, Int32.reduceSub, Int32.reduceMul]
        exact e2
    · refine ⟨i, x, A, B, ⟨by omega, by omega, hp, by omega, fun _ => hd, fun _ q => absurd q hd⟩, ?_, ?_, zFo_refl _ A, zFo_refl _ B, h1, h2⟩
      · have nd : ¬ (48 ≤ yS (yC n t (p + i)) ∧ yS (yC n t (p + i)) ≤ 57) := mt (ySd hc).mp hd
        by_cases c1 : yS (yC n t (p + i)) < 48
        · simp +decide only [B88_4, B88_13, B88_16, B90_0, B90_16, B90_17, i4, hS, c1, zbsome, zpu1, zpu0, cond_true, cond_false, zib0, zib1, zib_ite, zq00, zq20, zq22, zq90, zq99, zq40, zq44, zq100, zq1010, Bool.and_true, if_true, if_false, z1ne0, not_true_eq_false, not_false_eq_true, zite10, eq_self, and_true, true_and, and_false, false_and, ↓reduceIte, Int32.reduceLT, Int32.reduceLE, Int32.reduceAdd, Int32.reduceSub, Int32.reduceMul]
        · have c2 : 57 < yS (yC n t (p + i)) := z_nle_lt (fun q => nd ⟨z_nlt_le c1, q⟩)
          simp +decide only [B88_4, B88_13, B88_16, B90_0, B90_16, B90_17, i4, hS, c1, c2, zbsome, zpu1, zpu0, cond_true, cond_false, zib0, zib1, zib_ite, zq00, zq20, zq22, zq90, zq99, zq40, zq44, zq100, zq1010, Bool.and_true, if_true, if_false, z1ne0, not_true_eq_false, not_false_eq_true, zite10, eq_self, and_true, true_and, and_false, false_and, ↓reduceIte, Int32.reduceLT, Int32.reduceLE, Int32.reduceAdd, Int32.reduceSub, Int32.reduceMul]
      · have nd : ¬ (48 ≤ yL (yC n t (p + i)) ∧ yL (yC n t (p + i)) ≤ 57) := mt (yLd hc).mp hd
        simp +decide only [B216_4, B216_13, B216_20, S_in, i4, hL, nd, zbsome, zpu1, zpu0, cond_true, cond_false, zib0, zib1, zib_ite, zq00, zq20, zq22, zq90, zq99, zq40, zq44, zq100, zq1010, Bool.and_true, if_true, if_false, z1ne0, not_true_eq_false, not_false_eq_true, zite10, eq_self, and_true, true_and, and_false, false_and, ↓reduceIte, Int32.reduceLT, Int32.reduceLE, Int32.reduceAdd, Int32.reduceSub, Int32.reduceMul]
/-- a number, of both -/
theorem yNumb {n : Nat} {t : Nat → Nat} {op : Nat} (dA dB p z m : Nat) (A B : zM) (P : yPa n t A B p z m op) (hd : yDg (yC n t p)) (u1 u2 u3 u4 : zV) : zRR (zgo false (dA + 2) 88 0 [zr 8 0, u1, u2] [] A) (zgo false (dB + 2) 216 0 [zr 13 0, u3, u4] [] B) (fun v A' w B' => w = none ∧ yRes n t p z m op A B v A' B') := by
  have P0 := P
  obtain ⟨⟨a1, a2, a3⟩, b1, b2, b3, b4, b5, b6, hT, hU⟩ := P
  obtain ⟨k, y, A1, B1, ⟨k1, k2, k3, k4, k5, k6⟩, e1, e2, f1, f2, g1, g2⟩ := yDig dA dB p 4 0 0 A B (by omega) (by omega) hT hU a1 b1 b3
  have hk : 0 < k := k6 (by omega) hd
  have fA : zFo (yFa z) A A1 := zFo_mono f1 (fun a b c q => ⟨q.2.1, Or.inl ⟨q.1, Or.inl q.2.2⟩⟩)
  have fB : zFo (yFb m) B B1 := zFo_mono f2 (fun a b c q => ⟨q.2.1, Or.inl ⟨q.1, by omega, by omega⟩⟩)
  have hT1 := yTpA_fr hT fA
  have hU1 := yTpB_fr hU fB
  have n120 := hT.1
  have z1 : zgI A1 8 0 4 = nI z := ((f1 8 0 4 (by omega)).1).trans b2
  have x21 : zgI B1 13 0 21 = -1 := ((f2 13 0 21 (by omega)).1).trans b4
  have x22 : zgI B1 13 0 22 = nI op := ((f2 13 0 22 (by omega)).1).trans b5
  have x23 : zgI B1 13 0 23 = nI m := ((f2 13 0 23 (by omega)).1).trans b6
  have cl : zgo false (dA + 2) 88 0 [zr 8 0, u1, u2] [] A = some (some (zi 1), yEmA A1 z (nI y)) := by
    rw [B88_0]
    have e1' : zgo false (dA + 2) 88 4 [zr 8 0, zi 0, zi 0] [] A = _ := e1
    rw [e1']
    simp +decide only [B88_48, B88_53, S92y _ _ z1 (show z < 128 by omega), zbsome, zpu1, zpu0, cond_true, cond_false, zib0, zib1, zib_ite, zq00, zq20, zq22, zq90, zq99, zq40, zq44, zq100, zq1010, Bool.and_true, if_true, if_false, z1ne0, not_true_eq_false, not_false_eq_true, zite10, eq_self, and_true, true_and, and_false, false_and, ↓reduceIte, Int32.reduceLT, Int32.reduceLE, Int32.reduceAdd, Int32.reduceSub, Int32.reduceMul]
  have e2' : zgo false (dB + 2) 216 0 [zr 13 0, u3, u4] [] B = zgo false (dB + 2) 216 52 [zr 13 0, zi (nI y), zi (nI k)] [] B1 := by
    rw [B216_0]
    exact e2
  have hL := fun d => S211y d hT1 hU1 g2 k3
  have hc : yC n t (p + k) ≤ 256 := yC_le hT1.2.1 (p + k)
  have k0 : ¬ nI k = 0 := nI_ne0 hk (by omega)
  by_cases dd : yDg (yC n t (p + k))
  · -- a fifth digit
    have k4' : k = 4 := by
      rcases Nat.lt_or_ge k 4 with q | q
      · exact absurd dd (k5 q)
      · omega
    have hpn : p + k < n := yC_lt (t := t) (by unfold yDg at dd; omega)
    have i1 := (yLd hc).mpr dd
    refine ⟨(some (zi 1), yEmA A1 z (nI y)), (none, yEmB (zsI B1 13 0 21 (nI (p + k))) m 1 (nI y)), cl, ?_, rfl, Or.inr ⟨zFo_trans fA (yEmA_fo (by omega)), zFo_trans fB (zFo_trans (zFo_sI (zFo_refl _ B1) ⟨rfl, Or.inl ⟨rfl, by omega, by omega⟩⟩) (yEmB_fo (by omega))), p + k, m + 1, z + 1, p + k, Or.inr ⟨rfl, hpn, ?_⟩, ⟨by omega, k3, by omega, by omega, k3, by omega, by omega⟩, ?_, rfl, ?_, ?_, rfl⟩⟩
    · rw [e2']
      simp +decide only [B216_52, B216_60, B216_67, B216_70, B216_74, B216_80, k0, hL, S_in, i1, S212y _ x21 g2, S213y _ _ _ (show zgI (zsI B1 13 0 21 (nI (p + k))) 13 0 23 = nI m from x23) (show m < 130 by omega), zbsome, zpu1, zpu0, cond_true, cond_false, zib0, zib1, zib_ite, zq00, zq20, zq22, zq90, zq99, zq40, zq44, zq100, zq1010, Bool.and_true, if_true, if_false, z1ne0, not_true_eq_false, not_false_eq_true, zite10, eq_self, and_true, true_and, and_false, false_and, ↓reduceIte, Int32.reduceLT, Int32.reduceLE, Int32.reduceAdd, Int32.reduceSub, Int32.reduceMul]
    · rw [yC_eq hpn] at dd
      exact dd
    · show zgI (yEmA A1 z (nI y)) 8 0 3 = _
      rw [yEmA_I (by omega) (by omega)]
      exact g1
    · show zgI (yEmB _ m 1 (nI y)) 13 0 21 = _
      rw [yEmB_I (by omega) (by omega)]
      rfl
    · show zgI (yEmB _ m 1 (nI y)) 13 0 20 = _
      rw [yEmB_I (by omega) (by omega)]
      exact g2
  · have i1 := mt (yLd hc).mp dd
    have acc : yAcc n t A B (yEmA A1 (z + ([] : List yOp).length) (yCc (.inl y))) (yEmB B1 (m + ([] : List yOp).length) (yMa (.inl y)) (nI y)) p z m op (p + k) ([] ++ [.inl y]) := yAcc_op fA fB (by omega) ⟨⟨k3, by simp; omega, by simp; omega⟩, g1, z1, g2, x21, x22, x23, hT1, hU1⟩ (by simp; omega) ⟨a2, a3⟩ (yEx_num k4) trivial trivial (fun _ => rfl) rfl
    refine ⟨(some (zi 1), yEmA A1 z (nI y)), (none, yEmB B1 m 1 (nI y)), cl, ?_, rfl, Or.inl ⟨rfl, p + k, _, acc⟩⟩
    rw [e2']
    simp +decide only [B216_52, B216_60, B216_67, B216_74, B216_80, k0, hL, S_in, i1, S213y _ _ _ x23 (show m < 130 by omega), zbsome, zpu1, zpu0, cond_true, cond_false, zib0, zib1, zib_ite, zq00, zq20, zq22, zq90, zq99, zq40, zq44, zq100, zq1010, Bool.and_true, if_true, if_false, z1ne0, not_true_eq_false, not_false_eq_true, zite10, eq_self, and_true, true_and, and_false, false_and, ↓reduceIte, Int32.reduceLT, Int32.reduceLE, Int32.reduceAdd, Int32.reduceSub, Int32.reduceMul]
