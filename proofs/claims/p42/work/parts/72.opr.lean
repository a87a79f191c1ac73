/-! ===== reading a text: what stands alone ===== -/
theorem zsI_cm {M : zM} {k i s k' i' s' : Nat} {v w : Int32} (h : ¬ (k = k' ∧ i = i' ∧ s = s')) : zsI (zsI M k i s v) k' i' s' w = zsI (zsI M k' i' s' w) k i s v := by
  unfold zsI
  simp only [Prod.mk.injEq, and_true]
  funext a b c
  by_cases h1 : a = k' ∧ b = i' ∧ c = s'
  · have h2 : ¬ (a = k ∧ b = i ∧ c = s) := by omega
    simp only [if_pos h1, if_neg h2]
  · simp only [if_neg h1]
theorem yEmA_cm {A : zM} {z : Nat} {x w : Int32} : zsI (yEmA A z x) 8 0 3 w = yEmA (zsI A 8 0 3 w) z x := by
  unfold yEmA
  rw [zsI_cm (by omega), zsI_cm (k := 44) (by omega)]
theorem yEmB_cm {B : zM} {m : Nat} {a x w : Int32} {s : Nat} (h : ¬ s = 23) : zsI (yEmB B m a x) 13 0 s w = yEmB (zsI B 13 0 s w) m a x := by
  unfold yEmB
  rw [zsI_cm (by omega), zsI_cm (k := 64) (by omega), zsI_cm (k := 63) (by omega)]
theorem yGood_w {K j mc : Nat} {as : List zV} {mm : Nat} {bs : List zV} {n : Nat} {t : Nat → Nat} {op : Nat} (h : yGood K mc as mm bs n t op) : yGood (K + j) mc as mm bs n t op := by
  intro dA dB p z m A B P
  have := h (dA + j) (dB + j) p z m A B P
  rw [Nat.add_assoc, Nat.add_assoc, Nat.add_comm j K] at this
  exact this
theorem yNx_dg {c : Nat} (h : yDg c) : yNx c = -1 := by
  unfold yDg at h
  unfold yNx
  simp only [show ¬ c = 112 by omega, show ¬ c = 97 by omega, show ¬ c = 100 by omega, show ¬ c = 110 by omega, show ¬ c = 118 by omega, show ¬ c = 98 by omega, show ¬ c = 108 by omega, show ¬ c = 119 by omega, show ¬ c = 114 by omega, show ¬ c = 99 by omega, show ¬ c = 116 by omega, show ¬ c = 115 by omega, if_false]
theorem yNx_or (c : Nat) : yNx c = -1 ∨ (c < 120 ∧ 97 ≤ c ∧ ∃ k, k < 12 ∧ yNx c = nI k) := by
  unfold yNx
  by_cases h0 : c = 112
  · exact Or.inr ⟨by omega, by omega, 0, by omega, by rw [if_pos h0]; rfl⟩
  by_cases h1 : c = 97
  · exact Or.inr ⟨by omega, by omega, 1, by omega, by rw [if_neg h0, if_pos h1]; rfl⟩
  by_cases h2 : c = 100
  · exact Or.inr ⟨by omega, by omega, 2, by omega, by rw [if_neg h0, if_neg h1, if_pos h2]; rfl⟩
  by_cases h3 : c = 110
  · exact Or.inr ⟨by omega, by omega, 3, by omega, by rw [if_neg h0, if_neg h1, if_neg h2, if_pos h3]; rfl⟩
  by_cases h4 : c = 118
  · exact Or.inr ⟨by omega, by omega, 4, by omega, by rw [if_neg h0, if_neg h1, if_neg h2, if_neg h3, if_pos h4]; rfl⟩
  by_cases h5 : c = 98
  · exact Or.inr ⟨by omega, by omega, 5, by omega, by rw [if_neg h0, if_neg h1, if_neg h2, if_neg h3, if_neg h4, if_pos h5]; rfl⟩
  by_cases h6 : c = 108
  · exact Or.inr ⟨by omega, by omega, 6, by omega, by rw [if_neg h0, if_neg h1, if_neg h2, if_neg h3, if_neg h4, if_neg h5, if_pos h6]; rfl⟩
  by_cases h7 : c = 119
  · exact Or.inr ⟨by omega, by omega, 7, by omega, by rw [if_neg h0, if_neg h1, if_neg h2, if_neg h3, if_neg h4, if_neg h5, if_neg h6, if_pos h7]; rfl⟩
  by_cases h8 : c = 114
  · exact Or.inr ⟨by omega, by omega, 8, by omega, by rw [if_neg h0, if_neg h1, if_neg h2, if_neg h3, if_neg h4, if_neg h5, if_neg h6, if_neg h7, if_pos h8]; rfl⟩
  by_cases h9 : c = 99
  · exact Or.inr ⟨by omega, by omega, 9, by omega, by rw [if_neg h0, if_neg h1, if_neg h2, if_neg h3, if_neg h4, if_neg h5, if_neg h6, if_neg h7, if_neg h8, if_pos h9]; rfl⟩
  by_cases h10 : c = 116
  · exact Or.inr ⟨by omega, by omega, 10, by omega, by rw [if_neg h0, if_neg h1, if_neg h2, if_neg h3, if_neg h4, if_neg h5, if_neg h6, if_neg h7, if_neg h8, if_neg h9, if_pos h10]; rfl⟩
  by_cases h11 : c = 115
  · exact Or.inr ⟨by omega, by omega, 11, by omega, by rw [if_neg h0, if_neg h1, if_neg h2, if_neg h3, if_neg h4, if_neg h5, if_neg h6, if_neg h7, if_neg h8, if_neg h9, if_neg h10, if_pos h11]; rfl⟩
  · exact Or.inl (by simp only [h0, h1, h2, h3, h4, h5, h6, h7, h8, h9, h10, h11, if_false])
theorem yPd (c : Nat) (d : Nat) (M : zM) (hc : c ≤ 256) : (yDg c → zgo false d 90 0 [zi (yS c)] [] M = some (some (zi 1), M)) ∧ (¬ yDg c → zgo false d 90 0 [zi (yS c)] [] M = some (some (zi 0), M)) := by
  constructor
  · intro hd
    have q := (ySd hc).mpr hd
    have c1 := z_le_nlt q.1
    have c2 := z_le_nlt q.2
    simp +decide only [B90_0, B90_16, B90_17, c1, c2, zbsome, zpu1, zpu0, cond_true, cond_false, zib0, zib1, zib_ite, zq00, zq20, zq22, zq90, zq99, zq40, zq44, zq100, zq1010, Bool.and_true, if_true, if_false, z1ne0, not_true_eq_false, not_false_eq_true, zite10, eq_self, and_true, true_and, and_false, false_and, ↓reduceIte, Int32.reduceLT, Int32.reduceLE, Int32.reduceAdd, Int32.reduceSub, Int32.reduceMul]
  · intro hd
    have nd : ¬ (48 ≤ yS c ∧ yS c ≤ 57) := mt (ySd hc).mp hd
    by_cases c1 : yS c < 48
    · simp +decide only [B90_0, B90_16, B90_17, c1, zbsome, zpu1, zpu0, cond_true, cond_false, zib0, zib1, zib_ite, zq00, zq20, zq22, zq90, zq99, zq40, zq44, zq100, zq1010, Bool.and_true, if_true, if_false, z1ne0, not_true_eq_false, not_false_eq_true, zite10, eq_self, and_true, true_and, and_false, false_and, ↓reduceIte, Int32.reduceLT, Int32.reduceLE, Int32.reduceAdd, Int32.reduceSub, Int32.reduceMul]
    · have c2 : 57 < yS c := z_nle_lt (fun q => nd ⟨z_nlt_le c1, q⟩)
      simp +decide only [B90_0, B90_16, B90_17, c1, c2, zbsome, zpu1, zpu0, cond_true, cond_false, zib0, zib1, zib_ite, zq00, zq20, zq22, zq90, zq99, zq40, zq44, zq100, zq1010, Bool.and_true, if_true, if_false, z1ne0, not_true_eq_false, not_false_eq_true, zite10, eq_self, and_true, true_and, and_false, false_and, ↓reduceIte, Int32.reduceLT, Int32.reduceLE, Int32.reduceAdd, Int32.reduceSub, Int32.reduceMul]
theorem yBad_here {n : Nat} {t : Nat → Nat} {A B : zM} {p z m op : Nat} (P : yPa n t A B p z m op) : yBad n t A B p z m (some (zi 0)) A (zsI B 13 0 21 (nI p)) ∧ yBad n t A B p z m (some (zi 0)) A (yEmB (zsI B 13 0 21 (nI p)) m 1 0) := by
  obtain ⟨⟨a1, a2, a3⟩, b1, b2, b3, b4, b5, b6, hT, hU⟩ := P
  have f : zFo (yFb m) B (zsI B 13 0 21 (nI p)) := zFo_sI (zFo_refl _ B) ⟨rfl, Or.inl ⟨rfl, by omega, by omega⟩⟩
  refine ⟨⟨zFo_refl _ A, f, p, m, z, p, Or.inl rfl, ⟨by omega, a1, by omega, by omega, a1, by omega, by omega⟩, b1, b2, rfl, b3, b6⟩, ⟨zFo_refl _ A, zFo_trans f (yEmB_fo (by omega)), p, m + 1, z, p, Or.inl rfl, ⟨by omega, a1, by omega, by omega, a1, by omega, by omega⟩, b1, b2, ?_, ?_, rfl⟩⟩
  · rw [yEmB_I (by omega) (by omega)]; rfl
  · rw [yEmB_I (by omega) (by omega)]; exact b3
theorem yOpr {n : Nat} {t : Nat → Nat} {op K : Nat} (hop : op ≤ 6) (s1 : op < 6 → yGood (K + 4) 85 [zr 8 0, zi 0, zi (nI (op + 1)), zu, zu, zu] 222 [zr 13 0] n t (op + 1)) (s2 : op < 6 → yGood (K + 5) 86 [zr 8 0, zi (nI (op + 1)), zu] 217 [zr 13 0, zu] n t (op + 1)) : yGood (K + 6) 86 [zr 8 0, zi (nI op), zu] 217 [zr 13 0, zu] n t op := by
  intro dA dB p z m A B P
  have P0 := P
  obtain ⟨⟨a1, a2, a3⟩, b1, b2, b3, b4, b5, b6, hT, hU⟩ := P
  have hn := hT.1
  have hc : yC n t p ≤ 256 := yC_le hT.2.1 p
  have hL := fun d => S211y d hT hU b3 a1
  have hS := fun d => S89y d hT b1 a1
  show zRR (zgo false (dA + K + 6) 86 0 _ [] A) (zgo false (dB + K + 6) 217 0 _ [] B) _
  have c0 : zgo false (dA + K + 6) 86 0 [zr 8 0, zi (nI op), zu] [] A = (zgo false (dA + K + 5) 90 0 [zi (yS (yC n t p))] [] A).bind fun q => zgo false (dA + K + 6) 86 9 [zr 8 0, zi (nI op), zi (yS (yC n t p))] (zpush q.1 []) q.2 := by
    rw [B86_0, hS, zbsome, zpu1, B86_4]
  have k0 : zgo false (dB + K + 6) 217 0 [zr 13 0, zu] [] B = zgo false (dB + K + 6) 217 9 [zr 13 0, zi (yL (yC n t p))] [zi (yNx (yC n t p))] B := by
    rw [B217_0, hL, zbsome, zpu1, B217_4, S214 _ _ _ hc, zbsome, zpu1]
  rw [c0, k0]
  by_cases hd : yDg (yC n t p)
  · obtain ⟨⟨v, A1⟩, ⟨w, B1⟩, e1, e2, hw, r⟩ := yNumb (dA + K + 3) (dB + K + 3) p z m A B P0 hd zu zu zu zu
    have hw : w = none := hw
    subst hw
    have e1 : zgo false (dA + K + 5) 88 0 [zr 8 0, zu, zu] [] A = some (v, A1) := e1
    have e2 : zgo false (dB + K + 5) 216 0 [zr 13 0, zu, zu] [] B = some (none, B1) := e2
    have hd' := hd
    unfold yDg at hd'
    have km : zgo false (dB + K + 6) 217 9 [zr 13 0, zi (yL (yC n t p))] [zi (yNx (yC n t p))] B = some (none, B1) := by
      rw [yNx_dg hd]
      simp +decide only [B217_9, yL33 hc, yL45 hc, yL40 hc, show ¬ yC n t p = 33 by omega, show ¬ yC n t p = 45 by omega, show ¬ yC n t p = 40 by omega, e2, B217_154, zbsome, zpu1, zpu0, cond_true, cond_false, zib0, zib1, zib_ite, zq00, zq20, zq22, zq90, zq99, zq40, zq44, zq100, zq1010, Bool.and_true, if_true, if_false, z1ne0, not_true_eq_false, not_false_eq_true, zite10, eq_self, and_true, true_and, and_false, false_and, ↓reduceIte, Int32.reduceLT, Int32.reduceLE, Int32.reduceAdd, Int32.reduceSub, Int32.reduceMul]
    have kc : zgo false (dA + K + 6) 86 9 [zr 8 0, zi (nI op), zi (yS (yC n t p))] [zi 1] A = zgo false (dA + K + 6) 86 16 [zr 8 0, zi (nI op), zi (yS (yC n t p))] (zpush v []) A1 := by
      rw [B86_9, if_neg (by decide), e1]
      rfl
    rw [(yPd _ _ _ hc).1 hd, zbsome, zpu1, kc, km]
    refine ⟨(v, A1), (none, B1), ?_, rfl, rfl, r⟩
    rcases r with ⟨hv, -⟩ | ⟨-, -, q, m', z', h, hv | ⟨hv, -⟩, -⟩
    · have hv : v = some (zi 1) := hv
      subst hv
      simp +decide only [B86_16, zbsome, zpu1, zpu0, cond_true, cond_false, zib0, zib1, zib_ite, zq00, zq20, zq22, zq90, zq99, zq40, zq44, zq100, zq1010, Bool.and_true, if_true, if_false, z1ne0, not_true_eq_false, not_false_eq_true, zite10, eq_self, and_true, true_and, and_false, false_and, ↓reduceIte, Int32.reduceLT, Int32.reduceLE, Int32.reduceAdd, Int32.reduceSub, Int32.reduceMul]
    · have hv : v = some (zi 0) := hv
      subst hv
      simp +decide only [B86_16, zbsome, zpu1, zpu0, cond_true, cond_false, zib0, zib1, zib_ite, zq00, zq20, zq22, zq90, zq99, zq40, zq44, zq100, zq1010, Bool.and_true, if_true, if_false, z1ne0, not_true_eq_false, not_false_eq_true, zite10, eq_self, and_true, true_and, and_false, false_and, ↓reduceIte, Int32.reduceLT, Int32.reduceLE, Int32.reduceAdd, Int32.reduceSub, Int32.reduceMul]
    · have hv : v = some (zi 1) := hv
      subst hv
      simp +decide only [B86_16, zbsome, zpu1, zpu0, cond_true, cond_false, zib0, zib1, zib_ite, zq00, zq20, zq22, zq90, zq99, zq40, zq44, zq100, zq1010, Bool.and_true, if_true, if_false, z1ne0, not_true_eq_false, not_false_eq_true, zite10, eq_self, and_true, true_and, and_false, false_and, ↓reduceIte, Int32.reduceLT, Int32.reduceLE, Int32.reduceAdd, Int32.reduceSub, Int32.reduceMul]
  rw [(yPd _ _ _ hc).2 hd, zbsome, zpu1]
  rcases yNx_or (yC n t p) with hx | ⟨x1, x2, k, hk, hx⟩
  · -- no name
    have ca : zgo false (dA + K + 6) 86 9 [zr 8 0, zi (nI op), zi (yS (yC n t p))] [zi 0] A = zgo false (dA + K + 6) 86 56 [zr 8 0, zi (nI op), zi (yS (yC n t p))] [] A := by
      rw [B86_9, if_pos rfl]
      by_cases h0 : yS (yC n t p) < 0
      · rw [if_pos h0]
      · have hlt : yC n t p < 256 := by
          rcases Nat.lt_or_ge (yC n t p) 256 with q | q
          · exact q
          · exfalso
            apply h0
            unfold yS
            rw [if_neg (by omega)]
            decide
        rw [if_neg h0, yCh _ hlt, S316 _ _ _ hlt, zbsome, zpu1, hx, B86_28, if_pos (by decide)]
    rw [ca, hx]
    have n1 : (-1 : Int32) < 0 := by decide
    by_cases h6 : op = 6
    · -- too deep, or nothing that can stand here
      subst h6
      have ha : zgo false (dA + K + 6) 86 56 [zr 8 0, zi (nI 6), zi (yS (yC n t p))] [] A = some (some (zi 0), A) := by
        rw [B86_56, if_pos (by decide), B86_80]
      rw [ha]
      by_cases hs : yC n t p = 33 ∨ yC n t p = 45 ∨ yC n t p = 40
      · refine ⟨(some (zi 0), A), (none, zsI B 13 0 21 (nI p)), rfl, ?_, rfl, Or.inr (yBad_here P0).1⟩
        have e215 : zgo false (dB + K + 5) 215 0 [zr 13 0] [] B = some (some (zi 0), zsI B 13 0 21 (nI p)) := by
          rw [B215_0, b5, if_pos (show nI 6 = 6 from rfl), S212y _ b4 b3]
          simp +decide only [B215_13, zbsome, zpu1, zpu0, cond_true, cond_false, zib0, zib1, zib_ite, zq00, zq20, zq22, zq90, zq99, zq40, zq44, zq100, zq1010, Bool.and_true, if_true, if_false, z1ne0, not_true_eq_false, not_false_eq_true, zite10, eq_self, and_true, true_and, and_false, false_and, ↓reduceIte, Int32.reduceLT, Int32.reduceLE, Int32.reduceAdd, Int32.reduceSub, Int32.reduceMul]
        rcases hs with h | h | h
        · simp +decide only [B217_9, yL33 hc, yL45 hc, yL40 hc, h, n1, B217_46, e215, B217_50, zbsome, zpu1, zpu0, cond_true, cond_false, zib0, zib1, zib_ite, zq00, zq20, zq22, zq90, zq99, zq40, zq44, zq100, zq1010, Bool.and_true, if_true, if_false, z1ne0, not_true_eq_false, not_false_eq_true, zite10, eq_self, and_true, true_and, and_false, false_and, ↓reduceIte, Int32.reduceLT, Int32.reduceLE, Int32.reduceAdd, Int32.reduceSub, Int32.reduceMul]
        · simp +decide only [B217_9, yL33 hc, yL45 hc, yL40 hc, h, n1, B217_46, e215, B217_50, zbsome, zpu1, zpu0, cond_true, cond_false, zib0, zib1, zib_ite, zq00, zq20, zq22, zq90, zq99, zq40, zq44, zq100, zq1010, Bool.and_true, if_true, if_false, z1ne0, not_true_eq_false, not_false_eq_true, zite10, eq_self, and_true, true_and, and_false, false_and, ↓reduceIte, Int32.reduceLT, Int32.reduceLE, Int32.reduceAdd, Int32.reduceSub, Int32.reduceMul]
        · simp +decide only [B217_9, yL33 hc, yL45 hc, yL40 hc, h, n1, B217_97, e215, zbsome, zpu1, zpu0, cond_true, cond_false, zib0, zib1, zib_ite, zq00, zq20, zq22, zq90, zq99, zq40, zq44, zq100, zq1010, Bool.and_true, if_true, if_false, z1ne0, not_true_eq_false, not_false_eq_true, zite10, eq_self, and_true, true_and, and_false, false_and, ↓reduceIte, Int32.reduceLT, Int32.reduceLE, Int32.reduceAdd, Int32.reduceSub, Int32.reduceMul]
      · refine ⟨(some (zi 0), A), (none, yEmB (zsI B 13 0 21 (nI p)) m 1 0), rfl, ?_, rfl, Or.inr (yBad_here P0).2⟩
        have nd : ¬ (48 ≤ yL (yC n t p) ∧ yL (yC n t p) ≤ 57) := mt (yLd hc).mp hd
        simp +decide only [B217_9, yL33 hc, yL45 hc, yL40 hc, show ¬ yC n t p = 33 by omega, show ¬ yC n t p = 45 by omega, show ¬ yC n t p = 40 by omega, n1, B216_0, B216_4, B216_13, B216_20, B216_52, B216_70, B216_74, B216_80, S_in, hL, nd, S212y _ b4 b3, S213y _ _ _ (show zgI (zsI B 13 0 21 (nI p)) 13 0 23 = nI m from b6) (show m < 130 by omega), B217_154, zbsome, zpu1, zpu0, cond_true, cond_false, zib0, zib1, zib_ite, zq00, zq20, zq22, zq90, zq99, zq40, zq44, zq100, zq1010, Bool.and_true, if_true, if_false, z1ne0, not_true_eq_false, not_false_eq_true, zite10, eq_self, and_true, true_and, and_false, false_and, ↓reduceIte, Int32.reduceLT, Int32.reduceLE, Int32.reduceAdd, Int32.reduceSub, Int32.reduceMul]
    · have hlt : op < 6 := by omega
      have no6 : ¬ (6 : Int32) ≤ nI op := nI_ge (b := 6) (by omega) (by omega)
      have ne6 : ¬ nI op = 6 := by
        rw [show (6 : Int32) = nI 6 from rfl, nI_eq (by omega) (by omega)]
        omega
      by_cases hs : yC n t p = 33 ∨ yC n t p = 45 ∨ yC n t p = 40
      · have hpn : p < n := yC_lt (t := t) (by omega)
        -- what lies one deeper
        have e215 : zgo false (dB + K + 5) 215 0 [zr 13 0] [] B = some (some (zi 1), zsI (zsI B 13 0 22 (nI (op + 1))) 13 0 20 (nI (p + 1))) := by
          have q : zgI (zsI B 13 0 22 (nI (op + 1))) 13 0 20 = nI p := b3
          rw [B215_0, b5, if_neg ne6]
          simp +decide only [B215_35, nI_1, q, zbsome, zpu1, zpu0, cond_true, cond_false, zib0, zib1, zib_ite, zq00, zq20, zq22, zq90, zq99, zq40, zq44, zq100, zq1010, Bool.and_true, if_true, if_false, z1ne0, not_true_eq_false, not_false_eq_true, zite10, eq_self, and_true, true_and, and_false, false_and, ↓reduceIte, Int32.reduceLT, Int32.reduceLE, Int32.reduceAdd, Int32.reduceSub, Int32.reduceMul]
        have P1 : yPa n t (zsI A 8 0 3 (nI (p + 1))) (zsI (zsI B 13 0 22 (nI (op + 1))) 13 0 20 (nI (p + 1))) (p + 1) z m (op + 1) := ⟨⟨by omega, by omega, by omega⟩, rfl, b2, rfl, b4, rfl, b6, hT, hU⟩
        have fA : zFo (yFa z) A (zsI A 8 0 3 (nI (p + 1))) := zFo_sI (zFo_refl _ A) ⟨rfl, Or.inl ⟨rfl, Or.inl rfl⟩⟩
        have fB : zFo (yFb m) B (zsI (zsI B 13 0 22 (nI (op + 1))) 13 0 20 (nI (p + 1))) := zFo_sI (zFo_sI (zFo_refl _ B) ⟨rfl, Or.inl ⟨rfl, by omega, by omega⟩⟩) ⟨rfl, Or.inl ⟨rfl, by omega, by omega⟩⟩
        have unary : ∀ s ch : Nat, (s = 1 ∧ ch = 45) ∨ (s = 2 ∧ ch = 33) → yC n t p = ch → zRR (zgo false (dA + K + 6) 86 56 [zr 8 0, zi (nI op), zi (yS (yC n t p))] [] A) (zgo false (dB + K + 6) 217 9 [zr 13 0, zi (yL (yC n t p))] [zi (-1)] B) (fun v A' w B' => w = none ∧ yRes n t p z m op A B v A' B') := by
          intro s ch hsc hch
          obtain ⟨⟨v, A1⟩, ⟨w, B1⟩, e1, e2, hw, r⟩ := s2 hlt dA dB (p + 1) z m _ _ P1
          have hw : w = none := hw
          subst hw
          have e1 : zgo false (dA + K + 5) 86 0 [zr 8 0, zi (nI (op + 1)), zu] [] (zsI A 8 0 3 (nI (p + 1))) = some (v, A1) := e1
          have e2 : zgo false (dB + K + 5) 217 0 [zr 13 0, zu] [] (zsI (zsI B 13 0 22 (nI (op + 1))) 13 0 20 (nI (p + 1))) = some (none, B1) := e2
          have kc : zgo false (dA + K + 6) 86 56 [zr 8 0, zi (nI op), zi (yS (yC n t p))] [] A = zgo false (dA + K + 6) 86 113 [zr 8 0, zi (nI op), zi (yS (yC n t p))] (zpush v []) A1 := by
            rcases hsc with ⟨-, rfl⟩ | ⟨-, rfl⟩
            · simp +decide only [B86_56, B86_82, no6, yS33 hc, yS45 hc, yS40 hc, hch, b1, nI_1, e1, zbsome, zpu1, zpu0, cond_true, cond_false, zib0, zib1, zib_ite, zq00, zq20, zq22, zq90, zq99, zq40, zq44, zq100, zq1010, Bool.and_true, if_true, if_false, z1ne0, not_true_eq_false, not_false_eq_true, zite10, eq_self, and_true, true_and, and_false, false_and, ↓reduceIte, Int32.reduceLT, Int32.reduceLE, Int32.reduceAdd, Int32.reduceSub, Int32.reduceMul]
            · simp +decide only [B86_56, B86_82, no6, yS33 hc, yS45 hc, yS40 hc, hch, b1, nI_1, e1, zbsome, zpu1, zpu0, cond_true, cond_false, zib0, zib1, zib_ite, zq00, zq20, zq22, zq90, zq99, zq40, zq44, zq100, zq1010, Bool.and_true, if_true, if_false, z1ne0, not_true_eq_false, not_false_eq_true, zite10, eq_self, and_true, true_and, and_false, false_and, ↓reduceIte, Int32.reduceLT, Int32.reduceLE, Int32.reduceAdd, Int32.reduceSub, Int32.reduceMul]
          have km : zgo false (dB + K + 6) 217 9 [zr 13 0, zi (yL (yC n t p))] [zi (-1)] B = zgo false (dB + K + 6) 217 58 [zr 13 0, zi (yL (yC n t p))] [] B1 := by
            rcases hsc with ⟨-, rfl⟩ | ⟨-, rfl⟩
            · simp +decide only [B217_9, B217_46, B217_50, yL33 hc, yL45 hc, yL40 hc, hch, n1, e215, e2, zbsome, zpu1, zpu0, cond_true, cond_false, zib0, zib1, zib_ite, zq00, zq20, zq22, zq90, zq99, zq40, zq44, zq100, zq1010, Bool.and_true, if_true, if_false, z1ne0, not_true_eq_false, not_false_eq_true, zite10, eq_self, and_true, true_and, and_false, false_and, ↓reduceIte, Int32.reduceLT, Int32.reduceLE, Int32.reduceAdd, Int32.reduceSub, Int32.reduceMul]
            · simp +decide only [B217_9, B217_46, B217_50, yL33 hc, yL45 hc, yL40 hc, hch, n1, e215, e2, zbsome, zpu1, zpu0, cond_true, cond_false, zib0, zib1, zib_ite, zq00, zq20, zq22, zq90, zq99, zq40, zq44, zq100, zq1010, Bool.and_true, if_true, if_false, z1ne0, not_true_eq_false, not_false_eq_true, zite10, eq_self, and_true, true_and, and_false, false_and, ↓reduceIte, Int32.reduceLT, Int32.reduceLE, Int32.reduceAdd, Int32.reduceSub, Int32.reduceMul]
          rw [kc, km]
          have km2 : ∀ m' x, m' < 130 → zgI B1 13 0 23 = nI m' → zgI B1 13 0 22 = x → zgo false (dB + K + 6) 217 58 [zr 13 0, zi (yL (yC n t p))] [] B1 = some (none, yEmB (zsI B1 13 0 22 (x - 1)) m' (yMa (.inr (.inr s))) 0) := by
            intro m' x hm' hm hx
            rcases hsc with ⟨rfl, rfl⟩ | ⟨rfl, rfl⟩
            · simp +decide only [B217_58, B217_80, B217_84, B217_154, yL33 hc, yL45 hc, hch, hx, S213y _ _ _ (show zgI (zsI B1 13 0 22 (x - 1)) 13 0 23 = nI m' from hm) hm', zbsome, zpu1, zpu0, cond_true, cond_false, zib0, zib1, zib_ite, zq00, zq20, zq22, zq90, zq99, zq40, zq44, zq100, zq1010, Bool.and_true, if_true, if_false, z1ne0, not_true_eq_false, not_false_eq_true, zite10, eq_self, and_true, true_and, and_false, false_and, ↓reduceIte, Int32.reduceLT, Int32.reduceLE, Int32.reduceAdd, Int32.reduceSub, Int32.reduceMul]
              rfl
            · simp +decide only [B217_58, B217_80, B217_84, B217_154, yL33 hc, yL45 hc, hch, hx, S213y _ _ _ (show zgI (zsI B1 13 0 22 (x - 1)) 13 0 23 = nI m' from hm) hm', zbsome, zpu1, zpu0, cond_true, cond_false, zib0, zib1, zib_ite, zq00, zq20, zq22, zq90, zq99, zq40, zq44, zq100, zq1010, Bool.and_true, if_true, if_false, z1ne0, not_true_eq_false, not_false_eq_true, zite10, eq_self, and_true, true_and, and_false, false_and, ↓reduceIte, Int32.reduceLT, Int32.reduceLE, Int32.reduceAdd, Int32.reduceSub, Int32.reduceMul]
              rfl
          have kc2 : ∀ z', z' < 128 → zgI A1 8 0 4 = nI z' → zgo false (dA + K + 6) 86 113 [zr 8 0, zi (nI op), zi (yS (yC n t p))] [zi 1] A1 = some (some (zi 1), yEmA A1 z' (yCc (.inr (.inr s)))) := by
            intro z' hz' hz
            rcases hsc with ⟨rfl, rfl⟩ | ⟨rfl, rfl⟩
            · simp +decide only [B86_113, B86_134, B86_137, yS45 hc, hch, S92y _ _ hz hz', zbsome, zpu1, zpu0, cond_true, cond_false, zib0, zib1, zib_ite, zq00, zq20, zq22, zq90, zq99, zq40, zq44, zq100, zq1010, Bool.and_true, if_true, if_false, z1ne0, not_true_eq_false, not_false_eq_true, zite10, eq_self, and_true, true_and, and_false, false_and, ↓reduceIte, Int32.reduceLT, Int32.reduceLE, Int32.reduceAdd, Int32.reduceSub, Int32.reduceMul]
              rfl
            · simp +decide only [B86_113, B86_134, B86_137, yS45 hc, hch, S92y _ _ hz hz', zbsome, zpu1, zpu0, cond_true, cond_false, zib0, zib1, zib_ite, zq00, zq20, zq22, zq90, zq99, zq40, zq44, zq100, zq1010, Bool.and_true, if_true, if_false, z1ne0, not_true_eq_false, not_false_eq_true, zite10, eq_self, and_true, true_and, and_false, false_and, ↓reduceIte, Int32.reduceLT, Int32.reduceLE, Int32.reduceAdd, Int32.reduceSub, Int32.reduceMul]
              rfl
          rcases r with ⟨hv, p2, l, f1, g1, q1, P2, l1, E, Sg, Mg⟩ | ⟨f1, g1, q, m', z', h, hv, ⟨c1, c2, c3, c4, c5, c6, c7⟩, d1, d2, d3, d4, d5⟩
          · have hv : v = some (zi 1) := hv
            subst hv
            obtain ⟨⟨g1', g2', g3'⟩, h1, h2, h3, h4, h5, h6, h7, h8⟩ := P2
            have f2 : zFo (yFb m) B1 (zsI B1 13 0 22 (nI op)) := zFo_sI (zFo_refl _ B1) ⟨rfl, Or.inl ⟨rfl, by omega, by omega⟩⟩
            have acc := yAcc_op (n := n) (t := t) (A0 := A) (B0 := B) (A := A1) (B := zsI B1 13 0 22 (nI op)) (p0 := p) (z := z) (m := m) (op := op) (p := p2) (l := l) (o := .inr (.inr s)) (w := 0) (zFo_trans fA f1) (zFo_trans (zFo_trans fB g1) f2) (by omega) ⟨⟨g1', g2', g3'⟩, h1, h2, h3, h4, rfl, h6, h7, yTpB_fr h8 f2⟩ (by omega) ⟨a2, a3⟩ (yEx_un E (by omega)) Sg (yMg_fr Mg (fun k s k1 s1 s2 => by rw [zgI_sI, if_neg (by omega)])) (fun _ => rfl) (by
              rcases hsc with ⟨rfl, rfl⟩ | ⟨rfl, rfl⟩ <;> rfl)
            refine ⟨(some (zi 1), yEmA A1 (z + l.length) (yCc (.inr (.inr s)))), (none, yEmB (zsI B1 13 0 22 (nI op)) (m + l.length) (yMa (.inr (.inr s))) 0), kc2 _ (by omega) h2, ?_, rfl, Or.inl ⟨rfl, p2, _, acc⟩⟩
            rw [km2 (m + l.length) (nI (op + 1)) (by omega) h6 h5, nI_pred]
          · have f2 : zFo (yFb m) B1 (zsI B1 13 0 22 ((zgI B1 13 0 22) - 1)) := zFo_sI (zFo_refl _ B1) ⟨rfl, Or.inl ⟨rfl, by omega, by omega⟩⟩
            have d3' : zgI (yEmB (zsI B1 13 0 22 ((zgI B1 13 0 22) - 1)) m' (yMa (.inr (.inr s))) 0) 13 0 21 = nI q := by
              rw [yEmB_I (by omega) (by omega)]
              exact d3
            have d4' : zgI (yEmB (zsI B1 13 0 22 ((zgI B1 13 0 22) - 1)) m' (yMa (.inr (.inr s))) 0) 13 0 20 = nI h := by
              rw [yEmB_I (by omega) (by omega)]
              exact d4
            have gB := zFo_trans (zFo_trans (zFo_trans fB g1) f2) (yEmB_fo (m := m') (m0 := m) (a := yMa (.inr (.inr s))) (w := 0) (by omega))
            rcases hv with hv | ⟨hv, hq, hdq⟩
            · have hv : v = some (zi 0) := hv
              subst hv
              refine ⟨(some (zi 0), A1), (none, yEmB (zsI B1 13 0 22 ((zgI B1 13 0 22) - 1)) m' (yMa (.inr (.inr s))) 0), ?_, km2 m' _ (by omega) d5 rfl, rfl, Or.inr ⟨zFo_trans fA f1, gB, q, m' + 1, z', h, Or.inl rfl, ⟨by omega, c2, by omega, by omega, c5, by omega, by omega⟩, d1, d2, d3', d4', rfl⟩⟩
              rw [zpu1, B86_113, if_pos rfl]
            · have hv : v = some (zi 1) := hv
              subst hv
              refine ⟨(some (zi 1), yEmA A1 z' (yCc (.inr (.inr s)))), (none, yEmB (zsI B1 13 0 22 ((zgI B1 13 0 22) - 1)) m' (yMa (.inr (.inr s))) 0), kc2 _ (by omega) d2, km2 m' _ (by omega) d5 rfl, rfl, Or.inr ⟨zFo_trans (zFo_trans fA f1) (yEmA_fo (by omega)), gB, q, m' + 1, z' + 1, h, Or.inr ⟨rfl, hq, hdq⟩, ⟨by omega, c2, by omega, by omega, c5, by omega, by omega⟩, ?_, rfl, d3', d4', rfl⟩⟩
              rw [yEmA_I (by omega) (by omega)]
              exact d1
        rcases hs with h | h | h
        · exact unary 2 33 (by omega) h
        · exact unary 1 45 (by omega) h
        · -- in brackets
          obtain ⟨⟨v, A1⟩, ⟨w, B1⟩, e1, e2, hw, r⟩ := s1 hlt dA (dB + 1) (p + 1) z m _ _ P1
          have hw : w = none := hw
          subst hw
          have e1 : zgo false (dA + K + 4) 85 0 [zr 8 0, zi 0, zi (nI (op + 1)), zu, zu, zu] [] (zsI A 8 0 3 (nI (p + 1))) = some (v, A1) := e1
          have e2 : zgo false (dB + K + 5) 222 0 [zr 13 0] [] (zsI (zsI B 13 0 22 (nI (op + 1))) 13 0 20 (nI (p + 1))) = some (none, B1) := by
            have q : dB + 1 + (K + 4) = dB + K + 5 := by omega
            rw [← q]
            exact e2
          have kc : zgo false (dA + K + 6) 86 56 [zr 8 0, zi (nI op), zi (yS (yC n t p))] [] A = (zgo false (dA + K + 5) 87 6 [zr 8 0, zi (nI (op + 1))] (zpush v []) A1).bind fun q => zgo false (dA + K + 6) 86 105 [zr 8 0, zi (nI op), zi (yS (yC n t p))] (zpush q.1 []) q.2 := by
            simp +decide only [B86_56, B86_82, B87_0, no6, yS33 hc, yS45 hc, yS40 hc, h, b1, nI_1, e1, zbsome, zpu1, zpu0, cond_true, cond_false, zib0, zib1, zib_ite, zq00, zq20, zq22, zq90, zq99, zq40, zq44, zq100, zq1010, Bool.and_true, if_true, if_false, z1ne0, not_true_eq_false, not_false_eq_true, zite10, eq_self, and_true, true_and, and_false, false_and, ↓reduceIte, Int32.reduceLT, Int32.reduceLE, Int32.reduceAdd, Int32.reduceSub, Int32.reduceMul]
          have km : zgo false (dB + K + 6) 217 9 [zr 13 0, zi (yL (yC n t p))] [zi (-1)] B = zgo false (dB + K + 6) 217 105 [zr 13 0, zi (yL (yC n t p))] [] B1 := by
            simp +decide only [B217_9, B217_97, yL33 hc, yL45 hc, yL40 hc, h, n1, e215, e2, zbsome, zpu1, zpu0, cond_true, cond_false, zib0, zib1, zib_ite, zq00, zq20, zq22, zq90, zq99, zq40, zq44, zq100, zq1010, Bool.and_true, if_true, if_false, z1ne0, not_true_eq_false, not_false_eq_true, zite10, eq_self, and_true, true_and, and_false, false_and, ↓reduceIte, Int32.reduceLT, Int32.reduceLE, Int32.reduceAdd, Int32.reduceSub, Int32.reduceMul]
          rw [kc, km]
          rcases r with ⟨hv, p2, l, f1, g1, q1, P2, l1, E, Sg, Mg⟩ | ⟨f1, g1, q, m', z', hh, hv, ⟨c1, c2, c3, c4, c5, c6, c7⟩, d1, d2, d3, d4, d5⟩
          · have hv : v = some (zi 1) := hv
            subst hv
            obtain ⟨⟨g1', g2', g3'⟩, h1, h2, h3, h4, h5, h6, h7, h8⟩ := P2
            have hc2 : yC n t p2 ≤ 256 := yC_le hT.2.1 p2
            have hS2 := fun d => S89y d h7 h1 g1'
            have hL2 := fun d => S211y d h7 h8 h3 g1'
            by_cases h41 : yC n t p2 = 41
            · have hpn2 : p2 < n := yC_lt (t := t) (by omega)
              have f2 : zFo (yFb m) B1 (zsI (zsI B1 13 0 20 (nI (p2 + 1))) 13 0 22 (nI op)) := zFo_sI (zFo_sI (zFo_refl _ B1) ⟨rfl, Or.inl ⟨rfl, by omega, by omega⟩⟩) ⟨rfl, Or.inl ⟨rfl, by omega, by omega⟩⟩
              have f3 : zFo (yFa z) A1 (zsI A1 8 0 3 (nI (p2 + 1))) := zFo_sI (zFo_refl _ A1) ⟨rfl, Or.inl ⟨rfl, Or.inl rfl⟩⟩
              have q22 : zgI (zsI B1 13 0 20 (nI (p2 + 1))) 13 0 22 = nI (op + 1) := h5
              refine ⟨(some (zi 1), zsI A1 8 0 3 (nI (p2 + 1))), (none, zsI (zsI B1 13 0 20 (nI (p2 + 1))) 13 0 22 (nI op)), ?_, ?_, rfl, Or.inl ⟨rfl, p2 + 1, l, zFo_trans (zFo_trans fA f1) f3, zFo_trans (zFo_trans fB g1) f2, by omega, ⟨⟨by omega, by omega, by omega⟩, rfl, h2, rfl, h4, rfl, h6, yTpA_fr h7 f3, yTpB_fr h8 f2⟩, by omega, E, ySg_fr Sg (fun s s1 s2 => by rw [zgI_sI, if_neg (by omega)]), yMg_fr Mg (fun k s k1 s1 s2 => by rw [zgI_sI, if_neg (by omega), zgI_sI, if_neg (by omega)])⟩⟩
              · simp +decide only [B87_6, B87_13, B86_105, hS2, yS41 hc2, h41, h1, nI_1, zbsome, zpu1, zpu0, cond_true, cond_false, zib0, zib1, zib_ite, zq00, zq20, zq22, zq90, zq99, zq40, zq44, zq100, zq1010, Bool.and_true, if_true, if_false, z1ne0, not_true_eq_false, not_false_eq_true, zite10, eq_self, and_true, true_and, and_false, false_and, ↓reduceIte, Int32.reduceLT, Int32.reduceLE, Int32.reduceAdd, Int32.reduceSub, Int32.reduceMul]
              · simp +decide only [B217_105, B217_117, B217_147, B217_154, h4, n1, hL2, yL41 hc2, h41, h3, nI_1, q22, nI_pred, zbsome, zpu1, zpu0, cond_true, cond_false, zib0, zib1, zib_ite, zq00, zq20, zq22, zq90, zq99, zq40, zq44, zq100, zq1010, Bool.and_true, if_true, if_false, z1ne0, not_true_eq_false, not_false_eq_true, zite10, eq_self, and_true, true_and, and_false, false_and, ↓reduceIte, Int32.reduceLT, Int32.reduceLE, Int32.reduceAdd, Int32.reduceSub, Int32.reduceMul]
            · refine ⟨(some (zi 0), A1), (none, zsI B1 13 0 21 (nI p2)), ?_, ?_, rfl, Or.inr ⟨zFo_trans fA f1, zFo_trans (zFo_trans fB g1) (zFo_sI (zFo_refl _ B1) ⟨rfl, Or.inl ⟨rfl, by omega, by omega⟩⟩), p2, m + l.length, z + l.length, p2, Or.inl rfl, ⟨by omega, g1', by omega, by omega, g1', by omega, by omega⟩, h1, h2, rfl, h3, h6⟩⟩
              · simp +decide only [B87_6, B87_13, B87_18, B86_105, hS2, yS41 hc2, h41, zbsome, zpu1, zpu0, cond_true, cond_false, zib0, zib1, zib_ite, zq00, zq20, zq22, zq90, zq99, zq40, zq44, zq100, zq1010, Bool.and_true, if_true, if_false, z1ne0, not_true_eq_false, not_false_eq_true, zite10, eq_self, and_true, true_and, and_false, false_and, ↓reduceIte, Int32.reduceLT, Int32.reduceLE, Int32.reduceAdd, Int32.reduceSub, Int32.reduceMul]
              · simp +decide only [B217_105, B217_117, B217_126, h4, n1, hL2, yL41 hc2, h41, S212y _ h4 h3, zbsome, zpu1, zpu0, cond_true, cond_false, zib0, zib1, zib_ite, zq00, zq20, zq22, zq90, zq99, zq40, zq44, zq100, zq1010, Bool.and_true, if_true, if_false, z1ne0, not_true_eq_false, not_false_eq_true, zite10, eq_self, and_true, true_and, and_false, false_and, ↓reduceIte, Int32.reduceLT, Int32.reduceLE, Int32.reduceAdd, Int32.reduceSub, Int32.reduceMul]
          · have f1' := zFo_trans fA f1
            have g1' := zFo_trans fB g1
            have k2 : zgo false (dB + K + 6) 217 105 [zr 13 0, zi (yL (yC n t p))] [] B1 = some (none, B1) := by
              have : ¬ nI q < 0 := nI_pos (by omega)
              rw [B217_105, d3, if_neg this]
            refine ⟨(some (zi 0), A1), (none, B1), ?_, k2, rfl, Or.inr ⟨f1', g1', q, m', z', hh, Or.inl rfl, ⟨by omega, c2, by omega, by omega, c5, by omega, by omega⟩, d1, d2, d3, d4, d5⟩⟩
            rcases hv with hv | ⟨hv, hq, hdq⟩
            · have hv : v = some (zi 0) := hv
              subst hv
              simp +decide only [B87_6, B87_18, B86_105, zbsome, zpu1, zpu0, cond_true, cond_false, zib0, zib1, zib_ite, zq00, zq20, zq22, zq90, zq99, zq40, zq44, zq100, zq1010, Bool.and_true, if_true, if_false, z1ne0, not_true_eq_false, not_false_eq_true, zite10, eq_self, and_true, true_and, and_false, false_and, ↓reduceIte, Int32.reduceLT, Int32.reduceLE, Int32.reduceAdd, Int32.reduceSub, Int32.reduceMul]
            · have hv : v = some (zi 1) := hv
              subst hv
              have hcq := yC_eq (t := t) hq
              unfold yDg at hdq
              have hc2 : yC n t q ≤ 256 := yC_le hT.2.1 q
              simp +decide only [B87_6, B87_13, B87_18, B86_105, S89y _ (yTpA_fr hT f1') d1 c2, yS41 hc2, show ¬ yC n t q = 41 by omega, zbsome, zpu1, zpu0, cond_true, cond_false, zib0, zib1, zib_ite, zq00, zq20, zq22, zq90, zq99, zq40, zq44, zq100, zq1010, Bool.and_true, if_true, if_false, z1ne0, not_true_eq_false, not_false_eq_true, zite10, eq_self, and_true, true_and, and_false, false_and, ↓reduceIte, Int32.reduceLT, Int32.reduceLE, Int32.reduceAdd, Int32.reduceSub, Int32.reduceMul]
      · refine ⟨(some (zi 0), A), (none, yEmB (zsI B 13 0 21 (nI p)) m 1 0), ?_, ?_, rfl, Or.inr (yBad_here P0).2⟩
        · simp +decide only [B86_56, B86_80, no6, yS33 hc, yS45 hc, yS40 hc, show ¬ yC n t p = 33 by omega, show ¬ yC n t p = 45 by omega, show ¬ yC n t p = 40 by omega, zbsome, zpu1, zpu0, cond_true, cond_false, zib0, zib1, zib_ite, zq00, zq20, zq22, zq90, zq99, zq40, zq44, zq100, zq1010, Bool.and_true, if_true, if_false, z1ne0, not_true_eq_false, not_false_eq_true, zite10, eq_self, and_true, true_and, and_false, false_and, ↓reduceIte, Int32.reduceLT, Int32.reduceLE, Int32.reduceAdd, Int32.reduceSub, Int32.reduceMul]
        · have nd : ¬ (48 ≤ yL (yC n t p) ∧ yL (yC n t p) ≤ 57) := mt (yLd hc).mp hd
          simp +decide only [B217_9, yL33 hc, yL45 hc, yL40 hc, show ¬ yC n t p = 33 by omega, show ¬ yC n t p = 45 by omega, show ¬ yC n t p = 40 by omega, n1, B216_0, B216_4, B216_13, B216_20, B216_52, B216_70, B216_74, B216_80, S_in, hL, nd, S212y _ b4 b3, S213y _ _ _ (show zgI (zsI B 13 0 21 (nI p)) 13 0 23 = nI m from b6) (show m < 130 by omega), B217_154, zbsome, zpu1, zpu0, cond_true, cond_false, zib0, zib1, zib_ite, zq00, zq20, zq22, zq90, zq99, zq40, zq44, zq100, zq1010, Bool.and_true, if_true, if_false, z1ne0, not_true_eq_false, not_false_eq_true, zite10, eq_self, and_true, true_and, and_false, false_and, ↓reduceIte, Int32.reduceLT, Int32.reduceLE, Int32.reduceAdd, Int32.reduceSub, Int32.reduceMul]
  · -- a name
    have hlt : yC n t p < 256 := by omega
    have hpn : p < n := yC_lt (t := t) (by omega)
    have h0 : ¬ yS (yC n t p) < 0 := by
      unfold yS
      rw [if_pos hlt]
      exact nI_pos (by omega)
    have nk : ¬ nI k < 0 := nI_pos (by omega)
    have ca : zgo false (dA + K + 6) 86 9 [zr 8 0, zi (nI op), zi (yS (yC n t p))] [zi 0] A = some (some (zi 1), yEmA (zsI A 8 0 3 (nI (p + 1))) z (-1 - nI k)) := by
      have e : zgI (yEmA A z (-1 - nI k)) 8 0 3 = nI p := by
        rw [yEmA_I (by omega) (by omega)]
        exact b1
      rw [B86_9, if_pos rfl, if_neg h0, yCh _ hlt, S316 _ _ _ hlt, zbsome, zpu1, hx, B86_28, if_neg nk, yCh _ hlt, S316 _ _ _ hlt, zbsome, hx]
      show zgo false (dA + K + 6) 86 40 [zr 8 0, zi (nI op), zi (yS (yC n t p))] [zi (nI k), zi (-1), zr 8 0] A = _
      rw [B86_40, S92y _ _ b2 (show z < 128 by omega), zbsome, zpu0, B86_44, e, nI_1, yEmA_cm]
    have cb : zgo false (dB + K + 6) 217 9 [zr 13 0, zi (yL (yC n t p))] [zi (yNx (yC n t p))] B = some (none, yEmB (zsI B 13 0 20 (nI (p + 1))) m 2 (nI k)) := by
      have e : zgI (yEmB B m 2 (nI k)) 13 0 20 = nI p := by
        rw [yEmB_I (by omega) (by omega)]
        exact b3
      rw [hx, B217_9, if_neg nk, S214 _ _ _ hc, hx, zbsome]
      show zgo false (dB + K + 6) 217 18 [zr 13 0, zi (yL (yC n t p))] [zi (nI k), zi 2, zr 13 0] B = _
      rw [B217_18, S213y _ _ _ b6 (show m < 130 by omega), zbsome, zpu0, B217_21, B217_154, e, nI_1, yEmB_cm (by omega)]
    have acc : yAcc n t A B (yEmA (zsI A 8 0 3 (nI (p + 1))) (z + ([] : List yOp).length) (yCc (.inr (.inl k)))) (yEmB (zsI B 13 0 20 (nI (p + 1))) (m + ([] : List yOp).length) (yMa (.inr (.inl k))) (nI k)) p z m op (p + 1) ([] ++ [.inr (.inl k)]) := yAcc_op (zFo_sI (zFo_refl _ A) ⟨rfl, Or.inl ⟨rfl, Or.inl rfl⟩⟩) (zFo_sI (zFo_refl _ B) ⟨rfl, Or.inl ⟨rfl, by omega, by omega⟩⟩) (by omega) (yPa_next P0 hpn) (by simp; omega) ⟨a2, a3⟩ (yEx_name hk) trivial trivial (fun _ => rfl) rfl
    exact ⟨(some (zi 1), yEmA (zsI A 8 0 3 (nI (p + 1))) z (-1 - nI k)), (none, yEmB (zsI B 13 0 20 (nI (p + 1))) m 2 (nI k)), ca, cb, rfl, Or.inl ⟨rfl, p + 1, _, acc⟩⟩
