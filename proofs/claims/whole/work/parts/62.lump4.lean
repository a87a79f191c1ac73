/-! ===== lumps, four: together ===== -/
theorem L55 (d n a b : Nat) (hn : 2 ≤ n ∧ n ≤ 416) (hb : b < n) {A B : zM} {N : Nat} {s : Nat → Nat} (h : ySt A B N s) : ∀ (j c l m : Nat) (u7 : zV), c + j = b + 1 → l ≤ n → m < n → a ≤ b → a ≤ c → (∀ q, a ≤ q → q < c → l ≤ yF s n N q ∧ yF s n N q ≤ m) → (a < c → (∃ q, a ≤ q ∧ q < c ∧ yF s n N q = l) ∧ ∃ q, a ≤ q ∧ q < c ∧ yF s n N q = m) → (c = a → l = n ∧ m = 0) → ∃ l' m', zgo false (d + 2) 55 9 [zr 6 0, zi (nI n), zi (nI a), zi (nI b), zi (nI l), zi (nI m), zi (nI c), u7] [] A = some (some (zi (nI m' - nI l')), A) ∧ (∀ q, a ≤ q → q ≤ b → l' ≤ yF s n N q ∧ yF s n N q ≤ m') ∧ (∃ q, a ≤ q ∧ q ≤ b ∧ yF s n N q = l') ∧ ∃ q, a ≤ q ∧ q ≤ b ∧ yF s n N q = m'
  | 0, c, l, m, u7, hc, hl, hm, hab, hac, h1, h2, h3 => by
    obtain ⟨⟨q1, q2, q3, q4⟩, ⟨r1, r2, r3, r4⟩⟩ := h2 (by omega)
    refine ⟨l, m, ?_, fun q w1 w2 => h1 q w1 (by omega), ⟨q1, q2, by omega, q4⟩, ⟨r1, r2, by omega, r4⟩⟩
    rw [B55_9, if_pos (nI_lt (by omega) (by omega))]
  | j + 1, c, l, m, u7, hc, hl, hm, hab, hac, h1, h2, h3 => by
    have hF := yF_lt (s := s) hn.1 (show c < n by omega) N
    obtain ⟨l', m', e, v1, v2, v3⟩ := L55 d n a b hn hb h j (c + 1) (min (yF s n N c) l) (max m (yF s n N c)) (zi (nI (yF s n N c))) (by omega) (by omega) (by omega) hab (by omega) (fun q q1 q2 => by
      by_cases e : q = c
      · subst e; omega
      · have := h1 q q1 (by omega)
        omega) (fun _ => by
      by_cases e : a < c
      · obtain ⟨⟨q1, q2, q3, q4⟩, ⟨r1, r2, r3, r4⟩⟩ := h2 e
        refine ⟨?_, ?_⟩
        · by_cases w : yF s n N c ≤ l
          · exact ⟨c, by omega, by omega, by omega⟩
          · exact ⟨q1, q2, by omega, by omega⟩
        · by_cases w : m ≤ yF s n N c
          · exact ⟨c, by omega, by omega, by omega⟩
          · exact ⟨r1, r2, by omega, by omega⟩
      · obtain ⟨w1, w2⟩ := h3 (by omega)
        exact ⟨⟨c, by omega, by omega, by omega⟩, ⟨c, by omega, by omega, by omega⟩⟩) (fun q => by omega)
    refine ⟨l', m', ?_, v1, v2, v3⟩
    rw [B55_9, if_neg (nI_nlt (by omega) (by omega)), S54 _ _ _ _ _ _ hn (by omega) h]
    simp +decide only [B55_22, ymn _ _ (show yF s n N c < 2 ^ 31 by omega) (show l < 2 ^ 31 by omega), ymx _ _ (show m < 2 ^ 31 by omega) (show yF s n N c < 2 ^ 31 by omega), nI_1, zbsome, zpu1, zpu0, cond_true, cond_false, zib0, zib1, zib_ite, zq00, zq20, zq22, zq90, zq99, zq40, zq44, zq100, zq1010, Bool.and_true, if_true, if_false, z1ne0, not_true_eq_false, not_false_eq_true, zite10, eq_self, and_true, true_and, and_false, false_and, ↓reduceIte, Int32.reduceLT, Int32.reduceLE, Int32.reduceAdd, Int32.reduceSub, Int32.reduceMul]
    exact e
theorem L287 (d n ab : Nat) (hn : 2 ≤ n ∧ n ≤ 416) (hab : ab < 2 ^ 31) {s : Nat → Nat} {N : Nat} (M : zM) (ho : yOrd s n N M) : ∀ (j k : Nat) (lo hi : Int32), k + j = n → ((lo = -1 ∧ hi = -1 ∧ ∀ q, q < n → ab / 1000 ≤ q → q ≤ ab % 1000 → ¬ yF s n N q < k) ∨ ∃ l m, lo = nI l ∧ hi = nI m ∧ l < k ∧ m < k ∧ (∃ q, q < n ∧ ab / 1000 ≤ q ∧ q ≤ ab % 1000 ∧ yF s n N q = l) ∧ (∃ q, q < n ∧ ab / 1000 ≤ q ∧ q ≤ ab % 1000 ∧ yF s n N q = m) ∧ ∀ q, q < n → ab / 1000 ≤ q → q ≤ ab % 1000 → yF s n N q < k → l ≤ yF s n N q ∧ yF s n N q ≤ m) → ∃ lo' hi', zgo false (d + 1) 287 52 [zr 13 0, zi (nI n), zi (nI ab), zi lo, zi hi, zi (nI k)] [] M = some (some (zi (hi' - lo')), M) ∧ ((lo' = -1 ∧ hi' = -1 ∧ ∀ q, q < n → ab / 1000 ≤ q → q ≤ ab % 1000 → ¬ yF s n N q < n) ∨ ∃ l m, lo' = nI l ∧ hi' = nI m ∧ l < n ∧ m < n ∧ (∃ q, q < n ∧ ab / 1000 ≤ q ∧ q ≤ ab % 1000 ∧ yF s n N q = l) ∧ (∃ q, q < n ∧ ab / 1000 ≤ q ∧ q ≤ ab % 1000 ∧ yF s n N q = m) ∧ ∀ q, q < n → ab / 1000 ≤ q → q ≤ ab % 1000 → yF s n N q < n → l ≤ yF s n N q ∧ yF s n N q ≤ m)
  | 0, k, lo, hi, hk, h => by
    have hk : k = n := by omega
    subst hk
    refine ⟨lo, hi, ?_, h⟩
    rw [B287_52, if_pos (nI_le (by omega) (by omega))]
  | j + 1, k, lo, hi, hk, h => by
    obtain ⟨c, c1, c2⟩ := ho.2 k (by omega)
    have hc := ho.1 c c1
    rw [c2] at hc
    have d1 : nI ab / 1000 = nI (ab / 1000) := by rw [show (1000 : Int32) = nI 1000 from rfl, pk_div hab (by omega) (by omega)]
    have d2 : nI ab - nI (ab / 1000) * 1000 = nI (ab % 1000) := by
      rw [← d1, show (1000 : Int32) = nI 1000 from rfl, pk_rem hab (by omega) (by omega)]
    have n1 : ¬ (1000 : Int32) = 0 := by decide
    have one : ∀ q, q < n → yF s n N q = k → q = c := fun q q1 q2 => by
      have := ho.1 q q1
      rw [q2, hc, nI_eq (by omega) (by omega)] at this
      exact this.symm
    have ck : (nI k).toNatClampNeg = k := nI_clamp (by omega)
    have zk : zin (nI k) 416 = true := zin_nI (by omega) (by omega)
    have hb : nI (ab / 1000) ≤ nI c ∧ nI c ≤ nI (ab % 1000) ↔ ab / 1000 ≤ c ∧ c ≤ ab % 1000 := by
      rw [nI_leI (by omega) (by omega), nI_leI (by omega) (by omega)]
    rw [B287_52, if_neg (nI_ge (by omega) (by omega)), if_pos zk, if_neg n1, if_neg n1, ck, hc, d1, d2]
    by_cases m : ab / 1000 ≤ c ∧ c ≤ ab % 1000
    · rcases h with ⟨rfl, rfl, h1⟩ | ⟨l, m', rfl, rfl, l1, l2, l3, l4, l5⟩
      · obtain ⟨lo', hi', e, v⟩ := L287 d n ab hn hab M ho j (k + 1) (nI k) (nI k) (by omega) (Or.inr ⟨k, k, rfl, rfl, by omega, by omega, ⟨c, c1, m.1, m.2, c2⟩, ⟨c, c1, m.1, m.2, c2⟩, fun q q1 q2 q3 q4 => by
          by_cases w : yF s n N q = k
          · omega
          · exact absurd (show yF s n N q < k by omega) (h1 q q1 q2 q3)⟩)
        refine ⟨lo', hi', ?_, v⟩
        have nn : ¬ (0 : Int32) ≤ -1 := by decide
        simp +decide only [B287_78, B287_91, B287_95, S_in, hb.mpr m, nn, nI_1, zbsome, zpu1, zpu0, cond_true, cond_false, zib0, zib1, zib_ite, zq00, zq20, zq22, zq90, zq99, zq40, zq44, zq100, zq1010, Bool.and_true, if_true, if_false, z1ne0, not_true_eq_false, not_false_eq_true, zite10, eq_self, and_true, true_and, and_false, false_and, ↓reduceIte, Int32.reduceLT, Int32.reduceLE, Int32.reduceAdd, Int32.reduceSub, Int32.reduceMul]
        exact e
      · obtain ⟨lo', hi', e, v⟩ := L287 d n ab hn hab M ho j (k + 1) (nI l) (nI k) (by omega) (Or.inr ⟨l, k, rfl, rfl, by omega, by omega, l3, ⟨c, c1, m.1, m.2, c2⟩, fun q q1 q2 q3 q4 => by
          by_cases w : yF s n N q = k
          · omega
          · have := l5 q q1 q2 q3 (by omega)
            omega⟩)
        refine ⟨lo', hi', ?_, v⟩
        have nn : (0 : Int32) ≤ nI l := nI_pos' (by omega)
        simp +decide only [B287_78, B287_91, B287_95, S_in, hb.mpr m, nn, nI_1, zbsome, zpu1, zpu0, cond_true, cond_false, zib0, zib1, zib_ite, zq00, zq20, zq22, zq90, zq99, zq40, zq44, zq100, zq1010, Bool.and_true, if_true, if_false, z1ne0, not_true_eq_false, not_false_eq_true, zite10, eq_self, and_true, true_and, and_false, false_and, ↓reduceIte, Int32.reduceLT, Int32.reduceLE, Int32.reduceAdd, Int32.reduceSub, Int32.reduceMul]
        exact e
    · obtain ⟨lo', hi', e, v⟩ := L287 d n ab hn hab M ho j (k + 1) lo hi (by omega) (by
        rcases h with ⟨e1, e2, h1⟩ | ⟨l, m', e1, e2, l1, l2, l3, l4, l5⟩
        · refine Or.inl ⟨e1, e2, fun q q1 q2 q3 q4 => ?_⟩
          by_cases w : yF s n N q = k
          · have := one q q1 w
            subst this
            exact m ⟨q2, q3⟩
          · exact h1 q q1 q2 q3 (by omega)
        · refine Or.inr ⟨l, m', e1, e2, by omega, by omega, l3, l4, fun q q1 q2 q3 q4 => ?_⟩
          by_cases w : yF s n N q = k
          · have := one q q1 w
            subst this
            exact absurd ⟨q2, q3⟩ m
          · exact l5 q q1 q2 q3 (by omega))
      refine ⟨lo', hi', ?_, v⟩
      simp +decide only [B287_78, B287_91, B287_95, S_in, mt hb.mp m, nI_1, zbsome, zpu1, zpu0, cond_true, cond_false, zib0, zib1, zib_ite, zq00, zq20, zq22, zq90, zq99, zq40, zq44, zq100, zq1010, Bool.and_true, if_true, if_false, z1ne0, not_true_eq_false, not_false_eq_true, zite10, eq_self, and_true, true_and, and_false, false_and, ↓reduceIte, Int32.reduceLT, Int32.reduceLE, Int32.reduceAdd, Int32.reduceSub, Int32.reduceMul]
      exact e
/-- 'together' -/
theorem Q24 (d : Nat) (x1 x2 : Int32) (u1 u2 u3 u4 u5 : zV) (M : zM) (h : Rstep M) : ∃ (y : Int32) (M2 : zM), zgo false (d + 3) 154 0 [zr 12 0, zi x1, zi x2, u1, u2] [] M = some (some (zi y), M) ∧ zgo false (d + 3) 287 0 [zr 13 0, zi x1, zi x2, u3, u4, u5] [] M = some (some (zi y), M2) ∧ zFr (Nat.beq 32) M M2 := by
  obtain ⟨N, s, hs⟩ := ySt_of h
  have n1 : ¬ (1000 : Int32) = 0 := by decide
  by_cases h1 : 2 ≤ x1 ∧ x1 ≤ 416
  case neg =>
    refine ⟨-1, M, ?_, ?_, zFr_refl _ M⟩
    · simp +decide only [B154_0, B154_4, B154_11, B154_49, B154_52, B154_53, S180, h1, zbsome, zpu1, zpu0, cond_true, cond_false, zib0, zib1, zib_ite, zq00, zq20, zq22, zq90, zq99, zq40, zq44, zq100, zq1010, Bool.and_true, if_true, if_false, z1ne0, not_true_eq_false, not_false_eq_true, zite10, eq_self, and_true, true_and, and_false, false_and, ↓reduceIte, Int32.reduceLT, Int32.reduceLE, Int32.reduceAdd, Int32.reduceSub, Int32.reduceMul]
    · simp +decide only [B287_0, B287_8, B287_37, B287_44, S_in, h1, zbsome, zpu1, zpu0, cond_true, cond_false, zib0, zib1, zib_ite, zq00, zq20, zq22, zq90, zq99, zq40, zq44, zq100, zq1010, Bool.and_true, if_true, if_false, z1ne0, not_true_eq_false, not_false_eq_true, zite10, eq_self, and_true, true_and, and_false, false_and, ↓reduceIte, Int32.reduceLT, Int32.reduceLE, Int32.reduceAdd, Int32.reduceSub, Int32.reduceMul]
  obtain ⟨n, hn, rfl⟩ := yPile h1
  by_cases h2 : x2 < 0
  · have h2' : ¬ 0 ≤ x2 := z_lt_nle h2
    refine ⟨-1, M, ?_, ?_, zFr_refl _ M⟩
    · simp +decide only [B154_0, B154_4, B154_11, B154_49, B154_52, B154_53, S180, h1, h2', zbsome, zpu1, zpu0, cond_true, cond_false, zib0, zib1, zib_ite, zq00, zq20, zq22, zq90, zq99, zq40, zq44, zq100, zq1010, Bool.and_true, if_true, if_false, z1ne0, not_true_eq_false, not_false_eq_true, zite10, eq_self, and_true, true_and, and_false, false_and, ↓reduceIte, Int32.reduceLT, Int32.reduceLE, Int32.reduceAdd, Int32.reduceSub, Int32.reduceMul]
    · simp +decide only [B287_0, B287_8, B287_37, B287_44, S_in, h1, h2, zbsome, zpu1, zpu0, cond_true, cond_false, zib0, zib1, zib_ite, zq00, zq20, zq22, zq90, zq99, zq40, zq44, zq100, zq1010, Bool.and_true, if_true, if_false, z1ne0, not_true_eq_false, not_false_eq_true, zite10, eq_self, and_true, true_and, and_false, false_and, ↓reduceIte, Int32.reduceLT, Int32.reduceLE, Int32.reduceAdd, Int32.reduceSub, Int32.reduceMul]
  have h2' : 0 ≤ x2 := z_nlt_le h2
  obtain ⟨ab, hab, rfl⟩ := nI_of h2
  have d1 : nI ab / 1000 = nI (ab / 1000) := by rw [show (1000 : Int32) = nI 1000 from rfl, pk_div hab (by omega) (by omega)]
  have d2 : nI ab - nI (ab / 1000) * 1000 = nI (ab % 1000) := by
    rw [← d1, show (1000 : Int32) = nI 1000 from rfl, pk_rem hab (by omega) (by omega)]
  by_cases h3 : ab / 1000 ≤ ab % 1000
  case neg =>
    have h3' : nI (ab % 1000) < nI (ab / 1000) := nI_lt (by omega) (by omega)
    refine ⟨-1, M, ?_, ?_, zFr_refl _ M⟩
    · simp +decide only [B154_0, B154_4, B154_11, B154_49, B154_52, B154_53, S180, h1, h2', n1, d1, d2, h3', zbsome, zpu1, zpu0, cond_true, cond_false, zib0, zib1, zib_ite, zq00, zq20, zq22, zq90, zq99, zq40, zq44, zq100, zq1010, Bool.and_true, if_true, if_false, z1ne0, not_true_eq_false, not_false_eq_true, zite10, eq_self, and_true, true_and, and_false, false_and, ↓reduceIte, Int32.reduceLT, Int32.reduceLE, Int32.reduceAdd, Int32.reduceSub, Int32.reduceMul]
    · simp +decide only [B287_0, B287_8, B287_37, B287_44, S_in, h1, h2, n1, d1, d2, h3', zbsome, zpu1, zpu0, cond_true, cond_false, zib0, zib1, zib_ite, zq00, zq20, zq22, zq90, zq99, zq40, zq44, zq100, zq1010, Bool.and_true, if_true, if_false, z1ne0, not_true_eq_false, not_false_eq_true, zite10, eq_self, and_true, true_and, and_false, false_and, ↓reduceIte, Int32.reduceLT, Int32.reduceLE, Int32.reduceAdd, Int32.reduceSub, Int32.reduceMul]
  have h3' : ¬ nI (ab % 1000) < nI (ab / 1000) := nI_nlt (by omega) (by omega)
  by_cases h4 : ab % 1000 < n
  case neg =>
    have h4' : nI n ≤ nI (ab % 1000) := nI_le (by omega) (by omega)
    have h4'' : ¬ nI (ab % 1000) < nI n := nI_nlt (by omega) (by omega)
    refine ⟨-1, M, ?_, ?_, zFr_refl _ M⟩
    · simp +decide only [B154_0, B154_4, B154_11, B154_49, B154_52, B154_53, S180, h1, h2', n1, d1, d2, h3', h4', zbsome, zpu1, zpu0, cond_true, cond_false, zib0, zib1, zib_ite, zq00, zq20, zq22, zq90, zq99, zq40, zq44, zq100, zq1010, Bool.and_true, if_true, if_false, z1ne0, not_true_eq_false, not_false_eq_true, zite10, eq_self, and_true, true_and, and_false, false_and, ↓reduceIte, Int32.reduceLT, Int32.reduceLE, Int32.reduceAdd, Int32.reduceSub, Int32.reduceMul]
    · simp +decide only [B287_0, B287_8, B287_37, B287_44, S_in, h1, h2, n1, d1, d2, h3', h4'', zbsome, zpu1, zpu0, cond_true, cond_false, zib0, zib1, zib_ite, zq00, zq20, zq22, zq90, zq99, zq40, zq44, zq100, zq1010, Bool.and_true, if_true, if_false, z1ne0, not_true_eq_false, not_false_eq_true, zite10, eq_self, and_true, true_and, and_false, false_and, ↓reduceIte, Int32.reduceLT, Int32.reduceLE, Int32.reduceAdd, Int32.reduceSub, Int32.reduceMul]
  have h4' : ¬ nI n ≤ nI (ab % 1000) := nI_ge (by omega) (by omega)
  have h4'' : nI (ab % 1000) < nI n := nI_lt (by omega) (by omega)
  obtain ⟨M', e, f, o⟩ := S285 (d + 1) n zu zu zu hn M hs
  obtain ⟨lo, hi, e2, v⟩ := L287 (d + 2) n ab hn hab M' o n 0 (-1) (-1) (by omega) (Or.inl ⟨rfl, rfl, fun q q1 q2 q3 => by omega⟩)
  obtain ⟨l', m', e3, w1, ⟨a1, a2, a3, a4⟩, ⟨b1, b2, b3, b4⟩⟩ := L55 d n (ab / 1000) (ab % 1000) hn h4 hs (ab % 1000 + 1 - ab / 1000) (ab / 1000) n 0 zu (by omega) (by omega) (by omega) h3 (by omega) (fun q q1 q2 => by omega) (fun q => by omega) (fun _ => ⟨rfl, rfl⟩)
  have hv : lo = nI l' ∧ hi = nI m' := by
    rcases v with ⟨-, -, v⟩ | ⟨l, m, r1, r2, r3, r4, ⟨p1, p2, p3, p4, p5⟩, ⟨q1, q2, q3, q4, q5⟩, v⟩
    · exact absurd (yF_lt hn.1 (show ab / 1000 < n by omega) N) (v _ (by omega) (by omega) h3)
    · have t1 := w1 p1 p3 p4
      have t2 := w1 q1 q3 q4
      have t3 := v a1 (by omega) a2 a3 (yF_lt hn.1 (by omega) N)
      have t4 := v b1 (by omega) b2 b3 (yF_lt hn.1 (by omega) N)
      rw [r1, r2, show l = l' by omega, show m = m' by omega]
      exact ⟨rfl, rfl⟩
  rw [hv.1, hv.2] at e2
  refine ⟨nI m' - nI l', M', ?_, ?_, zFr_of f (fun k i s q => by obtain ⟨rfl | rfl, rfl⟩ := q <;> rfl)⟩
  · simp +decide only [B154_0, B154_4, B154_11, B154_49, B154_52, B154_53, B55_0, S180, h1, h2', n1, d1, d2, h3', h4', zbsome, zpu1, zpu0, cond_true, cond_false, zib0, zib1, zib_ite, zq00, zq20, zq22, zq90, zq99, zq40, zq44, zq100, zq1010, Bool.and_true, if_true, if_false, z1ne0, not_true_eq_false, not_false_eq_true, zite10, eq_self, and_true, true_and, and_false, false_and, ↓reduceIte, Int32.reduceLT, Int32.reduceLE, Int32.reduceAdd, Int32.reduceSub, Int32.reduceMul]
    rw [show (0 : Int32) = nI 0 from rfl, e3]
    simp +decide only [B154_0, B154_4, B154_11, B154_49, B154_52, B154_53, zbsome, zpu1, zpu0, cond_true, cond_false, zib0, zib1, zib_ite, zq00, zq20, zq22, zq90, zq99, zq40, zq44, zq100, zq1010, Bool.and_true, if_true, if_false, z1ne0, not_true_eq_false, not_false_eq_true, zite10, eq_self, and_true, true_and, and_false, false_and, ↓reduceIte, Int32.reduceLT, Int32.reduceLE, Int32.reduceAdd, Int32.reduceSub, Int32.reduceMul]
  · simp +decide only [B287_0, B287_8, B287_37, B287_44, S_in, h1, h2, n1, d1, d2, h3', h4'', e, zbsome, zpu1, zpu0, cond_true, cond_false, zib0, zib1, zib_ite, zq00, zq20, zq22, zq90, zq99, zq40, zq44, zq100, zq1010, Bool.and_true, if_true, if_false, z1ne0, not_true_eq_false, not_false_eq_true, zite10, eq_self, and_true, true_and, and_false, false_and, ↓reduceIte, Int32.reduceLT, Int32.reduceLE, Int32.reduceAdd, Int32.reduceSub, Int32.reduceMul]
    exact e2
