/-! ===== lumps, three: where, together ===== -/
def yOrd (s : Nat → Nat) (n k : Nat) (M : zM) : Prop := (∀ c, c < n → zgI M 106 0 (yF s n k c) = nI c) ∧ ∀ w, w < n → ∃ c, c < n ∧ yF s n k c = w
theorem ySt_fr {A B B' : zM} {N : Nat} {s : Nat → Nat} (h : ySt A B N s) (h1 : zgI B' 13 0 83 = zgI B 13 0 83) (h2 : ∀ k, zgI B' 105 0 k = zgI B 105 0 k) : ySt A B' N s := ⟨h.1, h.2.1, h1.trans h.2.2.1, fun k hk => by rw [h2]; exact h.2.2.2 k hk⟩
theorem ylf_mod {n m w : Nat} (hm : m ≤ n) (hw : w < n) : ylf n m ((w + m) % n) = w := by
  unfold ylf
  rw [Nat.min_eq_left hm]
  by_cases h : w + m < n
  · rw [Nat.mod_eq_of_lt h, if_neg (by omega)]
    omega
  · have e : (w + m) % n = w + m - n := by
      rw [Nat.mod_eq_sub_mod (by omega), Nat.mod_eq_of_lt (by omega)]
    rw [e]
    by_cases q : w + m - n < m
    · rw [if_pos q]; omega
    · rw [if_neg q]; omega
theorem ylf_mod2 {n m q : Nat} (hm : m ≤ n) (hq : q < n) : (ylf n m q + m) % n = q := by
  unfold ylf
  rw [Nat.min_eq_left hm]
  by_cases h : q < m
  · rw [if_pos h, show q + n - m + m = q + n by omega, Nat.add_mod_right, Nat.mod_eq_of_lt hq]
  · rw [if_neg h, show q - m + m = q by omega, Nat.mod_eq_of_lt hq]
theorem ylf_cap {n m q : Nat} : ylf n (min m n) q = ylf n m q := by
  unfold ylf
  rw [show min (min m n) n = min m n by omega]
theorem L285m (d n : Nat) (hn : 2 ≤ n ∧ n ≤ 416) {A : zM} {N : Nat} {s : Nat → Nat} : ∀ (j k : Nat) (u3 u4 : zV) (M : zM), k + j = N → ySt A M N s → yOrd s n k M → ∃ M', zgo false (d + 1) 285 22 [zr 13 0, zi (nI n), zi (nI k), u3, u4] [] M = some (none, M') ∧ zFo (fun k i _ => (k = 106 ∨ k = 107) ∧ i = 0) M M' ∧ yOrd s n N M'
  | 0, k, u3, u4, M, hk, hs, ho => by
    have hk : k = N := by omega
    subst hk
    have := hs.1
    refine ⟨M, ?_, zFo_refl _ M, ho⟩
    rw [B285_22, hs.2.2.1, if_pos (nI_le (by omega) (by omega))]
  | j + 1, k, u3, u4, M, hk, hs, ho => by
    have h1 := hs.1
    obtain ⟨g1, g2, g3, g4, g5⟩ := hs.2.2.2 k (by omega)
    have z12 : zin (nI k) 12 = true := zin_nI (by omega) (by omega)
    have ck : (nI k).toNatClampNeg = k := nI_clamp (by omega)
    by_cases q : s k < 10
    · have q1 : ¬ (10 : Int32) ≤ nI (s k) := nI_ge (b := 10) q (by omega)
      have e2 : (nI n + 1) / 2 = nI ((n + 1) / 2) := by rw [nI_1, show (2 : Int32) = nI 2 from rfl, pk_div (by omega) (by omega) (by omega)]
      obtain ⟨M1, e, f, v1, v2⟩ := L284 d n (s k) (by omega) hn n 0 0 ((n + 1) / 2) M zu (by omega) (by omega) (by omega) (fun q hq => by omega) (fun w hw => by omega)
      have e' : zgo false d 284 15 [zr 13 0, zi (nI n), zi (nI (s k)), zi (nI ((n + 1) / 2)), zi 0, zi (nI ((n + 1) / 2)), zi 0, zu] [] M = some (none, M1) := by
        have e3 := e
        rw [show 0 + ((n + 1) / 2 - (n + 1) / 2) = 0 by omega] at e3
        exact e3
      obtain ⟨M2, x3, e4, f4, v4⟩ := L285c (d + 1) n hn.2 (nI k) u4 n 0 M1 (by omega)
      have ex : ∀ t, t < n → zgI M2 106 0 t = zgI M1 107 0 t := fun t ht => by rw [v4 t ht, if_pos (by omega)]
      have fs : ∀ c, c < n → yF s n (k + 1) c = yrf n (s k) (yF s n k c) := fun c hc => by
        show yst _ _ _ = _
        unfold yst
        rw [if_pos q]
      obtain ⟨M', e5, f5, o5⟩ := L285m d n hn j (k + 1) x3 u4 M2 (by omega) (ySt_fr hs (((f4 13 0 83 (by omega)).1).trans (f 13 0 83 (by omega)).1) (fun t => ((f4 105 0 t (by omega)).1).trans (f 105 0 t (by omega)).1)) ⟨fun c hc => by
        have hl := yF_lt (s := s) hn.1 hc k
        rw [fs c hc, ex _ (yrf_lt hn.1 hl), v1 _ hl]
        exact ho.1 c hc, fun w hw => by
        obtain ⟨q', q2, q3⟩ := v2 w hw
        obtain ⟨c, c1, c2⟩ := ho.2 q' q2
        exact ⟨c, c1, by rw [fs c c1, c2]; exact q3⟩⟩
      refine ⟨M', ?_, zFo_trans (zFo_mono f (fun a b c r => ⟨Or.inr r.1, r.2⟩)) (zFo_trans (zFo_mono f4 (fun a b c r => ⟨Or.inl r.1, r.2⟩)) f5), o5⟩
      have n2 : ¬ (2 : Int32) = 0 := by decide
      simp +decide only [B285_22, B285_52, B285_115, B284_0, hs.2.2.1, nI_ge (show k < N by omega) (by omega), z12, ck, g2, q1, n2, e2, e', zbsome, zpu1, zpu0, cond_true, cond_false, zib0, zib1, zib_ite, zq00, zq20, zq22, zq90, zq99, zq40, zq44, zq100, zq1010, Bool.and_true, if_true, if_false, z1ne0, not_true_eq_false, not_false_eq_true, zite10, eq_self, and_true, true_and, and_false, false_and, ↓reduceIte, Int32.reduceLT, Int32.reduceLE, Int32.reduceAdd, Int32.reduceSub, Int32.reduceMul]
      rw [show (0 : Int32) = nI 0 from rfl, e4, nI_1]
      exact e5
    · have q1 : (10 : Int32) ≤ nI (s k) := nI_le (a := 10) (by omega) (by omega)
      have e10 : nI (s k) - 10 = nI (s k - 10) := by rw [show (10 : Int32) = nI 10 from rfl, pk_sub (by omega)]
      obtain ⟨M1, w4, e, f, v⟩ := L285r (d + 1) n (min (s k - 10) n) hn (by omega) (nI k) n 0 M (by omega)
      obtain ⟨M2, x3, e4, f4, v4⟩ := L285c (d + 1) n hn.2 (nI k) w4 n 0 M1 (by omega)
      have ex : ∀ t, t < n → zgI M2 106 0 t = zgI M 106 0 ((t + min (s k - 10) n) % n) := fun t ht => by rw [v4 t ht, if_pos (by omega), v t ht, if_pos (by omega)]
      have fs : ∀ c, c < n → yF s n (k + 1) c = ylf n (min (s k - 10) n) (yF s n k c) := fun c hc => by
        show yst _ _ _ = _
        unfold yst
        rw [if_neg q, ylf_cap]
      obtain ⟨M', e5, f5, o5⟩ := L285m d n hn j (k + 1) x3 w4 M2 (by omega) (ySt_fr hs (((f4 13 0 83 (by omega)).1).trans (f 13 0 83 (by omega)).1) (fun t => ((f4 105 0 t (by omega)).1).trans (f 105 0 t (by omega)).1)) ⟨fun c hc => by
        have hl := yF_lt (s := s) hn.1 hc k
        rw [fs c hc, ex _ (ylf_lt hl), ylf_mod2 (by omega) hl]
        exact ho.1 c hc, fun w hw => by
        obtain ⟨c, c1, c2⟩ := ho.2 ((w + min (s k - 10) n) % n) (Nat.mod_lt _ (by omega))
        exact ⟨c, c1, by rw [fs c c1, c2]; exact ylf_mod (by omega) hw⟩⟩
      refine ⟨M', ?_, zFo_trans (zFo_mono f (fun a b c r => ⟨Or.inr r.1, r.2⟩)) (zFo_trans (zFo_mono f4 (fun a b c r => ⟨Or.inl r.1, r.2⟩)) f5), o5⟩
      have go85 : zgo false (d + 1) 285 85 [zr 13 0, zi (nI n), zi (nI k), zi (nI (min (s k - 10) n)), zi 0] [] M = some (none, M') := by
        rw [show (0 : Int32) = nI 0 from rfl, e, B285_115, show (0 : Int32) = nI 0 from rfl, e4, nI_1]
        exact e5
      rw [B285_22, hs.2.2.1, if_neg (nI_ge (by omega) (by omega)), if_pos z12, ck, g2, if_pos q1, if_pos z12, e10]
      by_cases r : n ≤ s k - 10
      · rw [if_pos (nI_le r (by omega)), B285_81]
        rw [show min (s k - 10) n = n by omega] at go85
        exact go85
      · rw [if_neg (nI_ge (by omega) (by omega)), if_pos z12, B285_81]
        rw [show min (s k - 10) n = s k - 10 by omega] at go85
        exact go85
theorem S285 (d n : Nat) (u2 u3 u4 : zV) (hn : 2 ≤ n ∧ n ≤ 416) {A : zM} {N : Nat} {s : Nat → Nat} (M : zM) (hs : ySt A M N s) : ∃ M', zgo false (d + 1) 285 0 [zr 13 0, zi (nI n), u2, u3, u4] [] M = some (none, M') ∧ zFo (fun k i _ => (k = 106 ∨ k = 107) ∧ i = 0) M M' ∧ yOrd s n N M' := by
  obtain ⟨M1, e1, f1, v1⟩ := L285i (d + 1) n hn.2 u3 u4 n 0 M (by omega)
  obtain ⟨M2, e2, f2, o2⟩ := L285m d n hn N 0 u3 u4 M1 (by omega) (ySt_fr hs (f1 13 0 83 (by omega)).1 (fun t => (f1 105 0 t (by omega)).1)) ⟨fun c hc => by
    show zgI M1 106 0 c = nI c
    rw [v1 c hc, if_pos (by omega)], fun w hw => ⟨w, hw, rfl⟩⟩
  refine ⟨M2, ?_, zFo_trans (zFo_mono f1 (fun a b c r => ⟨Or.inl r.1, r.2⟩)) f2, o2⟩
  rw [B285_0]
  exact e1.trans e2
/-- the card is found where it lies -/
theorem L286 (d n c w : Nat) (u2 : Int32) {s : Nat → Nat} {N : Nat} (hn : 2 ≤ n ∧ n ≤ 416) (hc : c < n) (M : zM) (ho : yOrd s n N M) (hw : yF s n N c = w) : ∀ (j k : Nat), k + j = w → zgo false d 286 31 [zr 13 0, zi (nI n), zi (nI c), zi (nI k)] [] M = some (some (zi (nI w)), M)
  | 0, k, hk => by
    have hk : k = w := by omega
    subst hk
    have hl := yF_lt (s := s) hn.1 hc N
    have := ho.1 c hc
    rw [hw] at this
    rw [B286_31, if_pos (zin_nI (by omega) (by omega)), nI_clamp (by omega), if_pos this]
  | j + 1, k, hk => by
    have hl := yF_lt (s := s) hn.1 hc N
    rw [B286_31, if_pos (zin_nI (by omega) (by omega)), nI_clamp (by omega), if_neg, nI_1]
    · exact L286 d n c w u2 hn hc M ho hw j (k + 1) (by omega)
    · intro q
      obtain ⟨c', c1, c2⟩ := ho.2 k (by omega)
      have := ho.1 c' c1
      rw [c2, q, nI_eq (by omega) (by omega)] at this
      subst this
      omega
theorem yPile {x : Int32} (h : 2 ≤ x ∧ x ≤ 416) : ∃ n, (2 ≤ n ∧ n ≤ 416) ∧ x = nI n := by
  obtain ⟨n, hn, rfl⟩ := zin_of (zin512.mpr ⟨by grind, by grind⟩ : zin x 512 = true)
  refine ⟨n, ?_, rfl⟩
  have h1 := h.1
  have h2 := h.2
  rw [show (2 : Int32) = nI 2 from rfl, nI_leI (by omega) (by omega)] at h1
  rw [show (416 : Int32) = nI 416 from rfl, nI_leI (by omega) (by omega)] at h2
  exact ⟨h1, h2⟩
theorem S180 (b : Bool) (d : Nat) (x : Int32) (M : zM) : zgo b d 180 0 [zi x] [] M = some (some (zi (if 2 ≤ x ∧ x ≤ 416 then 1 else 0)), M) := by
  simp only [B180_0, B180_16, B180_17, zib0, zib1, cond_true, zite_v]
  grind
/-- 'where' -/
theorem Q23 (d : Nat) (x1 x2 : Int32) (u : zV) (M : zM) (h : Rstep M) : ∃ (y : Int32) (M2 : zM), zgo false (d + 3) 153 0 [zr 12 0, zi x1, zi x2] [] M = some (some (zi y), M) ∧ zgo false (d + 3) 286 0 [zr 13 0, zi x1, zi x2, u] [] M = some (some (zi y), M2) ∧ zFr (Nat.beq 32) M M2 := by
  obtain ⟨N, s, hs⟩ := ySt_of h
  by_cases h1 : 2 ≤ x1 ∧ x1 ≤ 416
  case neg =>
    refine ⟨-1, M, ?_, ?_, zFr_refl _ M⟩
    · simp +decide only [B153_0, B153_4, B153_25, B153_28, B153_29, S180, h1, zbsome, zpu1, zpu0, cond_true, cond_false, zib0, zib1, zib_ite, zq00, zq20, zq22, zq90, zq99, zq40, zq44, zq100, zq1010, Bool.and_true, if_true, if_false, z1ne0, not_true_eq_false, not_false_eq_true, zite10, eq_self, and_true, true_and, and_false, false_and, ↓reduceIte, Int32.reduceLT, Int32.reduceLE, Int32.reduceAdd, Int32.reduceSub, Int32.reduceMul]
    · simp +decide only [B286_0, B286_8, B286_19, B286_22, B286_29, S_in, h1, zbsome, zpu1, zpu0, cond_true, cond_false, zib0, zib1, zib_ite, zq00, zq20, zq22, zq90, zq99, zq40, zq44, zq100, zq1010, Bool.and_true, if_true, if_false, z1ne0, not_true_eq_false, not_false_eq_true, zite10, eq_self, and_true, true_and, and_false, false_and, ↓reduceIte, Int32.reduceLT, Int32.reduceLE, Int32.reduceAdd, Int32.reduceSub, Int32.reduceMul]
  obtain ⟨n, hn, rfl⟩ := yPile h1
  by_cases h2 : 0 ≤ x2 ∧ x2 ≤ nI n - 1
  case neg =>
    refine ⟨-1, M, ?_, ?_, zFr_refl _ M⟩
    · by_cases c : x2 < 0
      · simp +decide only [B153_0, B153_4, B153_25, B153_28, B153_29, S180, h1, c, zbsome, zpu1, zpu0, cond_true, cond_false, zib0, zib1, zib_ite, zq00, zq20, zq22, zq90, zq99, zq40, zq44, zq100, zq1010, Bool.and_true, if_true, if_false, z1ne0, not_true_eq_false, not_false_eq_true, zite10, eq_self, and_true, true_and, and_false, false_and, ↓reduceIte, Int32.reduceLT, Int32.reduceLE, Int32.reduceAdd, Int32.reduceSub, Int32.reduceMul]
      · have c2 : nI n ≤ x2 := by
          have : 2 ≤ nI n := h1.1
          grind
        simp +decide only [B153_0, B153_4, B153_25, B153_28, B153_29, S180, h1, c, c2, zbsome, zpu1, zpu0, cond_true, cond_false, zib0, zib1, zib_ite, zq00, zq20, zq22, zq90, zq99, zq40, zq44, zq100, zq1010, Bool.and_true, if_true, if_false, z1ne0, not_true_eq_false, not_false_eq_true, zite10, eq_self, and_true, true_and, and_false, false_and, ↓reduceIte, Int32.reduceLT, Int32.reduceLE, Int32.reduceAdd, Int32.reduceSub, Int32.reduceMul]
    · simp +decide only [B286_0, B286_8, B286_19, B286_22, B286_29, S_in, h1, h2, zbsome, zpu1, zpu0, cond_true, cond_false, zib0, zib1, zib_ite, zq00, zq20, zq22, zq90, zq99, zq40, zq44, zq100, zq1010, Bool.and_true, if_true, if_false, z1ne0, not_true_eq_false, not_false_eq_true, zite10, eq_self, and_true, true_and, and_false, false_and, ↓reduceIte, Int32.reduceLT, Int32.reduceLE, Int32.reduceAdd, Int32.reduceSub, Int32.reduceMul]
  have c0 : ¬ x2 < 0 := z_le_nlt h2.1
  have c2 : ¬ nI n ≤ x2 := by
    have h3 : 2 ≤ nI n := h1.1
    have h4 := h2.2
    grind
  obtain ⟨c, hc, rfl⟩ := zin_of (zin512.mpr ⟨h2.1, by
    have h3 : nI n ≤ 416 := h1.2
    grind⟩ : zin x2 512 = true)
  have hcn : c < n := by
    have := z_nle_lt c2
    rw [nI_ltI (by omega) (by omega)] at this
    exact this
  obtain ⟨M', e, f, o⟩ := S285 (d + 1) n zu zu zu hn M hs
  refine ⟨nI (yF s n N c), M', ?_, ?_, zFr_of f (fun k i s q => by obtain ⟨rfl | rfl, rfl⟩ := q <;> rfl)⟩
  · simp +decide only [B153_0, B153_4, B153_25, B153_28, B153_29, S180, h1, c0, c2, S54 _ _ _ _ _ _ hn hcn hs, zbsome, zpu1, zpu0, cond_true, cond_false, zib0, zib1, zib_ite, zq00, zq20, zq22, zq90, zq99, zq40, zq44, zq100, zq1010, Bool.and_true, if_true, if_false, z1ne0, not_true_eq_false, not_false_eq_true, zite10, eq_self, and_true, true_and, and_false, false_and, ↓reduceIte, Int32.reduceLT, Int32.reduceLE, Int32.reduceAdd, Int32.reduceSub, Int32.reduceMul]
  · simp +decide only [B286_0, B286_8, B286_19, B286_22, B286_29, S_in, h1, h2, e, zbsome, zpu1, zpu0, cond_true, cond_false, zib0, zib1, zib_ite, zq00, zq20, zq22, zq90, zq99, zq40, zq44, zq100, zq1010, Bool.and_true, if_true, if_false, z1ne0, not_true_eq_false, not_false_eq_true, zite10, eq_self, and_true, true_and, and_false, false_and, ↓reduceIte, Int32.reduceLT, Int32.reduceLE, Int32.reduceAdd, Int32.reduceSub, Int32.reduceMul]
    exact L286 _ n c (yF s n N c) 0 hn hcn M' o rfl (yF s n N c) 0 (by omega)
