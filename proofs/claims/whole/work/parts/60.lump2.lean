/-! ===== lumps, two: the class's way of a card, the model's order ===== -/
def yst (s n q : Nat) : Nat := if s < 10 then yrf n s q else ylf n (s - 10) q
def yF (s : Nat → Nat) (n : Nat) : Nat → Nat → Nat
  | 0, c => c
  | k + 1, c => yst (s k) n (yF s n k c)
theorem yrf_lt {n k q : Nat} (hn : 2 ≤ n) (hq : q < n) : yrf n k q < n := by
  unfold yrf
  by_cases h : q < (n + 1) / 2
  · rw [if_pos h]; omega
  · rw [if_neg h]; omega
theorem ylf_lt {n k q : Nat} (hq : q < n) : ylf n k q < n := by
  unfold ylf
  by_cases h : q < min k n
  · rw [if_pos h]; omega
  · rw [if_neg h]; omega
theorem yst_lt {s n q : Nat} (hn : 2 ≤ n) (hq : q < n) : yst s n q < n := by
  unfold yst
  by_cases h : s < 10
  · rw [if_pos h]; exact yrf_lt hn hq
  · rw [if_neg h]; exact ylf_lt hq
theorem yF_lt {s : Nat → Nat} {n : Nat} (hn : 2 ≤ n) {q : Nat} (hq : q < n) : ∀ k, yF s n k q < n
  | 0 => hq
  | k + 1 => yst_lt hn (yF_lt hn hq k)
theorem ymn (a b : Nat) (ha : a < 2 ^ 31) (hb : b < 2 ^ 31) : (if nI a < nI b then nI a else nI b) = nI (min a b) := by
  by_cases h : a < b
  · rw [if_pos (nI_lt h hb), Nat.min_eq_left (by omega)]
  · rw [if_neg (nI_nlt (by omega) (by omega)), Nat.min_eq_right (by omega)]
theorem ymx (a b : Nat) (ha : a < 2 ^ 31) (hb : b < 2 ^ 31) : (if nI a < nI b then nI b else nI a) = nI (max a b) := by
  by_cases h : a < b
  · rw [if_pos (nI_lt h hb), Nat.max_eq_right (by omega)]
  · rw [if_neg (nI_nlt (by omega) (by omega)), Nat.max_eq_left (by omega)]
theorem S56 (d n q k : Nat) (u v : zV) (M : zM) (hn : 2 ≤ n ∧ n ≤ 416) (hq : q < n) (hk : 1 ≤ k ∧ k ≤ 9) : zgo false d 56 0 [zi (nI n), zi (nI q), zi (nI k), u, v] [] M = some (some (zi (nI (yrf n k q))), M) := by
  have a1 : (1 : Int32) ≤ nI k := nI_le (a := 1) (by omega) (by omega)
  have a2 : (nI n + 1) / 2 = nI ((n + 1) / 2) := by rw [nI_1, show (2 : Int32) = nI 2 from rfl, pk_div (by omega) (by omega) (by omega)]
  have a3 : ¬ (2 : Int32) = 0 := by decide
  have a4 : ¬ nI k = 0 := nI_ne0 (by omega) (by omega)
  have hd : q / k * k ≤ q := Nat.div_mul_le_self q k
  have hd2 : (q - (n + 1) / 2) / k * k ≤ q - (n + 1) / 2 := Nat.div_mul_le_self _ k
  rw [B56_0, if_pos a1, if_neg a3, a2]
  unfold yrf
  by_cases h : q < (n + 1) / 2
  · rw [if_neg (nI_ge h (by omega)), if_neg a4, if_pos h, pk_div (by omega) (by omega) (by omega), pk_mul, pk_sub (by omega)]
    have e : (if nI (n - (n + 1) / 2) < nI (q / k * k) then nI (n - (n + 1) / 2) else nI (q / k * k)) = nI (min (q / k * k) (n - (n + 1) / 2)) := by rw [ymn _ _ (by omega) (by omega), Nat.min_comm]
    rw [e, nI_add]
  · have e2 : ((q - (n + 1) / 2) / k + 1) * k = (q - (n + 1) / 2) / k * k + k := Nat.succ_mul _ _
    rw [if_pos (nI_le (by omega) (by omega)), if_neg h, pk_sub (by omega), B56_37, if_neg a4, pk_div (by omega) (by omega) (by omega), nI_1, pk_mul]
    have e : (if nI ((n + 1) / 2) < nI (((q - (n + 1) / 2) / k + 1) * k) then nI ((n + 1) / 2) else nI (((q - (n + 1) / 2) / k + 1) * k)) = nI (min (((q - (n + 1) / 2) / k + 1) * k) ((n + 1) / 2)) := by rw [ymn _ _ (by omega) (by omega), Nat.min_comm]
    rw [e, nI_add]
theorem S57 (d n q k : Nat) (u : zV) (M : zM) (hn : 2 ≤ n ∧ n ≤ 416) (hq : q < n) (hk : k ≤ 49) : zgo false d 57 0 [zi (nI n), zi (nI q), zi (nI k), u] [] M = some (some (zi (nI (ylf n k q))), M) := by
  have e : (if nI n < nI k then nI n else nI k) = nI (min k n) := by rw [ymn _ _ (by omega) (by omega), Nat.min_comm]
  rw [B57_0, e]
  unfold ylf
  by_cases h : q < min k n
  · rw [if_neg (nI_ge h (by omega)), if_pos h, B57_22, nI_add, pk_sub (by omega)]
  · rw [if_pos (nI_le (by omega) (by omega)), if_neg h, B57_22, pk_sub (by omega)]
/-- the steps told, as numbers -/
def ySt (A B : zM) (N : Nat) (s : Nat → Nat) : Prop := N ≤ 12 ∧ zgI A 6 0 1 = nI N ∧ zgI B 13 0 83 = nI N ∧ ∀ k, k < N → zgI A 32 0 k = nI (s k) ∧ zgI B 105 0 k = nI (s k) ∧ 1 ≤ s k ∧ s k ≤ 59 ∧ s k ≠ 10
theorem ySt_of {M : zM} (h : Rstep M) : ∃ N s, ySt M M N s := by
  obtain ⟨h1, h2, h3⟩ := h
  obtain ⟨N, hN, e⟩ := zin_of (zin_iff.mpr ⟨h2.1, (by omega : (zgI M 13 0 83).toInt < ((13 : Nat) : Int))⟩)
  have e' : (zgI M 13 0 83).toInt = N := by rw [e, nI_toInt (by omega)]
  refine ⟨N, fun k => (zgI M 105 0 k).toNatClampNeg, by omega, by rw [h1, e], e, fun k hk => ?_⟩
  obtain ⟨g1, g2, g3, g4⟩ := h3 k (by omega)
  have c := zclamp (x := zgI M 105 0 k) (by omega)
  have e5 : zgI M 105 0 k = nI (zgI M 105 0 k).toNatClampNeg := by
    apply Int32.toInt_inj.mp
    rw [nI_toInt (by omega)]
    omega
  exact ⟨g1.trans e5, e5, by dsimp only; omega, by dsimp only; omega, by dsimp only; omega⟩
theorem L54 (d n c : Nat) (hn : 2 ≤ n ∧ n ≤ 416) (hc : c < n) (u5 : zV) {A B : zM} {N : Nat} {s : Nat → Nat} (h : ySt A B N s) : ∀ (j k : Nat) (x2 : Int32) (u5 : zV), k + j = N → zgo false (d + 1) 54 5 [zr 6 0, zi (nI n), zi x2, zi (nI (yF s n k c)), zi (nI k), u5] [] A = some (some (zi (nI (yF s n N c))), A)
  | 0, k, x2, u5, hk => by
    have hk : k = N := by omega
    subst hk
    have := h.1
    rw [B54_5, h.2.1, if_pos (nI_le (by omega) (by omega))]
  | j + 1, k, x2, u5, hk => by
    have h1 := h.1
    obtain ⟨g1, g2, g3, g4, g5⟩ := h.2.2.2 k (by omega)
    have hl := yF_lt (s := s) hn.1 hc k
    have ih := L54 d n c hn hc u5 h j (k + 1) x2 (zi (nI (s k))) (by omega)
    rw [B54_5, h.2.1, if_neg (nI_ge (by omega) (by omega)), at32n _ _ _ _ _ (by omega), g1]
    by_cases q : s k < 10
    · have q1 : ¬ (10 : Int32) ≤ nI (s k) := nI_ge (b := 10) q (by omega)
      have e : yF s n (k + 1) c = yrf n (s k) (yF s n k c) := by
        show yst _ _ _ = _
        unfold yst
        rw [if_pos q]
      rw [e] at ih
      simp +decide only [B54_23, B54_39, B54_52, q1, S56 _ _ _ _ _ _ _ hn hl (show 1 ≤ s k ∧ s k ≤ 9 by omega), nI_1, zbsome, zpu1, zpu0, cond_true, cond_false, zib0, zib1, zib_ite, zq00, zq20, zq22, zq90, zq99, zq40, zq44, zq100, zq1010, Bool.and_true, if_true, if_false, z1ne0, not_true_eq_false, not_false_eq_true, zite10, eq_self, and_true, true_and, and_false, false_and, ↓reduceIte, Int32.reduceLT, Int32.reduceLE, Int32.reduceAdd, Int32.reduceSub, Int32.reduceMul]
      exact ih
    · have q1 : (10 : Int32) ≤ nI (s k) := nI_le (a := 10) (by omega) (by omega)
      have e : yF s n (k + 1) c = ylf n (s k - 10) (yF s n k c) := by
        show yst _ _ _ = _
        unfold yst
        rw [if_neg q]
      rw [e] at ih
      have e10 : nI (s k) - 10 = nI (s k - 10) := by rw [show (10 : Int32) = nI 10 from rfl, pk_sub (by omega)]
      simp +decide only [B54_23, B54_52, q1, e10, S57 _ _ _ _ _ _ hn hl (show s k - 10 ≤ 49 by omega), nI_1, zbsome, zpu1, zpu0, cond_true, cond_false, zib0, zib1, zib_ite, zq00, zq20, zq22, zq90, zq99, zq40, zq44, zq100, zq1010, Bool.and_true, if_true, if_false, z1ne0, not_true_eq_false, not_false_eq_true, zite10, eq_self, and_true, true_and, and_false, false_and, ↓reduceIte, Int32.reduceLT, Int32.reduceLE, Int32.reduceAdd, Int32.reduceSub, Int32.reduceMul]
      exact ih
theorem S54 (d n c : Nat) (u3 u4 u5 : zV) (hn : 2 ≤ n ∧ n ≤ 416) (hc : c < n) {A B : zM} {N : Nat} {s : Nat → Nat} (h : ySt A B N s) : zgo false (d + 1) 54 0 [zr 6 0, zi (nI n), zi (nI c), u3, u4, u5] [] A = some (some (zi (nI (yF s n N c))), A) := by
  rw [B54_0]
  exact L54 d n c hn hc u5 h N 0 (nI c) u5 (by omega)
/-! the model's order -/
theorem L285i (d n : Nat) (hn : n ≤ 416) (u3 u4 : zV) : ∀ (j k : Nat) (M : zM), k + j = n → ∃ M', zgo false d 285 2 [zr 13 0, zi (nI n), zi (nI k), u3, u4] [] M = zgo false d 285 22 [zr 13 0, zi (nI n), zi 0, u3, u4] [] M' ∧ zFo (fun k i _ => k = 106 ∧ i = 0) M M' ∧ ∀ t, t < n → zgI M' 106 0 t = if k ≤ t then nI t else zgI M 106 0 t
  | 0, k, M, hk => by
    have hk : k = n := by omega
    subst hk
    refine ⟨M, ?_, zFo_refl _ M, fun t ht => by rw [if_neg (by omega)]⟩
    rw [B285_2, if_pos (nI_le (by omega) (by omega))]
  | j + 1, k, M, hk => by
    obtain ⟨M', e, f, v⟩ := L285i d n hn u3 u4 j (k + 1) (zsI M 106 0 k (nI k)) (by omega)
    refine ⟨M', ?_, zFo_trans (zFo_sI (zFo_refl _ M) ⟨rfl, rfl⟩) f, fun t ht => ?_⟩
    · rw [B285_2, if_neg (nI_ge (by omega) (by omega)), if_pos (zin_nI (by omega) (by omega)), nI_clamp (by omega), nI_1]
      exact e
    · rw [v t ht, zgI_sI]
      by_cases q : t = k
      · subst q
        rw [if_neg (by omega), if_pos ⟨rfl, rfl, rfl⟩, if_pos (by omega)]
      · rw [if_neg (show ¬ (106 = 106 ∧ 0 = 0 ∧ t = k) by omega)]
        by_cases r : k + 1 ≤ t
        · rw [if_pos r, if_pos (by omega)]
        · rw [if_neg r, if_neg (by omega)]
theorem L285r (d n m : Nat) (hn : 2 ≤ n ∧ n ≤ 416) (hm : m ≤ n) (x2 : Int32) : ∀ (j k : Nat) (M : zM), k + j = n → ∃ M' u4, zgo false d 285 85 [zr 13 0, zi (nI n), zi x2, zi (nI m), zi (nI k)] [] M = zgo false d 285 115 [zr 13 0, zi (nI n), zi x2, zi (nI m), u4] [] M' ∧ zFo (fun k i _ => k = 107 ∧ i = 0) M M' ∧ ∀ t, t < n → zgI M' 107 0 t = if k ≤ t then zgI M 106 0 ((t + m) % n) else zgI M 107 0 t
  | 0, k, M, hk => by
    have hk : k = n := by omega
    subst hk
    refine ⟨M, zi (nI k), ?_, zFo_refl _ M, fun t ht => by rw [if_neg (by omega)]⟩
    rw [B285_85, if_pos (nI_le (by omega) (by omega))]
  | j + 1, k, M, hk => by
    have hlt : (k + m) % n < n := Nat.mod_lt _ (by omega)
    obtain ⟨M', u4, e, f, v⟩ := L285r d n m hn hm x2 j (k + 1) (zsI M 107 0 k (zgI M 106 0 ((k + m) % n))) (by omega)
    refine ⟨M', u4, ?_, zFo_trans (zFo_sI (zFo_refl _ M) ⟨rfl, rfl⟩) f, fun t ht => ?_⟩
    · rw [B285_85, if_neg (nI_ge (by omega) (by omega)), if_neg (nI_ne0 (by omega) (by omega)), nI_add, pk_rem (by omega) (by omega) (by omega), if_pos (zin_nI (by omega) (by omega)), if_pos (zin_nI (by omega) (by omega)), nI_clamp (by omega), nI_clamp (by omega), B285_109, nI_1]
      exact e
    · have e1 : zgI (zsI M 107 0 k (zgI M 106 0 ((k + m) % n))) 107 0 t = if t = k then zgI M 106 0 ((k + m) % n) else zgI M 107 0 t := by simp [zgI_sI]
      have e2 : ∀ s, zgI (zsI M 107 0 k (zgI M 106 0 ((k + m) % n))) 106 0 s = zgI M 106 0 s := fun _ => rfl
      rw [v t ht, e1, e2]
      by_cases q : t = k
      · subst q
        rw [if_neg (by omega), if_pos rfl, if_pos (by omega)]
      · rw [if_neg q]
        by_cases r : k + 1 ≤ t
        · rw [if_pos r, if_pos (by omega)]
        · rw [if_neg r, if_neg (by omega)]
theorem L285c (d n : Nat) (hn : n ≤ 416) (x2 : Int32) (u4 : zV) : ∀ (j k : Nat) (M : zM), k + j = n → ∃ M' x3, zgo false d 285 117 [zr 13 0, zi (nI n), zi x2, zi (nI k), u4] [] M = zgo false d 285 22 [zr 13 0, zi (nI n), zi (x2 + 1), x3, u4] [] M' ∧ zFo (fun k i _ => k = 106 ∧ i = 0) M M' ∧ ∀ t, t < n → zgI M' 106 0 t = if k ≤ t then zgI M 107 0 t else zgI M 106 0 t
  | 0, k, M, hk => by
    have hk : k = n := by omega
    subst hk
    refine ⟨M, zi (nI k), ?_, zFo_refl _ M, fun t ht => by rw [if_neg (by omega)]⟩
    rw [B285_117, if_pos (nI_le (by omega) (by omega))]
  | j + 1, k, M, hk => by
    obtain ⟨M', x3, e, f, v⟩ := L285c d n hn x2 u4 j (k + 1) (zsI M 106 0 k (zgI M 107 0 k)) (by omega)
    refine ⟨M', x3, ?_, zFo_trans (zFo_sI (zFo_refl _ M) ⟨rfl, rfl⟩) f, fun t ht => ?_⟩
    · rw [B285_117, if_neg (nI_ge (by omega) (by omega)), if_pos (zin_nI (by omega) (by omega)), if_pos (zin_nI (by omega) (by omega)), nI_clamp (by omega), nI_1]
      exact e
    · have e1 : zgI (zsI M 106 0 k (zgI M 107 0 k)) 106 0 t = if t = k then zgI M 107 0 k else zgI M 106 0 t := by simp [zgI_sI]
      have e2 : ∀ s, zgI (zsI M 106 0 k (zgI M 107 0 k)) 107 0 s = zgI M 107 0 s := fun _ => rfl
      rw [v t ht, e1, e2]
      by_cases q : t = k
      · subst q
        rw [if_neg (by omega), if_pos rfl, if_pos (by omega)]
      · rw [if_neg q]
        by_cases r : k + 1 ≤ t
        · rw [if_pos r, if_pos (by omega)]
        · rw [if_neg r, if_neg (by omega)]
