/-! ===== lumps: where a card comes to ===== -/
def yrf (n k q : Nat) : Nat := if q < (n + 1) / 2 then q + min (q / k * k) (n - (n + 1) / 2) else q - (n + 1) / 2 + min (((q - (n + 1) / 2) / k + 1) * k) ((n + 1) / 2)
def ylf (n k q : Nat) : Nat := if q < min k n then q + n - min k n else q - min k n
theorem ydv {q k t : Nat} (h1 : t * k ≤ q) (h2 : q < (t + 1) * k) : q / k = t := Nat.div_eq_of_lt_le h1 h2
theorem yrf_lo {n k t q : Nat} (h1 : t * k ≤ q) (h2 : q < (t + 1) * k) (hq : q < (n + 1) / 2) : yrf n k q = q + min (t * k) (n - (n + 1) / 2) := by
  unfold yrf
  rw [if_pos hq, ydv h1 h2]
theorem yrf_hi {n k t q : Nat} (h1 : t * k ≤ q - (n + 1) / 2) (h2 : q - (n + 1) / 2 < (t + 1) * k) (hq : (n + 1) / 2 ≤ q) : yrf n k q = q - (n + 1) / 2 + min ((t + 1) * k) ((n + 1) / 2) := by
  unfold yrf
  rw [if_neg (by omega), ydv h1 h2]
theorem La284 (d n p h b : Nat) (hp : p ≤ 9) (hn : n ≤ 416) (hh : h ≤ n) : ∀ (j k a w : Nat) (M : zM), k + j = p → a ≤ h → w + (h - a) ≤ n → ∃ (M' : zM) (x : Int32), zgo false d 284 24 [zr 13 0, zi (nI n), zi (nI p), zi (nI h), zi (nI a), zi (nI b), zi (nI w), zi (nI k)] [] M = zgo false d 284 62 [zr 13 0, zi (nI n), zi (nI p), zi (nI h), zi (nI (a + min j (h - a))), zi (nI b), zi (nI (w + min j (h - a))), zi x] [] M' ∧ zFo (fun k i _ => k = 107 ∧ i = 0) M M' ∧ ∀ t, zgI M' 107 0 t = if w ≤ t ∧ t < w + min j (h - a) then zgI M 106 0 (a + (t - w)) else zgI M 107 0 t
  | 0, k, a, w, M, hk, ha, hw => by
    refine ⟨M, nI k, ?_, zFo_refl _ M, fun t => by rw [if_neg (by omega)]⟩
    rw [B284_24, if_pos (nI_le (by omega) (by omega)), Nat.zero_min]
    rfl
  | j + 1, k, a, w, M, hk, ha, hw => by
    by_cases e : a = h
    · refine ⟨M, nI k, ?_, zFo_refl _ M, fun t => by rw [if_neg (by omega)]⟩
      rw [B284_24, if_neg (nI_ge (by omega) (by omega)), if_pos (nI_le (by omega) (by omega)), show min (j + 1) (h - a) = 0 by omega]
      rfl
    · obtain ⟨M', x, e1, f, v⟩ := La284 d n p h b hp hn hh j (k + 1) (a + 1) (w + 1) (zsI M 107 0 w (zgI M 106 0 a)) (by omega) (by omega) (by omega)
      refine ⟨M', x, ?_, zFo_trans (zFo_sI (zFo_refl _ M) ⟨rfl, rfl⟩) f, fun t => ?_⟩
      · rw [B284_24, if_neg (nI_ge (by omega) (by omega)), if_neg (nI_ge (by omega) (by omega)), if_pos (zin_nI (by omega) (by omega)), if_pos (zin_nI (by omega) (by omega)), nI_clamp (by omega), nI_clamp (by omega), B284_50, nI_1, nI_1, nI_1, e1, show a + 1 + min j (h - (a + 1)) = a + min (j + 1) (h - a) by omega, show w + 1 + min j (h - (a + 1)) = w + min (j + 1) (h - a) by omega]
      · rw [v t]
        by_cases q : w + 1 ≤ t ∧ t < w + 1 + min j (h - (a + 1))
        · rw [if_pos q, if_pos (by omega), zgI_sI, if_neg (by omega)]
          congr 1
          omega
        · rw [if_neg q, zgI_sI]
          by_cases r : t = w
          · rw [if_pos ⟨rfl, rfl, r⟩, if_pos (by omega)]
            congr 1
            omega
          · rw [if_neg (by omega), if_neg (by omega)]
theorem Lb284 (d n p h a : Nat) (hp : p ≤ 9) (hn : n ≤ 416) (hh : h ≤ n) : ∀ (j k b w : Nat) (M : zM), k + j = p → b ≤ n → w + (n - b) ≤ n → ∃ (M' : zM) (x : Int32), zgo false d 284 65 [zr 13 0, zi (nI n), zi (nI p), zi (nI h), zi (nI a), zi (nI b), zi (nI w), zi (nI k)] [] M = zgo false d 284 103 [zr 13 0, zi (nI n), zi (nI p), zi (nI h), zi (nI a), zi (nI (b + min j (n - b))), zi (nI (w + min j (n - b))), zi x] [] M' ∧ zFo (fun k i _ => k = 107 ∧ i = 0) M M' ∧ ∀ t, zgI M' 107 0 t = if w ≤ t ∧ t < w + min j (n - b) then zgI M 106 0 (b + (t - w)) else zgI M 107 0 t
  | 0, k, b, w, M, hk, ha, hw => by
    refine ⟨M, nI k, ?_, zFo_refl _ M, fun t => by rw [if_neg (by omega)]⟩
    rw [B284_65, if_pos (nI_le (by omega) (by omega)), Nat.zero_min]
    rfl
  | j + 1, k, b, w, M, hk, ha, hw => by
    by_cases e : b = n
    · refine ⟨M, nI k, ?_, zFo_refl _ M, fun t => by rw [if_neg (by omega)]⟩
      rw [B284_65, if_neg (nI_ge (by omega) (by omega)), if_pos (nI_le (by omega) (by omega)), show min (j + 1) (n - b) = 0 by omega]
      rfl
    · obtain ⟨M', x, e1, f, v⟩ := Lb284 d n p h a hp hn hh j (k + 1) (b + 1) (w + 1) (zsI M 107 0 w (zgI M 106 0 b)) (by omega) (by omega) (by omega)
      refine ⟨M', x, ?_, zFo_trans (zFo_sI (zFo_refl _ M) ⟨rfl, rfl⟩) f, fun t => ?_⟩
      · rw [B284_65, if_neg (nI_ge (by omega) (by omega)), if_neg (nI_ge (by omega) (by omega)), if_pos (zin_nI (by omega) (by omega)), if_pos (zin_nI (by omega) (by omega)), nI_clamp (by omega), nI_clamp (by omega), B284_91, nI_1, nI_1, nI_1, e1, show b + 1 + min j (n - (b + 1)) = b + min (j + 1) (n - b) by omega, show w + 1 + min j (n - (b + 1)) = w + min (j + 1) (n - b) by omega]
      · rw [v t]
        by_cases q : w + 1 ≤ t ∧ t < w + 1 + min j (n - (b + 1))
        · rw [if_pos q, if_pos (by omega), zgI_sI, if_neg (by omega)]
          congr 1
          omega
        · rw [if_neg q, zgI_sI]
          by_cases r : t = w
          · rw [if_pos ⟨rfl, rfl, r⟩, if_pos (by omega)]
            congr 1
            omega
          · rw [if_neg (by omega), if_neg (by omega)]
theorem L284 (d n p : Nat) (hp : 1 ≤ p ∧ p ≤ 9) (hn : 2 ≤ n ∧ n ≤ 416) : ∀ (f t a b : Nat) (M : zM) (x7 : zV), a = min (t * p) ((n + 1) / 2) → b = (n + 1) / 2 + min (t * p) (n - (n + 1) / 2) → n - (a + (b - (n + 1) / 2)) ≤ f → (∀ q, (q < a ∨ ((n + 1) / 2 ≤ q ∧ q < b)) → zgI M 107 0 (yrf n p q) = zgI M 106 0 q) → (∀ w, w < a + (b - (n + 1) / 2) → ∃ q, (q < a ∨ ((n + 1) / 2 ≤ q ∧ q < b)) ∧ yrf n p q = w) → ∃ M', zgo false d 284 15 [zr 13 0, zi (nI n), zi (nI p), zi (nI ((n + 1) / 2)), zi (nI a), zi (nI b), zi (nI (a + (b - (n + 1) / 2))), x7] [] M = some (none, M') ∧ zFo (fun k i _ => k = 107 ∧ i = 0) M M' ∧ (∀ q, q < n → zgI M' 107 0 (yrf n p q) = zgI M 106 0 q) ∧ ∀ w, w < n → ∃ q, q < n ∧ yrf n p q = w := by
  intro f
  induction f with
  | zero =>
    intro t a b M x7 ha hb hf h1 h2
    refine ⟨M, ?_, zFo_refl _ M, fun q hq => h1 q (by omega), fun w hw => ?_⟩
    · rw [B284_15, if_pos (nI_le (by omega) (by omega))]
    · obtain ⟨q, q1, q2⟩ := h2 w (by omega)
      exact ⟨q, by omega, q2⟩
  | succ f ih =>
    intro t a b M x7 ha hb hf h1 h2
    by_cases e : n ≤ a + (b - (n + 1) / 2)
    · refine ⟨M, ?_, zFo_refl _ M, fun q hq => h1 q (by omega), fun w hw => ?_⟩
      · rw [B284_15, if_pos (nI_le (by omega) (by omega))]
      · obtain ⟨q, q1, q2⟩ := h2 w (by omega)
        exact ⟨q, by omega, q2⟩
    have et : (t + 1) * p = t * p + p := Nat.succ_mul t p
    obtain ⟨M1, x, e1, f1, v1⟩ := La284 d n p ((n + 1) / 2) b hp.2 hn.2 (by omega) p 0 a (a + (b - (n + 1) / 2)) M (by omega) (by omega) (by omega)
    obtain ⟨M2, y, e2, f2, v2⟩ := Lb284 d n p ((n + 1) / 2) (a + min p ((n + 1) / 2 - a)) hp.2 hn.2 (by omega) p 0 b (a + (b - (n + 1) / 2) + min p ((n + 1) / 2 - a)) M1 (by omega) (by omega) (by omega)
    have a1 : a + min p ((n + 1) / 2 - a) = min ((t + 1) * p) ((n + 1) / 2) := by omega
    have b1 : b + min p (n - b) = (n + 1) / 2 + min ((t + 1) * p) (n - (n + 1) / 2) := by omega
    have g106 : ∀ s, zgI M2 106 0 s = zgI M 106 0 s := fun s => ((f2 106 0 s (by omega)).1).trans (f1 106 0 s (by omega)).1
    have g106' : ∀ s, zgI M1 106 0 s = zgI M 106 0 s := fun s => (f1 106 0 s (by omega)).1
    -- where the new ones come to
    have new1 : ∀ q, a ≤ q → q < a + min p ((n + 1) / 2 - a) → yrf n p q = a + (b - (n + 1) / 2) + (q - a) := fun q q1 q2 => by
      rw [yrf_lo (t := t) (by omega) (by omega) (by omega)]
      omega
    have new2 : ∀ q, b ≤ q → q < b + min p (n - b) → yrf n p q = a + (b - (n + 1) / 2) + min p ((n + 1) / 2 - a) + (q - b) := fun q q1 q2 => by
      rw [yrf_hi (t := t) (by omega) (by omega) (by omega)]
      omega
    have old : ∀ w, w < a + (b - (n + 1) / 2) → zgI M2 107 0 w = zgI M 107 0 w := fun w hw => by
      rw [v2 w, if_neg (by omega), v1 w, if_neg (by omega)]
    obtain ⟨M', e3, f3, v3, v4⟩ := ih (t + 1) (a + min p ((n + 1) / 2 - a)) (b + min p (n - b)) M2 (zi y) a1 b1 (by omega) (fun q hq => by
      rw [g106]
      by_cases c1 : q < a
      · obtain h := h1 q (Or.inl c1)
        have hlt : yrf n p q < a + (b - (n + 1) / 2) := by
          have hd := Nat.div_add_mod q p
          have hm := Nat.mod_lt q (show 0 < p by omega)
          have : q / p * p ≤ q := Nat.div_mul_le_self q p
          have hq2 : q / p * p ≤ t * p := by
            apply Nat.mul_le_mul_right
            have : q < (t + 1) * p := by omega
            exact Nat.lt_succ_iff.mp ((Nat.div_lt_iff_lt_mul (by omega)).mpr this)
          unfold yrf
          rw [if_pos (by omega)]
          omega
        rw [old _ hlt]
        exact h
      by_cases c2 : q < a + min p ((n + 1) / 2 - a)
      · rw [new1 q (by omega) c2, v2, if_neg (by omega), v1, if_pos (by omega)]
        congr 1
        omega
      by_cases c3 : q < b
      · obtain h := h1 q (Or.inr (by omega))
        have hlt : yrf n p q < a + (b - (n + 1) / 2) := by
          have ht : q - (n + 1) / 2 < t * p := by omega
          have hq2 : ((q - (n + 1) / 2) / p + 1) * p ≤ t * p := by
            apply Nat.mul_le_mul_right
            exact (Nat.div_lt_iff_lt_mul (by omega)).mpr ht
          unfold yrf
          rw [if_neg (by omega)]
          omega
        rw [old _ hlt]
        exact h
      · rw [new2 q (by omega) (by omega), v2, if_pos (by omega), g106']
        congr 1
        omega) (fun w hw => by
      by_cases c1 : w < a + (b - (n + 1) / 2)
      · obtain ⟨q, q1, q2⟩ := h2 w c1
        exact ⟨q, by omega, q2⟩
      by_cases c2 : w < a + (b - (n + 1) / 2) + min p ((n + 1) / 2 - a)
      · refine ⟨a + (w - (a + (b - (n + 1) / 2))), by omega, ?_⟩
        rw [new1 _ (by omega) (by omega)]
        omega
      · refine ⟨b + (w - (a + (b - (n + 1) / 2) + min p ((n + 1) / 2 - a))), by omega, ?_⟩
        rw [new2 _ (by omega) (by omega)]
        omega)
    refine ⟨M', ?_, zFo_trans f1 (zFo_trans f2 f3), fun q hq => by rw [v3 q hq, g106], v4⟩
    rw [B284_15, if_neg (nI_ge (by omega) (by omega)), show (0 : Int32) = nI 0 from rfl, e1, B284_62, show (0 : Int32) = nI 0 from rfl, e2, B284_103]
    rw [show a + min p ((n + 1) / 2 - a) + (b + min p (n - b) - (n + 1) / 2) = a + (b - (n + 1) / 2) + min p ((n + 1) / 2 - a) + min p (n - b) by omega] at e3
    exact e3
