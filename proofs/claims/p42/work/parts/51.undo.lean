/-! ===== undone, done again ===== -/
theorem S_bodyC (d n p : Nat) (M : zM) (h : zgI M 12 0 12 = nI n) (hn : n ≤ 10) (hp : p < n) : zgo false d 181 0 [zr 12 0, zi (nI p)] [] M = some (some (zr 2 p), M) := by
  have a1 : ¬ nI p < 0 := nI_pos (by omega)
  have a2 : ¬ nI n ≤ nI p := nI_ge hp (by omega)
  have a3 : ¬ (10 : Int32) ≤ nI p := nI_ge (a := p) (b := 10) (by omega) (by omega)
  have a4 : zin (nI p) 10 = true := zin_nI (by omega) (by omega)
  have a5 : (nI p).toNatClampNeg = p := nI_clamp (by omega)
  simp +decide only [B181_0, B181_30, B181_31, h, a1, a2, a3, a4, a5, zbsome, zpu1, zpu0, cond_true, cond_false, zib0, zib1, zib_ite, zq00, zq20, zq22, zq90, zq99, zq40, zq44, zq100, zq1010, Bool.and_true, if_true, if_false, z1ne0, not_true_eq_false, not_false_eq_true, zite10, eq_self, and_true, true_and, and_false, false_and, ↓reduceIte, Int32.reduceLT, Int32.reduceLE, Int32.reduceAdd, Int32.reduceSub, Int32.reduceMul]
def zRb (M : zM) : Prop := Rrul M ∧ Rlim M ∧ Rpl M
theorem zpl_n {M : zM} (h : Rpl M) : ∃ n, n ≤ 10 ∧ zgI M 12 0 12 = nI n ∧ zgI M 13 0 31 = nI n := by
  obtain ⟨h1, h2, -⟩ := h
  obtain ⟨n, hn, e⟩ := zin_of (zin_iff.mpr ⟨h2.1, (by omega : (zgI M 13 0 31).toInt < ((11 : Nat) : Int))⟩)
  exact ⟨n, by omega, by rw [h1, e], e⟩
def zE1 (pl w v x1 x2 : Int32) : Prop := (x1 = 0 ∧ ∃ w', w' < 4 ∧ x2 = nI w' ∧ w = nI w' ∧ zrl w' v) ∨ (x1 = 1 ∧ x2 = 0 ∧ w = 4 ∧ (1 ≤ v.toInt ∧ v.toInt ≤ 9999)) ∨ (x1 = 2 ∧ ∃ p : Nat, (p : Int) < pl.toInt ∧ x2 = nI p ∧ w = nI (10 + p) ∧ (0 ≤ v.toInt ∧ v.toInt ≤ 9999900))
def yK6 (k i s : Nat) : Prop := (k = 29 ∧ i = 0) ∨ (k = 12 ∧ i = 0 ∧ s = 15) ∨ (k = 2 ∧ i < 10 ∧ s = 1)
def yK7 (k i s : Nat) : Prop := i = 0 ∧ ((k = 57) ∨ (k = 13 ∧ s = 11) ∨ (k = 71))
theorem P_bec (M : zM) (h : zRb M) (w v x1 x2 : Int32) (he : zE1 (zgI M 13 0 31) w v x1 x2) : ∃ k i s k' i' s', (∀ d u M0, zgI M0 12 0 12 = zgI M 12 0 12 → zgo false (d + 2) 188 0 [zr 12 0, zi w, zi v, u] [] M0 = some (none, zsI M0 k i s v)) ∧ (∀ M0, zput M0 x1 x2 v = zsI M0 k' i' s' v) ∧ zokT x1 x2 ∧ yK6 k i s ∧ yK7 k' i' s' ∧ zRb (zsI (zsI M k i s v) k' i' s' v) := by
  obtain ⟨hr, hl, hp⟩ := h
  obtain ⟨n, hn, n1, n2⟩ := zpl_n hp
  rcases he with ⟨rfl, w', hw, rfl, rfl, hv⟩ | ⟨rfl, rfl, rfl, hv⟩ | ⟨rfl, p, hpl, rfl, rfl, hv⟩
  · have cw : (nI w').toNatClampNeg = w' := nI_clamp (by omega)
    have a2 : ¬ (4 : Int32) ≤ nI w' := nI_ge (a := w') (b := 4) (by omega) (by omega)
    refine ⟨29, 0, w', 57, 0, w', fun d u M0 h0 => ?_, fun M0 => ?_, ⟨fun _ => zin_nI hw (by omega), fun q => absurd rfl q⟩, Or.inl ⟨rfl, rfl⟩, ⟨rfl, Or.inl rfl⟩, fun t ht => ?_, hl, hp⟩
    · simp +decide only [B188_0, B188_17, B188_41, B188_51, a2, se29n _ _ _ _ _ _ hw, zbsome, zpu1, zpu0, cond_true, cond_false, zib0, zib1, zib_ite, zq00, zq20, zq22, zq90, zq99, zq40, zq44, zq100, zq1010, Bool.and_true, if_true, if_false, z1ne0, not_true_eq_false, not_false_eq_true, zite10, eq_self, and_true, true_and, and_false, false_and, ↓reduceIte, Int32.reduceLT, Int32.reduceLE, Int32.reduceAdd, Int32.reduceSub, Int32.reduceMul]
    · unfold zput
      rw [if_pos rfl, cw]
    · have g := hr t ht
      by_cases e : t = w'
      · subst e
        rw [show zgI (zsI (zsI M 29 0 t v) 57 0 t v) 29 0 t = v by grind [zgI_sI], show zgI (zsI (zsI M 29 0 t v) 57 0 t v) 57 0 t = v by grind [zgI_sI]]
        exact ⟨rfl, hv⟩
      · rw [show zgI (zsI (zsI M 29 0 w' v) 57 0 w' v) 29 0 t = zgI M 29 0 t by grind [zgI_sI], show zgI (zsI (zsI M 29 0 w' v) 57 0 w' v) 57 0 t = zgI M 57 0 t by grind [zgI_sI]]
        exact g
  · refine ⟨12, 0, 15, 13, 0, 11, fun d u M0 h0 => ?_, fun M0 => rfl, zT1, Or.inr (Or.inl ⟨rfl, rfl, rfl⟩), ⟨rfl, Or.inr (Or.inl ⟨rfl, rfl⟩)⟩, hr, ⟨rfl, hv⟩, hp⟩
    simp +decide only [B188_0, B188_17, B188_41, B188_51, zbsome, zpu1, zpu0, cond_true, cond_false, zib0, zib1, zib_ite, zq00, zq20, zq22, zq90, zq99, zq40, zq44, zq100, zq1010, Bool.and_true, if_true, if_false, z1ne0, not_true_eq_false, not_false_eq_true, zite10, eq_self, and_true, true_and, and_false, false_and, ↓reduceIte, Int32.reduceLT, Int32.reduceLE, Int32.reduceAdd, Int32.reduceSub, Int32.reduceMul]
  · have hpn : p < n := by
      rw [n2, nI_toInt (by omega)] at hpl
      omega
    have cw : (nI p).toNatClampNeg = p := nI_clamp (by omega)
    have a2 : (4 : Int32) ≤ nI (10 + p) := nI_le (a := 4) (by omega) (by omega)
    have a3 : ¬ nI (10 + p) = 4 := by
      rw [show (4 : Int32) = nI 4 from rfl, nI_eq (by omega) (by omega)]
      omega
    have a4 : nI (10 + p) - 10 = nI p := by
      rw [show (10 : Int32) = nI 10 from rfl, pk_sub (by omega)]
      congr 1
      omega
    refine ⟨2, p, 1, 71, 0, p, fun d u M0 h0 => ?_, fun M0 => ?_, ⟨fun q => absurd q (by decide), fun _ _ => zin_nI (by omega) (by omega)⟩, Or.inr (Or.inr ⟨rfl, by omega, rfl⟩), ⟨rfl, Or.inr (Or.inr rfl)⟩, hr, hl, hp.1, hp.2.1, fun t ht => ?_⟩
    · simp +decide only [B188_0, B188_17, B188_41, B188_51, a2, a3, a4, S_bodyC _ n p M0 (h0.trans n1) hn hpn, zbsome, zpu1, zpu0, cond_true, cond_false, zib0, zib1, zib_ite, zq00, zq20, zq22, zq90, zq99, zq40, zq44, zq100, zq1010, Bool.and_true, if_true, if_false, z1ne0, not_true_eq_false, not_false_eq_true, zite10, eq_self, and_true, true_and, and_false, false_and, ↓reduceIte, Int32.reduceLT, Int32.reduceLE, Int32.reduceAdd, Int32.reduceSub, Int32.reduceMul]
    · unfold zput
      rw [if_neg (by decide), if_neg (by decide), cw]
    · have g := hp.2.2 t ht
      by_cases e : t = p
      · subst e
        have y1 : zgI (zsI (zsI M 2 t 1 v) 71 0 t v) 2 t 1 = v := by grind [zgI_sI]
        have y2 : zgI (zsI (zsI M 2 t 1 v) 71 0 t v) 71 0 t = v := by grind [zgI_sI]
        have z : ∀ j, j < 6 → j ≠ 1 → zgI (zsI (zsI M 2 t 1 v) 71 0 t v) 2 t j = zgI M 2 t j := fun t h1 h2 => by grind [zgI_sI]
        have z2 : ∀ j, 70 ≤ j → j ≤ 75 → j ≠ 71 → zgI (zsI (zsI M 2 t 1 v) 71 0 t v) j 0 t = zgI M j 0 t := fun t h1 h2 h3 => by grind [zgI_sI]
        rw [y1, y2, z 0 (by omega) (by omega), z 2 (by omega) (by omega), z 3 (by omega) (by omega), z 4 (by omega) (by omega), z 5 (by omega) (by omega), z2 70 (by omega) (by omega) (by omega), z2 72 (by omega) (by omega) (by omega), z2 73 (by omega) (by omega) (by omega), z2 74 (by omega) (by omega) (by omega), z2 75 (by omega) (by omega) (by omega)]
        exact ⟨⟨g.1.1, rfl, g.1.2.2⟩, g.2.1, hv, g.2.2.2⟩
      · refine zPl1_eq g (fun j hj => ?_) (fun j h1 h2 => ?_)
        · grind [zgI_sI]
        · grind [zgI_sI]
def zm236 (n : Nat) : Bool := zo 2 n || (zo 3 n || zo 6 n)
theorem yK6_own {k i s : Nat} (h : yK6 k i s) : zm236 (zown k i s) = true := by
  rcases h with ⟨rfl, rfl⟩ | ⟨rfl, rfl, rfl⟩ | ⟨rfl, h, rfl⟩
  · rfl
  · rfl
  · rw [show zown 2 i 1 = if i < 10 then 6 else 12 from rfl, if_pos h]
    rfl
theorem yK7_own {k i s : Nat} (h : yK7 k i s) : zm236 (zown k i s) = true := by
  obtain ⟨rfl, rfl | ⟨rfl, rfl⟩ | rfl⟩ := h
  · rfl
  · rfl
  · rfl
/-- the cells of the changes' numbers told apart from those that become -/
theorem zRb_eq {M M' : zM} (h : zRb M) (he : zFr (zo 3) M M') : zRb M' := by
  refine ⟨Rrul_fr he rfl rfl h.1, ?_, Rpl_fr he rfl rfl h.2.2⟩
  have := h.2.1
  unfold Rlim at this ⊢
  rw [(he 12 0 15 rfl).1, (he 13 0 11 rfl).1]
  exact this
/-- 'undo' -/
theorem Q28 (d : Nat) (M : zM) (hc : Rch M) (hb : zRb M) : ∃ (y : Int32) (M1 M2 : zM), zgo false (d + 3) 158 0 [zr 12 0] [] M = some (some (zi y), M1) ∧ zgo false (d + 3) 205 0 [zr 13 0] [] M1 = some (some (zi y), M2) ∧ zFr zm236 M M2 ∧ Rch M2 ∧ zRb M2 := by
  obtain ⟨n, u, h1, h2, h3, h4, h5, h6⟩ := hc
  obtain _ | n := n
  · refine ⟨-5, M, M, ?_, ?_, zFr_refl _ M, ⟨0, u, h1, h2, h3, h4, h5, h6⟩, hb⟩
    · have h2' : zgI M 3 0 3 = 0 := h2
      simp +decide only [B158_0, B158_26, B158_41, B158_55, B158_58, h2', zbsome, zpu1, zpu0, cond_true, cond_false, zib0, zib1, zib_ite, zq00, zq20, zq22, zq90, zq99, zq40, zq44, zq100, zq1010, Bool.and_true, if_true, if_false, z1ne0, not_true_eq_false, not_false_eq_true, zite10, eq_self, and_true, true_and, and_false, false_and, ↓reduceIte, Int32.reduceLT, Int32.reduceLE, Int32.reduceAdd, Int32.reduceSub, Int32.reduceMul]
    · have h3' : zgI M 13 0 12 = 0 := h3
      simp +decide only [B205_0, B205_30, B205_61, h3', zbsome, zpu1, zpu0, cond_true, cond_false, zib0, zib1, zib_ite, zq00, zq20, zq22, zq90, zq99, zq40, zq44, zq100, zq1010, Bool.and_true, if_true, if_false, z1ne0, not_true_eq_false, not_false_eq_true, zite10, eq_self, and_true, true_and, and_false, false_and, ↓reduceIte, Int32.reduceLT, Int32.reduceLE, Int32.reduceAdd, Int32.reduceSub, Int32.reduceMul]
  have he := h6 n (by omega)
  obtain ⟨e1, e2, e3⟩ := he
  have he' : zE1 (zgI M 13 0 31) (zgI M 21 0 n) (zgI M 22 0 n) (zgI M 58 0 n) (zgI M 59 0 n) := by
    rw [e1]
    rcases e3 with ⟨a, w, b, c, e, f, g⟩ | ⟨a, b, c, e, f⟩ | ⟨a, p, b, c, e, f, g⟩
    · exact Or.inl ⟨a, w, b, c, e, f⟩
    · exact Or.inr (Or.inl ⟨a, b, c, e⟩)
    · exact Or.inr (Or.inr ⟨a, p, b, c, e, f⟩)
  obtain ⟨k, i, s, k', i', s', r1, r2, r3, r4, r5, r6⟩ := P_bec M hb _ _ _ _ he'
  have ne0 : ¬ nI (n + 1) = 0 := nI_ne0 (by omega) (by omega)
  have p1 : nI (n + 1) - 1 = nI n := nI_pred n
  have c0 : zgI (zsI (zsI M 3 0 3 (nI n)) k i s (zgI M 22 0 n)) 3 0 3 = nI n := by
    rw [zgI_sI, if_neg (by unfold yK6 at r4; omega)]; rfl
  have z1 : zin (nI n) 40 = true := zin_nI (by omega) (by omega)
  have c1 : (nI n).toNatClampNeg = n := nI_clamp (by omega)
  have rd : ∀ k1 s1, (k1 = 13 ∧ s1 ≠ 11) ∨ (58 ≤ k1 ∧ k1 ≤ 61) → zgI (zsI (zsI M 3 0 3 (nI n)) k i s (zgI M 22 0 n)) k1 0 s1 = zgI M k1 0 s1 := fun k1 s1 hk => by
    rw [zgI_sI, if_neg (by unfold yK6 at r4; omega), zgI_sI, if_neg (by omega)]
  have g1 : zgI (zsI (zsI (zsI (zsI M 3 0 3 (nI n)) k i s (zgI M 22 0 n)) 13 0 12 (nI n)) 13 0 13 (nI u + 1)) 13 0 12 = nI n := rfl
  refine ⟨nI n, zsI (zsI M 3 0 3 (nI n)) k i s (zgI M 22 0 n), zsI (zsI (zsI (zsI (zsI M 3 0 3 (nI n)) k i s (zgI M 22 0 n)) 13 0 12 (nI n)) 13 0 13 (nI u + 1)) k' i' s' (zgI M 22 0 n), ?_, ?_, ?_, ?_, ?_⟩
  · have q1 := at21n false (d + 1) 0 n (zsI M 3 0 3 (nI n)) (by omega)
    have q2 := at22n false (d + 1) 0 n (zsI M 3 0 3 (nI n)) (by omega)
    have q3 : zgI (zsI M 3 0 3 (nI n)) 21 0 n = zgI M 21 0 n := rfl
    have q4 : zgI (zsI M 3 0 3 (nI n)) 22 0 n = zgI M 22 0 n := rfl
    have q5 : zgI (zsI M 3 0 3 (nI n)) 3 0 3 = nI n := rfl
    rw [q3] at q1
    rw [q4] at q2
    simp +decide only [B158_0, B158_26, B158_41, B158_55, B158_58, B16_0, B16_8, B17_0, B17_8, h2, ne0, p1, q5, q1, q2, r1 d zu (zsI M 3 0 3 (nI n)) rfl, c0, zbsome, zpu1, zpu0, cond_true, cond_false, zib0, zib1, zib_ite, zq00, zq20, zq22, zq90, zq99, zq40, zq44, zq100, zq1010, Bool.and_true, if_true, if_false, z1ne0, not_true_eq_false, not_false_eq_true, zite10, eq_self, and_true, true_and, and_false, false_and, ↓reduceIte, Int32.reduceLT, Int32.reduceLE, Int32.reduceAdd, Int32.reduceSub, Int32.reduceMul]
  · have q0 := rd 13 12 (by omega)
    have q1 := rd 13 13 (by omega)
    have q6 : zgI (zsI (zsI (zsI M 3 0 3 (nI n)) k i s (zgI M 22 0 n)) 13 0 12 (nI n)) 13 0 13 = nI u := (by rw [← h5]; exact q1)
    have q2 : zgI (zsI (zsI (zsI (zsI M 3 0 3 (nI n)) k i s (zgI M 22 0 n)) 13 0 12 (nI n)) 13 0 13 (nI u + 1)) 58 0 n = zgI M 58 0 n := rd 58 n (by omega)
    have q3 : zgI (zsI (zsI (zsI (zsI M 3 0 3 (nI n)) k i s (zgI M 22 0 n)) 13 0 12 (nI n)) 13 0 13 (nI u + 1)) 59 0 n = zgI M 59 0 n := rd 59 n (by omega)
    have q4 : zgI (zsI (zsI (zsI (zsI M 3 0 3 (nI n)) k i s (zgI M 22 0 n)) 13 0 12 (nI n)) 13 0 13 (nI u + 1)) 60 0 n = zgI M 22 0 n := (rd 60 n (by omega)).trans e1.symm
    have q5 := S_put (d + 2) (zgI M 58 0 n) (zgI M 59 0 n) (zgI M 22 0 n) (zsI (zsI (zsI (zsI M 3 0 3 (nI n)) k i s (zgI M 22 0 n)) 13 0 12 (nI n)) 13 0 13 (nI u + 1)) r3
    rw [r2] at q5
    have q7 : zgI (zsI (zsI (zsI (zsI (zsI M 3 0 3 (nI n)) k i s (zgI M 22 0 n)) 13 0 12 (nI n)) 13 0 13 (nI u + 1)) k' i' s' (zgI M 22 0 n)) 13 0 12 = nI n := by
      rw [zgI_sI, if_neg (by unfold yK7 at r5; omega)]; rfl
    simp +decide only [B205_0, B205_30, B205_61, q0, h3, ne0, p1, q6, g1, z1, c1, q2, q3, q4, q5, q7, zbsome, zpu1, zpu0, cond_true, cond_false, zib0, zib1, zib_ite, zq00, zq20, zq22, zq90, zq99, zq40, zq44, zq100, zq1010, Bool.and_true, if_true, if_false, z1ne0, not_true_eq_false, not_false_eq_true, zite10, eq_self, and_true, true_and, and_false, false_and, ↓reduceIte, Int32.reduceLT, Int32.reduceLE, Int32.reduceAdd, Int32.reduceSub, Int32.reduceMul]
  · exact zFr_sI (zFr_sI (zFr_sI (zFr_sI (zFr_sI (zFr_refl _ M) rfl) (yK6_own r4)) rfl) rfl) (yK7_own r5)
  · refine ⟨n, u + 1, by omega, ?_, ?_, ?_, ?_, fun t ht => ?_⟩
    · rw [zgI_sI, if_neg (by unfold yK7 at r5; omega)]
      exact c0
    · rw [zgI_sI, if_neg (by unfold yK7 at r5; omega)]; rfl
    · rw [zgI_sI, if_neg (by unfold yK7 at r5; omega)]
      show zgI (zsI (zsI M 3 0 3 (nI n)) k i s (zgI M 22 0 n)) 3 0 4 = _
      rw [zgI_sI, if_neg (by unfold yK6 at r4; omega)]
      show zgI M 3 0 4 = _
      rw [h4]
      congr 1
      omega
    · rw [zgI_sI, if_neg (by unfold yK7 at r5; omega)]
      exact nI_1 u
    · have rd2 : ∀ k1 s1, (k1 = 13 ∧ s1 = 31) ∨ (58 ≤ k1 ∧ k1 ≤ 61) ∨ (21 ≤ k1 ∧ k1 ≤ 23) → zgI (zsI (zsI (zsI (zsI (zsI M 3 0 3 (nI n)) k i s (zgI M 22 0 n)) 13 0 12 (nI n)) 13 0 13 (nI u + 1)) k' i' s' (zgI M 22 0 n)) k1 0 s1 = zgI M k1 0 s1 := fun k1 s1 hk => by
        rw [zgI_sI, if_neg (by unfold yK7 at r5; omega), zgI_sI, if_neg (by omega), zgI_sI, if_neg (by omega), zgI_sI, if_neg (by unfold yK6 at r4; omega), zgI_sI, if_neg (by omega)]
      unfold zent
      rw [rd2 13 31 (by omega), rd2 21 t (by omega), rd2 22 t (by omega), rd2 23 t (by omega), rd2 58 t (by omega), rd2 59 t (by omega), rd2 60 t (by omega), rd2 61 t (by omega)]
      exact h6 t (by omega)
  · refine zRb_eq r6 (fun a b c q => ⟨?_, rfl, rfl⟩)
    have ne : ∀ x : Nat, ¬ (a = 3 ∧ b = 0 ∧ c = x ∧ (x = 3 ∨ x = 4)) := fun x q1 => by
      obtain ⟨rfl, rfl, rfl, rfl | rfl⟩ := q1
      · cases q
      · cases q
    have ne2 : ∀ x : Nat, ¬ (a = 13 ∧ b = 0 ∧ c = x ∧ (x = 12 ∨ x = 13)) := fun x q1 => by
      obtain ⟨rfl, rfl, rfl, rfl | rfl⟩ := q1
      · cases q
      · cases q
    have n3 := ne 3
    have n12 := ne2 12
    have n13 := ne2 13
    simp only [zgI_sI]
    grind
