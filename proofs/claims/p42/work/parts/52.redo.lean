/-- 'redo' -/
theorem Q29 (d : Nat) (M : zM) (hc : Rch M) (hb : zRb M) : ∃ (y : Int32) (M1 M2 : zM), zgo false (d + 3) 159 0 [zr 12 0] [] M = some (some (zi y), M1) ∧ zgo false (d + 3) 206 0 [zr 13 0] [] M1 = some (some (zi y), M2) ∧ zFr zm236 M M2 ∧ Rch M2 ∧ zRb M2 := by
  obtain ⟨n, u, h1, h2, h3, h4, h5, h6⟩ := hc
  obtain _ | u := u
  · refine ⟨-5, M, M, ?_, ?_, zFr_refl _ M, ⟨n, 0, h1, h2, h3, h4, h5, h6⟩, hb⟩
    · have c : ¬ nI n < nI (n + 0) := nI_nlt (by omega) (by omega)
      simp +decide only [B159_0, B159_35, B159_49, B159_52, h2, h4, c, zbsome, zpu1, zpu0, cond_true, cond_false, zib0, zib1, zib_ite, zq00, zq20, zq22, zq90, zq99, zq40, zq44, zq100, zq1010, Bool.and_true, if_true, if_false, z1ne0, not_true_eq_false, not_false_eq_true, zite10, eq_self, and_true, true_and, and_false, false_and, ↓reduceIte, Int32.reduceLT, Int32.reduceLE, Int32.reduceAdd, Int32.reduceSub, Int32.reduceMul]
    · have h5' : zgI M 13 0 13 = 0 := h5
      simp +decide only [B206_0, B206_41, B206_61, h5', zbsome, zpu1, zpu0, cond_true, cond_false, zib0, zib1, zib_ite, zq00, zq20, zq22, zq90, zq99, zq40, zq44, zq100, zq1010, Bool.and_true, if_true, if_false, z1ne0, not_true_eq_false, not_false_eq_true, zite10, eq_self, and_true, true_and, and_false, false_and, ↓reduceIte, Int32.reduceLT, Int32.reduceLE, Int32.reduceAdd, Int32.reduceSub, Int32.reduceMul]
  have he := h6 n (by omega)
  obtain ⟨e1, e2, e3⟩ := he
  have he' : zE1 (zgI M 13 0 31) (zgI M 21 0 n) (zgI M 23 0 n) (zgI M 58 0 n) (zgI M 59 0 n) := by
    rw [e2]
    rcases e3 with ⟨a, w, b, c, e, f, g⟩ | ⟨a, b, c, e, f⟩ | ⟨a, p, b, c, e, f, g⟩
    · exact Or.inl ⟨a, w, b, c, e, g⟩
    · exact Or.inr (Or.inl ⟨a, b, c, f⟩)
    · exact Or.inr (Or.inr ⟨a, p, b, c, e, g⟩)
  obtain ⟨k, i, s, k', i', s', r1, r2, r3, r4, r5, r6⟩ := P_bec M hb _ _ _ _ he'
  have lt : nI n < nI (n + (u + 1)) := nI_lt (by omega) (by omega)
  have ne0 : ¬ nI (u + 1) = 0 := nI_ne0 (by omega) (by omega)
  have z1 : zin (nI n) 40 = true := zin_nI (by omega) (by omega)
  have c1 : (nI n).toNatClampNeg = n := nI_clamp (by omega)
  have hs1 : nI n + 1 = nI (n + 1) := nI_1 n
  have c3 : ∀ t, t = 3 ∨ t = 4 → zgI (zsI M k i s (zgI M 23 0 n)) 3 0 t = zgI M 3 0 t := fun t ht => by
    rw [zgI_sI, if_neg (by unfold yK6 at r4; omega)]
  have rd : ∀ k1 s1, (k1 = 13 ∧ s1 ≠ 11) ∨ (58 ≤ k1 ∧ k1 ≤ 61) → zgI (zsI (zsI M k i s (zgI M 23 0 n)) 3 0 3 (nI (n + 1))) k1 0 s1 = zgI M k1 0 s1 := fun k1 s1 hk => by
    rw [zgI_sI, if_neg (by omega), zgI_sI, if_neg (by unfold yK6 at r4; omega)]
  have rd' : ∀ s1, s1 ≠ 11 → zgI (zsI (zsI (zsI M k i s (zgI M 23 0 n)) 3 0 3 (nI (n + 1))) k' i' s' (zgI M 23 0 n)) 13 0 s1 = zgI M 13 0 s1 := fun s1 hk => by
    rw [zgI_sI, if_neg (by unfold yK7 at r5; omega)]
    exact rd 13 s1 (by omega)
  refine ⟨nI u, zsI (zsI M k i s (zgI M 23 0 n)) 3 0 3 (nI (n + 1)), zsI (zsI (zsI (zsI (zsI M k i s (zgI M 23 0 n)) 3 0 3 (nI (n + 1))) k' i' s' (zgI M 23 0 n)) 13 0 12 (nI (n + 1))) 13 0 13 (nI u), ?_, ?_, ?_, ?_, ?_⟩
  · have q1 := at21n false (d + 1) 0 n M (by omega)
    have q2 := at23n false (d + 1) 0 n M (by omega)
    have q3 : zgI (zsI (zsI M k i s (zgI M 23 0 n)) 3 0 3 (nI (n + 1))) 3 0 4 = nI (n + (u + 1)) := (c3 4 (by omega)).trans h4
    have q4 : zgI (zsI (zsI M k i s (zgI M 23 0 n)) 3 0 3 (nI (n + 1))) 3 0 3 = nI (n + 1) := rfl
    have q5 : nI (n + (u + 1)) - nI (n + 1) = nI u := by
      rw [pk_sub (by omega)]
      congr 1
      omega
    simp +decide only [B159_0, B159_35, B159_49, B159_52, B16_0, B16_8, B18_0, B18_8, h2, h4, lt, q1, q2, r1 d zu M rfl, c3 3 (by omega), hs1, q3, q4, q5, zbsome, zpu1, zpu0, cond_true, cond_false, zib0, zib1, zib_ite, zq00, zq20, zq22, zq90, zq99, zq40, zq44, zq100, zq1010, Bool.and_true, if_true, if_false, z1ne0, not_true_eq_false, not_false_eq_true, zite10, eq_self, and_true, true_and, and_false, false_and, ↓reduceIte, Int32.reduceLT, Int32.reduceLE, Int32.reduceAdd, Int32.reduceSub, Int32.reduceMul]
  · have q0 := rd 13 12 (by omega)
    have q1 := rd 13 13 (by omega)
    have q2 := rd 58 n (by omega)
    have q3 := rd 59 n (by omega)
    have q4 := (rd 61 n (by omega)).trans e2.symm
    have q5 := S_put (d + 2) (zgI M 58 0 n) (zgI M 59 0 n) (zgI M 23 0 n) (zsI (zsI M k i s (zgI M 23 0 n)) 3 0 3 (nI (n + 1))) r3
    rw [r2] at q5
    have q6 := (rd' 12 (by omega)).trans h3
    have q7 : zgI (zsI (zsI (zsI (zsI M k i s (zgI M 23 0 n)) 3 0 3 (nI (n + 1))) k' i' s' (zgI M 23 0 n)) 13 0 12 (nI (n + 1))) 13 0 13 = nI (u + 1) := (rd' 13 (by omega)).trans h5
    have q8 : nI (u + 1) - 1 = nI u := nI_pred u
    have q9 : zgI (zsI (zsI (zsI (zsI (zsI M k i s (zgI M 23 0 n)) 3 0 3 (nI (n + 1))) k' i' s' (zgI M 23 0 n)) 13 0 12 (nI (n + 1))) 13 0 13 (nI u)) 13 0 13 = nI u := rfl
    simp +decide only [B206_0, B206_41, B206_61, q0, q1, h3, h5, ne0, z1, c1, q2, q3, q4, q5, q6, hs1, q7, q8, q9, zbsome, zpu1, zpu0, cond_true, cond_false, zib0, zib1, zib_ite, zq00, zq20, zq22, zq90, zq99, zq40, zq44, zq100, zq1010, Bool.and_true, if_true, if_false, z1ne0, not_true_eq_false, not_false_eq_true, zite10, eq_self, and_true, true_and, and_false, false_and, ↓reduceIte, Int32.reduceLT, Int32.reduceLE, Int32.reduceAdd, Int32.reduceSub, Int32.reduceMul]
  · exact zFr_sI (zFr_sI (zFr_sI (zFr_sI (zFr_sI (zFr_refl _ M) (yK6_own r4)) rfl) (yK7_own r5)) rfl) rfl
  · refine ⟨n + 1, u, by omega, ?_, rfl, ?_, rfl, fun t ht => ?_⟩
    · show zgI (zsI (zsI (zsI M k i s (zgI M 23 0 n)) 3 0 3 (nI (n + 1))) k' i' s' (zgI M 23 0 n)) 3 0 3 = _
      rw [zgI_sI, if_neg (by unfold yK7 at r5; omega)]; rfl
    · show zgI (zsI (zsI (zsI M k i s (zgI M 23 0 n)) 3 0 3 (nI (n + 1))) k' i' s' (zgI M 23 0 n)) 3 0 4 = _
      rw [zgI_sI, if_neg (by unfold yK7 at r5; omega)]
      show zgI (zsI M k i s (zgI M 23 0 n)) 3 0 4 = _
      rw [c3 4 (by omega), h4]
      congr 1
      omega
    · have rd2 : ∀ k1 s1, (k1 = 13 ∧ s1 = 31) ∨ (58 ≤ k1 ∧ k1 ≤ 61) ∨ (21 ≤ k1 ∧ k1 ≤ 23) → zgI (zsI (zsI (zsI (zsI (zsI M k i s (zgI M 23 0 n)) 3 0 3 (nI (n + 1))) k' i' s' (zgI M 23 0 n)) 13 0 12 (nI (n + 1))) 13 0 13 (nI u)) k1 0 s1 = zgI M k1 0 s1 := fun k1 s1 hk => by
        rw [zgI_sI, if_neg (by omega), zgI_sI, if_neg (by omega), zgI_sI, if_neg (by unfold yK7 at r5; omega), zgI_sI, if_neg (by omega), zgI_sI, if_neg (by unfold yK6 at r4; omega)]
      unfold zent
      rw [rd2 13 31 (by omega), rd2 21 t (by omega), rd2 22 t (by omega), rd2 23 t (by omega), rd2 58 t (by omega), rd2 59 t (by omega), rd2 60 t (by omega), rd2 61 t (by omega)]
      exact h6 t (by omega)
  · refine zRb_eq r6 (fun a b c q => ⟨?_, rfl, rfl⟩)
    have ne : ∀ x : Nat, ¬ (a = 3 ∧ b = 0 ∧ c = x ∧ (x = 3 ∨ x = 4)) := fun x q1 => by
      obtain ⟨rfl, rfl, rfl, rfl | rfl⟩ := q1
      · cases q
      · cases q
    have ne2 : ∀ x : Nat, ¬ (a = 13 ∧ b = 0 ∧ c = x ∧ (x = 12 ∨ x = 13)) := fun x q1 => by
      obtain ⟨rfl, rfl, rfl, rfl | rfl⟩ := q1
      · cases q
      · cases q
    have n3 := ne 3
    have n12 := ne2 12
    have n13 := ne2 13
    simp only [zgI_sI]
    grind
/-! ===== a player comes ===== -/
/-- nobody sits there yet: all zero -/
def Rpz (M : zM) : Prop := ∀ s : Nat, s < 10 → (zgI M 13 0 31).toInt ≤ s → zgI M 2 s 3 = 0 ∧ zgI M 2 s 4 = 0 ∧ zgI M 2 s 5 = 0 ∧ zgI M 73 0 s = 0 ∧ zgI M 74 0 s = 0 ∧ zgI M 75 0 s = 0
theorem Rpz_fr {m : Nat → Bool} {M M' : zM} (h : zFr m M M') (hm : m 6 = false) (hm' : m 26 = false) (hR : Rpz M) : Rpz M' := by
  intro s hs hs2
  rw [(h 13 0 31 hm').1] at hs2
  have o : ∀ t, m (zown 2 s t) = false := fun t => by
    rw [show zown 2 s t = if s < 10 then 6 else 12 from rfl, if_pos hs]
    exact hm
  rw [(h 2 s 3 (o 3)).1, (h 2 s 4 (o 4)).1, (h 2 s 5 (o 5)).1, (h 73 0 s hm').1, (h 74 0 s hm').1, (h 75 0 s hm').1]
  exact hR s hs hs2
