/-! ===== what is written, place by place ===== -/
def zFo (P : Nat → Nat → Nat → Prop) (M M' : zM) : Prop := ∀ k i s, ¬ P k i s → zgI M' k i s = zgI M k i s ∧ zgL M' k i s = zgL M k i s ∧ zgR M' k i s = zgR M k i s
theorem zFo_refl (P : Nat → Nat → Nat → Prop) (M : zM) : zFo P M M := fun _ _ _ _ => ⟨rfl, rfl, rfl⟩
theorem zFo_trans {P : Nat → Nat → Nat → Prop} {M M1 M2 : zM} (h1 : zFo P M M1) (h2 : zFo P M1 M2) : zFo P M M2 := fun k i s h => ⟨(h2 k i s h).1.trans (h1 k i s h).1, (h2 k i s h).2.1.trans (h1 k i s h).2.1, (h2 k i s h).2.2.trans (h1 k i s h).2.2⟩
theorem zFo_mono {P P' : Nat → Nat → Nat → Prop} {M M' : zM} (h : zFo P M M') (hp : ∀ k i s, P k i s → P' k i s) : zFo P' M M' := fun k i s q => h k i s (fun r => q (hp k i s r))
theorem zFo_sI {P : Nat → Nat → Nat → Prop} {M M' : zM} (h : zFo P M M') {k i s : Nat} {v : Int32} (ho : P k i s) : zFo P M (zsI M' k i s v) := by
  intro k' i' s' q
  refine ⟨?_, (h k' i' s' q).2.1, (h k' i' s' q).2.2⟩
  rw [zgI_sI, if_neg, (h k' i' s' q).1]
  rintro ⟨rfl, rfl, rfl⟩
  exact q ho
theorem zFo_sL {P : Nat → Nat → Nat → Prop} {M M' : zM} (h : zFo P M M') {k i s : Nat} {v : Int64} (ho : P k i s) : zFo P M (zsL M' k i s v) := by
  intro k' i' s' q
  refine ⟨(h k' i' s' q).1, ?_, (h k' i' s' q).2.2⟩
  rw [zgL_sL, if_neg, (h k' i' s' q).2.1]
  rintro ⟨rfl, rfl, rfl⟩
  exact q ho
theorem zFo_sR {P : Nat → Nat → Nat → Prop} {M M' : zM} (h : zFo P M M') {k i s : Nat} {v : Nat × Nat} (ho : P k i s) : zFo P M (zsR M' k i s v) := by
  intro k' i' s' q
  refine ⟨(h k' i' s' q).1, (h k' i' s' q).2.1, ?_⟩
  rw [zgR_sR, if_neg, (h k' i' s' q).2.2]
  rintro ⟨rfl, rfl, rfl⟩
  exact q ho
theorem zFr_of {P : Nat → Nat → Nat → Prop} {m : Nat → Bool} {M M' : zM} (h : zFo P M M') (hp : ∀ k i s, P k i s → m (zown k i s) = true) : zFr m M M' := fun k i s q => h k i s (fun r => by rw [hp k i s r] at q; cases q)
/-! ===== shelves ===== -/
def zlow (q : Int32) (v : Int64) : Int64 := if q = 0 then v.toInt32.toInt8.toInt32.toInt64 else if q = 1 then v.toInt32.toInt16.toInt32.toInt64 else if q = 2 then v.toInt32.toInt64 else if q = 3 then v else if lg_cmp v 0 = 0 then 0 else 1
theorem zlow_idem (q : Int32) (v : Int64) : zlow q (zlow q v) = zlow q v := by
  unfold zlow
  by_cases a0 : q = 0
  · simp only [if_pos a0, Int32.toInt32_toInt64, Int8.toInt8_toInt32]
  by_cases a1 : q = 1
  · simp only [if_neg a0, if_pos a1, Int32.toInt32_toInt64, Int16.toInt16_toInt32]
  by_cases a2 : q = 2
  · simp only [if_neg a0, if_neg a1, if_pos a2, Int32.toInt32_toInt64]
  by_cases a3 : q = 3
  · simp only [if_neg a0, if_neg a1, if_neg a2, if_pos a3]
  · simp only [if_neg a0, if_neg a1, if_neg a2, if_neg a3]
    by_cases c : lg_cmp v 0 = 0
    · simp only [if_pos c]
      decide
    · simp only [if_neg c]
      decide
theorem zlow_0 (q : Int32) : zlow q 0 = 0 := by
  unfold zlow
  by_cases a0 : q = 0
  · rw [if_pos a0]; decide
  by_cases a1 : q = 1
  · rw [if_neg a0, if_pos a1]; decide
  by_cases a2 : q = 2
  · rw [if_neg a0, if_neg a1, if_pos a2]; decide
  by_cases a3 : q = 3
  · rw [if_neg a0, if_neg a1, if_neg a2, if_pos a3]
  · rw [if_neg a0, if_neg a1, if_neg a2, if_neg a3]; decide
def zSh1 (M : zM) (s : Nat) : Prop := (zgI M 9 s 1 = 0 ∧ zgI M 110 0 s = -1) ∨ (zgI M 9 s 1 = 1 ∧ zgI M 110 0 s = zgI M 9 s 4 ∧ 0 ≤ zgI M 9 s 4 ∧ zgI M 9 s 4 < zgI M 13 0 31) ∨ (zgI M 9 s 1 = 2 ∧ (0 ≤ zgI M 9 s 2 ∧ zgI M 9 s 2 ≤ 4) ∧ zgI M 110 0 s = -2 - zgI M 9 s 2 ∧ zgI M 9 s 3 = zgI M 111 0 s ∧ (0 ≤ zgI M 111 0 s ∧ zgI M 111 0 s ≤ 60) ∧ (∀ i, i < 60 → zgL M 45 s i = zgL M 112 0 (60 * s + i)) ∧ (∀ i, i < 60 → zlow (zgI M 9 s 2) (zgL M 45 s i) = zgL M 45 s i))
def Rsh (M : zM) : Prop := ∀ s, s < 6 → zSh1 M s
theorem Rsh_fr {m : Nat → Bool} {M M' : zM} (h : zFr m M M') (hm : m 11 = false) (hm' : m 31 = false) (hp : zgI M 13 0 31 ≤ zgI M' 13 0 31) (hR : Rsh M) : Rsh M' := by
  intro s hs
  have h1 := hR s hs
  unfold zSh1 at h1 ⊢
  simp only [(h 9 s 1 hm).1, (h 9 s 2 hm).1, (h 9 s 3 hm).1, (h 9 s 4 hm).1, (h 110 0 s hm').1, (h 111 0 s hm').1, fun i => (h 45 s i hm).2.1, fun i => (h 112 0 i hm').2.1]
  rcases h1 with h1 | h1 | h1
  · exact Or.inl h1
  · exact Or.inr (Or.inl ⟨h1.1, h1.2.1, h1.2.2.1, by grind⟩)
  · exact Or.inr (Or.inr h1)
/-- a shelf's cells stay as they are -/
theorem zSh1_eq {M M' : zM} {s : Nat} (h : zSh1 M s) (e1 : zgI M' 9 s 1 = zgI M 9 s 1) (e2 : zgI M' 9 s 2 = zgI M 9 s 2) (e3 : zgI M' 9 s 3 = zgI M 9 s 3) (e4 : zgI M' 9 s 4 = zgI M 9 s 4) (e5 : zgI M' 110 0 s = zgI M 110 0 s) (e6 : zgI M' 111 0 s = zgI M 111 0 s) (e7 : ∀ i, i < 60 → zgL M' 45 s i = zgL M 45 s i) (e8 : ∀ i, i < 60 → zgL M' 112 0 (60 * s + i) = zgL M 112 0 (60 * s + i)) (e9 : zgI M' 13 0 31 = zgI M 13 0 31) : zSh1 M' s := by
  unfold zSh1 at h ⊢
  rw [e1, e2, e3, e4, e5, e6, e9]
  rcases h with h | h | ⟨h1, h2, h3, h4, h5, h6, h7⟩
  · exact Or.inl h
  · exact Or.inr (Or.inl h)
  · refine Or.inr (Or.inr ⟨h1, h2, h3, h4, h5, fun i hi => ?_, fun i hi => ?_⟩)
    · rw [e7 i hi, e8 i hi]; exact h6 i hi
    · rw [e7 i hi]; exact h7 i hi
/-- 'keep' -/
theorem Q32 (d : Nat) (x1 x2 : Int32) (u : zV) (M : zM) (h : Rsh M) (hp : Rpl M) : ∃ (y : Int32) (M1 M2 : zM), zgo false (d + 2) 162 0 [zr 12 0, zi x1, zi x2, u] [] M = some (some (zi y), M1) ∧ zgo false (d + 2) 306 0 [zr 13 0, zi x1, zi x2] [] M1 = some (some (zi y), M2) ∧ zFr (zo 11) M M2 ∧ Rsh M2 := by
  by_cases hz : zin x1 6 = true
  · obtain ⟨s, hs, rfl⟩ := zin_of hz
    have hc : (nI s).toNatClampNeg = s := nI_clamp (by omega)
    by_cases h1 : x2 = -1
    · subst h1
      refine ⟨1, zsI M 9 s 1 0, zsI (zsI M 9 s 1 0) 110 0 s (-1), ?_, ?_, zFr_of2 rfl rfl, fun s' hs' => ?_⟩
      · simp +decide only [B162_0, B162_5, B162_20, B162_23, B162_25, B162_34, B162_42, B97_0, S183, hz, hc, zbsome, zpu1, zpu0, cond_true, cond_false, zib0, zib1, zib_ite, zq00, zq20, zq22, zq90, zq99, zq40, zq44, zq100, zq1010, Bool.and_true, if_true, if_false, z1ne0, not_true_eq_false, not_false_eq_true, zite10, eq_self, and_true, true_and, and_false, false_and, ↓reduceIte, Int32.reduceLT, Int32.reduceLE, Int32.reduceAdd, Int32.reduceSub, Int32.reduceMul]
      · simp +decide only [B306_0, B306_4, B306_17, B306_20, B306_22, S305, hz, hc, zbsome, zpu1, zpu0, cond_true, cond_false, zib0, zib1, zib_ite, zq00, zq20, zq22, zq90, zq99, zq40, zq44, zq100, zq1010, Bool.and_true, if_true, if_false, z1ne0, not_true_eq_false, not_false_eq_true, zite10, eq_self, and_true, true_and, and_false, false_and, ↓reduceIte, Int32.reduceLT, Int32.reduceLE, Int32.reduceAdd, Int32.reduceSub, Int32.reduceMul]
      · by_cases e : s' = s
        · subst e
          exact Or.inl ⟨by grind [zgI_sI], by grind [zgI_sI]⟩
        · exact zSh1_eq (h s' hs') (by grind [zgI_sI]) (by grind [zgI_sI]) (by grind [zgI_sI]) (by grind [zgI_sI]) (by grind [zgI_sI]) (by grind [zgI_sI]) (fun i hi => rfl) (fun i hi => rfl) (by grind [zgI_sI])
    · by_cases h2 : zpl M x2
      · have h3 := S_body d x2 M hp
        have h4 := S_isPl d x2 (zsI (zsI M 9 s 1 1) 9 s 4 x2) hp.2.1
        rw [if_pos h2] at h3
        rw [if_pos (show zpl (zsI (zsI M 9 s 1 1) 9 s 4 x2) x2 from h2)] at h4
        refine ⟨1, zsI (zsI M 9 s 1 1) 9 s 4 x2, zsI (zsI (zsI M 9 s 1 1) 9 s 4 x2) 110 0 s x2, ?_, ?_, zFr_sI (zFr_of2 rfl rfl) rfl, fun s' hs' => ?_⟩
        · simp +decide only [B162_0, B162_5, B162_20, B162_23, B162_25, B162_34, B162_42, B98_0, S183, hz, hc, h1, h3, S_body (d + 1) x2 M hp, if_pos h2, zbsome, zpu1, zpu0, cond_true, cond_false, zib0, zib1, zib_ite, zq00, zq20, zq22, zq90, zq99, zq40, zq44, zq100, zq1010, Bool.and_true, if_true, if_false, z1ne0, not_true_eq_false, not_false_eq_true, zite10, eq_self, and_true, true_and, and_false, false_and, ↓reduceIte, Int32.reduceLT, Int32.reduceLE, Int32.reduceAdd, Int32.reduceSub, Int32.reduceMul]
        · have h4' := S_isPl (d + 1) x2 (zsI (zsI M 9 s 1 1) 9 s 4 x2) hp.2.1
          simp +decide only [B306_0, B306_4, B306_17, B306_20, B306_22, S305, hz, hc, h1, h4, zbsome, zpu1, zpu0, cond_true, cond_false, zib0, zib1, zib_ite, zq00, zq20, zq22, zq90, zq99, zq40, zq44, zq100, zq1010, Bool.and_true, if_true, if_false, z1ne0, not_true_eq_false, not_false_eq_true, zite10, eq_self, and_true, true_and, and_false, false_and, ↓reduceIte, Int32.reduceLT, Int32.reduceLE, Int32.reduceAdd, Int32.reduceSub, Int32.reduceMul]
        · by_cases e : s' = s
          · subst e
            have h5 := h2.1
            have h6 := h2.2
            refine Or.inr (Or.inl ⟨by grind [zgI_sI], by grind [zgI_sI], ?_, ?_⟩)
            · rw [show zgI (zsI (zsI (zsI M 9 s' 1 1) 9 s' 4 x2) 110 0 s' x2) 9 s' 4 = x2 by grind [zgI_sI], zI_le]
              exact h5
            · rw [show zgI (zsI (zsI (zsI M 9 s' 1 1) 9 s' 4 x2) 110 0 s' x2) 9 s' 4 = x2 by grind [zgI_sI], zI_lt]
              exact h6
          · exact zSh1_eq (h s' hs') (by grind [zgI_sI]) (by grind [zgI_sI]) (by grind [zgI_sI]) (by grind [zgI_sI]) (by grind [zgI_sI]) (by grind [zgI_sI]) (fun i hi => rfl) (fun i hi => rfl) (by grind [zgI_sI])
      · have h3 := S_body (d + 1) x2 M hp
        have h4 := S_isPl d x2 M hp.2.1
        rw [if_neg h2] at h3 h4
        refine ⟨-1, M, M, ?_, ?_, zFr_refl _ M, h⟩
        · simp +decide only [B162_0, B162_5, B162_20, B162_23, B162_25, B162_34, B162_42, S183, hz, hc, h1, h3, zbsome, zpu1, zpu0, cond_true, cond_false, zib0, zib1, zib_ite, zq00, zq20, zq22, zq90, zq99, zq40, zq44, zq100, zq1010, Bool.and_true, if_true, if_false, z1ne0, not_true_eq_false, not_false_eq_true, zite10, eq_self, and_true, true_and, and_false, false_and, ↓reduceIte, Int32.reduceLT, Int32.reduceLE, Int32.reduceAdd, Int32.reduceSub, Int32.reduceMul]
        · simp +decide only [B306_0, B306_4, B306_17, B306_20, B306_22, S305, hz, hc, h1, h4, zbsome, zpu1, zpu0, cond_true, cond_false, zib0, zib1, zib_ite, zq00, zq20, zq22, zq90, zq99, zq40, zq44, zq100, zq1010, Bool.and_true, if_true, if_false, z1ne0, not_true_eq_false, not_false_eq_true, zite10, eq_self, and_true, true_and, and_false, false_and, ↓reduceIte, Int32.reduceLT, Int32.reduceLE, Int32.reduceAdd, Int32.reduceSub, Int32.reduceMul]
  · refine ⟨-1, M, M, ?_, ?_, zFr_refl _ M, h⟩
    · simp +decide only [B162_0, B162_5, B162_20, B162_23, B162_25, B162_34, B162_42, S183, hz, zbsome, zpu1, zpu0, cond_true, cond_false, zib0, zib1, zib_ite, zq00, zq20, zq22, zq90, zq99, zq40, zq44, zq100, zq1010, Bool.and_true, if_true, if_false, z1ne0, not_true_eq_false, not_false_eq_true, zite10, eq_self, and_true, true_and, and_false, false_and, ↓reduceIte, Int32.reduceLT, Int32.reduceLE, Int32.reduceAdd, Int32.reduceSub, Int32.reduceMul]
    · simp +decide only [B306_0, B306_4, B306_17, B306_20, B306_22, S305, hz, zbsome, zpu1, zpu0, cond_true, cond_false, zib0, zib1, zib_ite, zq00, zq20, zq22, zq90, zq99, zq40, zq44, zq100, zq1010, Bool.and_true, if_true, if_false, z1ne0, not_true_eq_false, not_false_eq_true, zite10, eq_self, and_true, true_and, and_false, false_and, ↓reduceIte, Int32.reduceLT, Int32.reduceLE, Int32.reduceAdd, Int32.reduceSub, Int32.reduceMul]
/-- the class's row is emptied from a place on -/
theorem L99 (d s : Nat) (x1 x2 : Int32) : ∀ (j k : Nat) (M : zM), k + j = 60 → ∃ M', zgo false d 99 17 [zr 9 s, zi x1, zi x2, zi (nI k)] [] M = some (none, M') ∧ zFo (fun k i _ => k = 45 ∧ i = s) M M' ∧ ∀ t, t < 60 → zgL M' 45 s t = if k ≤ t then 0 else zgL M 45 s t
  | 0, k, M, hk => by
    have hk : k = 60 := by omega
    subst hk
    refine ⟨M, ?_, zFo_refl _ M, fun t ht => by rw [if_neg (by omega)]⟩
    rw [B99_17, if_pos (by decide)]
  | j + 1, k, M, hk => by
    obtain ⟨M', e, f, v⟩ := L99 d s x1 x2 j (k + 1) (zsL M 45 s k 0) (by omega)
    refine ⟨M', ?_, zFo_trans (zFo_sL (zFo_refl _ M) ⟨rfl, rfl⟩) f, fun t ht => ?_⟩
    · rw [B99_17, if_neg (show ¬ (60 : Int32) ≤ nI k from nI_ge (a := k) (b := 60) (by omega) (by omega)), if_pos (zin_nI (by omega) (by omega)), nI_clamp (by omega), nI_1]
      exact e
    · rw [v t ht, zgL_sL]
      grind
theorem L307 (d : Nat) (s : Nat) (x2 x3 : Int32) (hs : s < 6) : ∀ (j k : Nat) (M : zM), k + j = 60 → ∃ M', zgo false d 307 54 [zr 13 0, zi (nI s), zi x2, zi x3, zi (nI (60 * s + k))] [] M = some (some (zi 1), M') ∧ zFo (fun k i t => k = 112 ∧ i = 0 ∧ 60 * s ≤ t ∧ t < 60 * s + 60) M M' ∧ ∀ t, t < 60 → zgL M' 112 0 (60 * s + t) = if k ≤ t then 0 else zgL M 112 0 (60 * s + t)
  | 0, k, M, hk => by
    have hk : k = 60 := by omega
    subst hk
    refine ⟨M, ?_, zFo_refl _ M, fun t ht => by rw [if_neg (by omega)]⟩
    rw [B307_54, if_pos]
    rw [show (60 : Int32) = nI 60 from rfl, pk_mul, nI_add, nI_leI (by omega) (by omega)]
    omega
  | j + 1, k, M, hk => by
    obtain ⟨M', e, f, v⟩ := L307 d s x2 x3 hs j (k + 1) (zsL M 112 0 (60 * s + k) 0) (by omega)
    refine ⟨M', ?_, zFo_trans (zFo_sL (zFo_refl _ M) ⟨rfl, rfl, by omega, by omega⟩) f, fun t ht => ?_⟩
    · rw [B307_54, if_neg, if_pos (zin_nI (by omega) (by omega)), nI_clamp (by omega), B307_74, nI_1]
      · exact e
      · rw [show (60 : Int32) = nI 60 from rfl, pk_mul, nI_add, nI_leI (by omega) (by omega)]
        omega
    · rw [v t ht, zgL_sL]
      grind
/-- 'lay' -/
theorem Q33 (d : Nat) (x1 x2 x3 : Int32) (u u' : zV) (M : zM) (h : Rsh M) : ∃ (y : Int32) (M1 M2 : zM), zgo false (d + 2) 163 0 [zr 12 0, zi x1, zi x2, zi x3, u] [] M = some (some (zi y), M1) ∧ zgo false (d + 2) 307 0 [zr 13 0, zi x1, zi x2, zi x3, u'] [] M1 = some (some (zi y), M2) ∧ zFr (zo 11) M M2 ∧ Rsh M2 := by
  by_cases hz : zin x1 6 = true
  · obtain ⟨s, hs, rfl⟩ := zin_of hz
    have hc : (nI s).toNatClampNeg = s := nI_clamp (by omega)
    by_cases h1 : 0 ≤ x2 ∧ x2 ≤ 4
    · have h1a : ¬ x2 < 0 := by grind
      have h1b : ¬ 5 ≤ x2 := by grind
      by_cases h2 : x3 ≤ 60
      · by_cases h3 : 0 ≤ x3
        · obtain ⟨M1, e1, f1, v1⟩ := L99 (d + 1) s x2 x3 60 0 (zsI (zsI (zsI M 9 s 1 2) 9 s 2 x2) 9 s 3 x3) (by omega)
          obtain ⟨M2, e2, f2, v2⟩ := L307 (d + 2) s x2 x3 hs 60 0 (zsI (zsI M1 110 0 s (-2 - x2)) 111 0 s x3) (by omega)
          have e2' : zgo false (d + 2) 307 54 [zr 13 0, zi (nI s), zi x2, zi x3, zi (60 * nI s)] [] (zsI (zsI M1 110 0 s (-2 - x2)) 111 0 s x3) = some (some (zi 1), M2) := by
            rw [show (60 : Int32) = nI 60 from rfl, pk_mul]
            exact e2
          have g1 : zFr (zo 11) M M1 := zFr_trans (zFr_sI (zFr_of2 rfl rfl) rfl) (zFr_of f1 (fun k i s q => by rw [q.1]; rfl))
          refine ⟨1, M1, M2, ?_, ?_, zFr_trans (zFr_sI (zFr_sI g1 rfl) rfl) (zFr_of f2 (fun k i s q => by rw [q.1]; rfl)), fun s' hs' => ?_⟩
          · simp +decide only [B163_0, B163_5, B163_27, B163_43, B99_0, S183, hz, hc, h1a, h1b, h2, h3, zbsome, zpu1, zpu0, cond_true, cond_false, zib0, zib1, zib_ite, zq00, zq20, zq22, zq90, zq99, zq40, zq44, zq100, zq1010, Bool.and_true, if_true, if_false, z1ne0, not_true_eq_false, not_false_eq_true, zite10, eq_self, and_true, true_and, and_false, false_and, ↓reduceIte, Int32.reduceLT, Int32.reduceLE, Int32.reduceAdd, Int32.reduceSub, Int32.reduceMul]
            rw [show (0 : Int32) = nI 0 from rfl, e1]
            simp +decide only [B163_0, B163_5, B163_27, B163_43, zbsome, zpu1, zpu0, cond_true, cond_false, zib0, zib1, zib_ite, zq00, zq20, zq22, zq90, zq99, zq40, zq44, zq100, zq1010, Bool.and_true, if_true, if_false, z1ne0, not_true_eq_false, not_false_eq_true, zite10, eq_self, and_true, true_and, and_false, false_and, ↓reduceIte, Int32.reduceLT, Int32.reduceLE, Int32.reduceAdd, Int32.reduceSub, Int32.reduceMul]
          · simp +decide only [B307_0, B307_4, B307_13, B307_41, S305, S_in, hz, hc, h1, h2, h3, zbsome, zpu1, zpu0, cond_true, cond_false, zib0, zib1, zib_ite, zq00, zq20, zq22, zq90, zq99, zq40, zq44, zq100, zq1010, Bool.and_true, if_true, if_false, z1ne0, not_true_eq_false, not_false_eq_true, zite10, eq_self, and_true, true_and, and_false, false_and, ↓reduceIte, Int32.reduceLT, Int32.reduceLE, Int32.reduceAdd, Int32.reduceSub, Int32.reduceMul]
            exact e2'
          · have a : ∀ k i t, k = 9 ∨ k = 110 ∨ k = 111 ∨ k = 13 → zgI M2 k i t = zgI (zsI (zsI M1 110 0 s (-2 - x2)) 111 0 s x3) k i t := fun k i t q => (f2 k i t (by omega)).1
            have b : ∀ k i t, k = 9 ∨ k = 110 ∨ k = 111 ∨ k = 13 → zgI M1 k i t = zgI (zsI (zsI (zsI M 9 s 1 2) 9 s 2 x2) 9 s 3 x3) k i t := fun k i t q => (f1 k i t (by omega)).1
            have a2 : ∀ i t, zgL M2 45 i t = zgL M1 45 i t := fun i t => (f2 45 i t (by omega)).2.1
            have b2 : ∀ i t, zgL M1 112 i t = zgL M 112 i t := fun i t => (f1 112 i t (by omega)).2.1
            by_cases e : s' = s
            · subst e
              refine Or.inr (Or.inr ⟨by grind [zgI_sI], by grind [zgI_sI], by grind [zgI_sI], by grind [zgI_sI], by grind [zgI_sI], fun i hi => ?_, fun i hi => ?_⟩)
              · rw [a2, v1 i hi, v2 i hi, if_pos (by omega), if_pos (by omega)]
              · rw [a2, v1 i hi, if_pos (by omega)]
                exact zlow_0 _
            · refine zSh1_eq (h s' hs') (by grind [zgI_sI]) (by grind [zgI_sI]) (by grind [zgI_sI]) (by grind [zgI_sI]) (by grind [zgI_sI]) (by grind [zgI_sI]) (fun i hi => ?_) (fun i hi => ?_) (by grind [zgI_sI])
              · rw [a2]
                exact (f1 45 s' i (by omega)).2.1
              · rw [(f2 112 0 (60 * s' + i) (by omega)).2.1]
                exact b2 0 (60 * s' + i)
        · refine ⟨-14, M, M, ?_, ?_, zFr_refl _ M, h⟩
          · simp +decide only [B163_0, B163_5, B163_27, B163_43, S183, hz, hc, h1a, h1b, h2, h3, zbsome, zpu1, zpu0, cond_true, cond_false, zib0, zib1, zib_ite, zq00, zq20, zq22, zq90, zq99, zq40, zq44, zq100, zq1010, Bool.and_true, if_true, if_false, z1ne0, not_true_eq_false, not_false_eq_true, zite10, eq_self, and_true, true_and, and_false, false_and, ↓reduceIte, Int32.reduceLT, Int32.reduceLE, Int32.reduceAdd, Int32.reduceSub, Int32.reduceMul]
          · simp +decide only [B307_0, B307_4, B307_13, B307_22, B307_41, S305, S_in, hz, hc, h1, h2, h3, zbsome, zpu1, zpu0, cond_true, cond_false, zib0, zib1, zib_ite, zq00, zq20, zq22, zq90, zq99, zq40, zq44, zq100, zq1010, Bool.and_true, if_true, if_false, z1ne0, not_true_eq_false, not_false_eq_true, zite10, eq_self, and_true, true_and, and_false, false_and, ↓reduceIte, Int32.reduceLT, Int32.reduceLE, Int32.reduceAdd, Int32.reduceSub, Int32.reduceMul]
      · refine ⟨-1, M, M, ?_, ?_, zFr_refl _ M, h⟩
        · simp +decide only [B163_0, B163_5, B163_27, B163_43, S183, hz, hc, h1a, h1b, h2, zbsome, zpu1, zpu0, cond_true, cond_false, zib0, zib1, zib_ite, zq00, zq20, zq22, zq90, zq99, zq40, zq44, zq100, zq1010, Bool.and_true, if_true, if_false, z1ne0, not_true_eq_false, not_false_eq_true, zite10, eq_self, and_true, true_and, and_false, false_and, ↓reduceIte, Int32.reduceLT, Int32.reduceLE, Int32.reduceAdd, Int32.reduceSub, Int32.reduceMul]
        · simp +decide only [B307_0, B307_4, B307_13, B307_22, B307_41, S305, S_in, hz, hc, h1, h2, zbsome, zpu1, zpu0, cond_true, cond_false, zib0, zib1, zib_ite, zq00, zq20, zq22, zq90, zq99, zq40, zq44, zq100, zq1010, Bool.and_true, if_true, if_false, z1ne0, not_true_eq_false, not_false_eq_true, zite10, eq_self, and_true, true_and, and_false, false_and, ↓reduceIte, Int32.reduceLT, Int32.reduceLE, Int32.reduceAdd, Int32.reduceSub, Int32.reduceMul]
    · refine ⟨-1, M, M, ?_, ?_, zFr_refl _ M, h⟩
      · by_cases h1a : x2 < 0
        · simp +decide only [B163_0, B163_5, B163_27, B163_43, S183, hz, hc, h1a, zbsome, zpu1, zpu0, cond_true, cond_false, zib0, zib1, zib_ite, zq00, zq20, zq22, zq90, zq99, zq40, zq44, zq100, zq1010, Bool.and_true, if_true, if_false, z1ne0, not_true_eq_false, not_false_eq_true, zite10, eq_self, and_true, true_and, and_false, false_and, ↓reduceIte, Int32.reduceLT, Int32.reduceLE, Int32.reduceAdd, Int32.reduceSub, Int32.reduceMul]
        · have h1b : 5 ≤ x2 := by grind
          simp +decide only [B163_0, B163_5, B163_27, B163_43, S183, hz, hc, h1a, h1b, zbsome, zpu1, zpu0, cond_true, cond_false, zib0, zib1, zib_ite, zq00, zq20, zq22, zq90, zq99, zq40, zq44, zq100, zq1010, Bool.and_true, if_true, if_false, z1ne0, not_true_eq_false, not_false_eq_true, zite10, eq_self, and_true, true_and, and_false, false_and, ↓reduceIte, Int32.reduceLT, Int32.reduceLE, Int32.reduceAdd, Int32.reduceSub, Int32.reduceMul]
      · simp +decide only [B307_0, B307_4, B307_13, B307_22, B307_41, S305, S_in, hz, hc, h1, zbsome, zpu1, zpu0, cond_true, cond_false, zib0, zib1, zib_ite, zq00, zq20, zq22, zq90, zq99, zq40, zq44, zq100, zq1010, Bool.and_true, if_true, if_false, z1ne0, not_true_eq_false, not_false_eq_true, zite10, eq_self, and_true, true_and, and_false, false_and, ↓reduceIte, Int32.reduceLT, Int32.reduceLE, Int32.reduceAdd, Int32.reduceSub, Int32.reduceMul]
  · refine ⟨-1, M, M, ?_, ?_, zFr_refl _ M, h⟩
    · simp +decide only [B163_0, B163_5, B163_27, B163_43, S183, hz, zbsome, zpu1, zpu0, cond_true, cond_false, zib0, zib1, zib_ite, zq00, zq20, zq22, zq90, zq99, zq40, zq44, zq100, zq1010, Bool.and_true, if_true, if_false, z1ne0, not_true_eq_false, not_false_eq_true, zite10, eq_self, and_true, true_and, and_false, false_and, ↓reduceIte, Int32.reduceLT, Int32.reduceLE, Int32.reduceAdd, Int32.reduceSub, Int32.reduceMul]
    · simp +decide only [B307_0, B307_4, B307_13, B307_22, B307_41, S305, hz, zbsome, zpu1, zpu0, cond_true, cond_false, zib0, zib1, zib_ite, zq00, zq20, zq22, zq90, zq99, zq40, zq44, zq100, zq1010, Bool.and_true, if_true, if_false, z1ne0, not_true_eq_false, not_false_eq_true, zite10, eq_self, and_true, true_and, and_false, false_and, ↓reduceIte, Int32.reduceLT, Int32.reduceLE, Int32.reduceAdd, Int32.reduceSub, Int32.reduceMul]
