/-! ===== the tape ===== -/
theorem yB8 (x : Int32) : (x &&& 255).toInt8.toInt32 = x.toInt8.toInt32 := by
  rw [Int32.toInt8_and, show (255 : Int32).toInt8 = -1 from by decide, Int8.and_neg_one]
theorem yB8' (x : Int32) : x.toInt8.toInt32.toInt8.toInt32 = x.toInt8.toInt32 := by
  rw [Int8.toInt8_toInt32]
theorem yBsh (x : Int32) (k : Nat) (hk : k < 4) : (x >>> ((8 * nI k) &&& 31)) &&& 255 = (x.toUInt32 >>> ((8 * nI k).toUInt32 &&& Int32.toUInt32 31)).toInt32 &&& 255 := by
  rw [show (8 : Int32) * nI k = nI (8 * k) by rw [show (8 : Int32) = nI 8 from rfl, pk_mul]]
  refine b_ext fun i hi => ?_
  rw [b_and, b_and, b_255, b_sshr _ (by omega) x hi, b_ushr _ (by omega)]
  by_cases h : i < 8
  · rw [if_pos (by omega)]
  · simp [h]
/-- the bytes of the tape: the class's as they are, the model's with their sign -/
def Rtp (M : zM) : Prop := ∃ (n : Nat) (t : Nat → Nat), n ≤ 120 ∧ zgI M 8 0 2 = nI n ∧ zgI M 13 0 19 = nI n ∧ ∀ s, s < n → t s < 256 ∧ zgI M 43 0 s = nI (t s) ∧ zgI M 62 0 s = (nI (t s)).toInt8.toInt32
theorem Rtp_fr {m : Nat → Bool} {M M' : zM} (h : zFr m M M') (hm : m 4 = false) (hm' : m 24 = false) (hR : Rtp M) : Rtp M' := by
  obtain ⟨n, t, a, b, c, e⟩ := hR
  refine ⟨n, t, a, by rw [(h 8 0 2 hm).1]; exact b, by rw [(h 13 0 19 hm').1]; exact c, fun s hs => ?_⟩
  rw [(h 43 0 s hm).1, (h 62 0 s hm').1]
  exact e s hs
def yby (x : Int32) (k : Nat) : Int32 := (x.toUInt32 >>> ((8 * nI k).toUInt32 &&& Int32.toUInt32 31)).toInt32 &&& 255
theorem L82 (d n N : Nat) (x : Int32) (hN : N ≤ 4) (hn : n + N ≤ 120) : ∀ (j k : Nat) (M : zM), k + j = N → zgI M 8 0 2 = nI n → ∃ M', zgo false (d + 1) 82 15 [zr 8 0, zi (nI N), zi x, zi (nI k)] [] M = some (some (zi 1), M') ∧ zFo (fun a b c => b = 0 ∧ (a = 43 ∨ (a = 8 ∧ c = 2))) M M' ∧ zgI M' 8 0 2 = nI (n + N) ∧ ∀ s, zgI M' 43 0 s = if n + k ≤ s ∧ s < n + N then yby x (s - n) else zgI M 43 0 s
  | 0, k, M, hk, h0 => by
    have hk : k = N := by omega
    subst hk
    refine ⟨zsI M 8 0 2 (nI (n + k)), ?_, zFo_sI (zFo_refl _ M) ⟨rfl, Or.inr ⟨rfl, rfl⟩⟩, by simp [zgI_sI], fun s => ?_⟩
    · rw [B82_15, if_pos (nI_le (by omega) (by omega)), h0, nI_add]
    · rw [if_neg (by omega)]; rfl
  | j + 1, k, M, hk, h0 => by
    obtain ⟨M', e, f, v2, v⟩ := L82 d n N x hN hn j (k + 1) (zsI M 43 0 (n + k) (yby x k)) (by omega) h0
    refine ⟨M', ?_, zFo_trans (zFo_sI (zFo_refl _ M) ⟨rfl, Or.inl rfl⟩) f, v2, fun s => ?_⟩
    · rw [B82_15, if_neg (nI_ge (by omega) (by omega)), h0, nI_add, se43n _ _ _ _ _ _ (by omega)]
      simp +decide only [B82_43, nI_1, zbsome, zpu1, zpu0, cond_true, cond_false, zib0, zib1, zib_ite, zq00, zq20, zq22, zq90, zq99, zq40, zq44, zq100, zq1010, Bool.and_true, if_true, if_false, z1ne0, not_true_eq_false, not_false_eq_true, zite10, eq_self, and_true, true_and, and_false, false_and, ↓reduceIte, Int32.reduceLT, Int32.reduceLE, Int32.reduceAdd, Int32.reduceSub, Int32.reduceMul]
      exact e
    · rw [v s, zgI_sI]
      by_cases q : s = n + k
      · subst q
        rw [if_neg (by omega), if_pos ⟨rfl, rfl, rfl⟩, if_pos (by omega)]
        congr 1
        omega
      · grind
theorem L210 (d n N : Nat) (x : Int32) (hN : N ≤ 4) (hn : n + N ≤ 120) : ∀ (j k : Nat) (M : zM), k + j = N → zgI M 13 0 19 = nI (n + k) → ∃ M', zgo false d 210 27 [zr 13 0, zi (nI N), zi x, zi (nI k)] [] M = some (some (zi (nI (n + N))), M') ∧ zFo (fun a b c => b = 0 ∧ (a = 62 ∨ (a = 13 ∧ c = 19))) M M' ∧ zgI M' 13 0 19 = nI (n + N) ∧ ∀ s, zgI M' 62 0 s = if n + k ≤ s ∧ s < n + N then (yby x (s - n)).toInt8.toInt32 else zgI M 62 0 s
  | 0, k, M, hk, h0 => by
    have hk : k = N := by omega
    subst hk
    refine ⟨M, ?_, zFo_refl _ M, h0, fun s => ?_⟩
    · rw [B210_27, if_pos (nI_le (by omega) (by omega)), h0]
    · rw [if_neg (by omega)]
  | j + 1, k, M, hk, h0 => by
    have e8 : ((x >>> ((8 * nI k) &&& 31)).toInt8.toInt32).toInt8.toInt32 = (yby x k).toInt8.toInt32 := by
      unfold yby
      rw [yB8', ← yBsh x k (by omega), yB8]
    obtain ⟨M', e, f, v2, v⟩ := L210 d n N x hN hn j (k + 1) (zsI (zsI M 62 0 (n + k) (yby x k).toInt8.toInt32) 13 0 19 (nI (n + k + 1))) (by omega) rfl
    refine ⟨M', ?_, zFo_trans (zFo_sI (zFo_sI (zFo_refl _ M) ⟨rfl, Or.inl rfl⟩) ⟨rfl, Or.inr ⟨rfl, rfl⟩⟩) f, v2, fun s => ?_⟩
    · rw [B210_27, if_neg (nI_ge (by omega) (by omega)), h0, if_pos (zin_nI (by omega) (by omega)), nI_clamp (by omega), e8, B210_48, nI_1]
      rw [show zgI (zsI M 62 0 (n + k) (yby x k).toInt8.toInt32) 13 0 19 = nI (n + k) from h0, nI_1]
      exact e
    · have e13 : zgI (zsI (zsI M 62 0 (n + k) (yby x k).toInt8.toInt32) 13 0 19 (nI (n + k + 1))) 62 0 s = if s = n + k then (yby x k).toInt8.toInt32 else zgI M 62 0 s := by simp [zgI_sI]
      rw [v s, e13]
      by_cases q : s = n + k
      · subst q
        rw [if_neg (by omega), if_pos rfl, if_pos (by omega)]
        congr 3
        omega
      · rw [if_neg q]
        by_cases r : n + (k + 1) ≤ s ∧ s < n + N
        · rw [if_pos r, if_pos (by omega)]
        · rw [if_neg r, if_neg (by omega)]
/-- 'feed' -/
theorem Q3 (d : Nat) (x1 x2 : Int32) (u : zV) (M : zM) (h : Rtp M) : ∃ (y : Int32) (M1 M2 : zM), zgo false (d + 3) 133 0 [zr 12 0, zi x1, zi x2] [] M = some (some (zi y), M1) ∧ zgo false (d + 3) 210 0 [zr 13 0, zi x1, zi x2, u] [] M1 = some (some (zi y), M2) ∧ zFr (zo 4) M M2 ∧ Rtp M2 := by
  have h0 := h
  obtain ⟨n, t, a, b, c, e⟩ := h
  by_cases ok : 1 ≤ x1 ∧ x1 ≤ 4
  case neg =>
    refine ⟨-1, M, M, ?_, ?_, zFr_refl _ M, h0⟩
    · by_cases q : x1 < 1
      · simp +decide only [B133_0, B133_10, B133_21, B133_36, q, zbsome, zpu1, zpu0, cond_true, cond_false, zib0, zib1, zib_ite, zq00, zq20, zq22, zq90, zq99, zq40, zq44, zq100, zq1010, Bool.and_true, if_true, if_false, z1ne0, not_true_eq_false, not_false_eq_true, zite10, eq_self, and_true, true_and, and_false, false_and, ↓reduceIte, Int32.reduceLT, Int32.reduceLE, Int32.reduceAdd, Int32.reduceSub, Int32.reduceMul]
      · have q2 : ¬ x1 ≤ 4 := fun r => ok ⟨z_nlt_le q, r⟩
        simp +decide only [B133_0, B133_10, B133_21, B133_36, q, q2, zbsome, zpu1, zpu0, cond_true, cond_false, zib0, zib1, zib_ite, zq00, zq20, zq22, zq90, zq99, zq40, zq44, zq100, zq1010, Bool.and_true, if_true, if_false, z1ne0, not_true_eq_false, not_false_eq_true, zite10, eq_self, and_true, true_and, and_false, false_and, ↓reduceIte, Int32.reduceLT, Int32.reduceLE, Int32.reduceAdd, Int32.reduceSub, Int32.reduceMul]
    · simp +decide only [B210_0, B210_6, S_in, ok, zbsome, zpu1, zpu0, cond_true, cond_false, zib0, zib1, zib_ite, zq00, zq20, zq22, zq90, zq99, zq40, zq44, zq100, zq1010, Bool.and_true, if_true, if_false, z1ne0, not_true_eq_false, not_false_eq_true, zite10, eq_self, and_true, true_and, and_false, false_and, ↓reduceIte, Int32.reduceLT, Int32.reduceLE, Int32.reduceAdd, Int32.reduceSub, Int32.reduceMul]
  obtain ⟨N, hN, rfl⟩ := zin_of (zin5.mpr ⟨by grind, by grind⟩ : zin x1 5 = true)
  have b1 : ¬ nI N < 1 := z_le_nlt ok.1
  have b2 := ok.2
  by_cases fit : n + N ≤ 120
  case neg =>
    have f1 : ¬ nI (n + N) ≤ 120 := by
      rw [show (120 : Int32) = nI 120 from rfl, nI_leI (by omega) (by omega)]
      omega
    refine ⟨-3, M, M, ?_, ?_, zFr_refl _ M, h0⟩
    · simp +decide only [B133_0, B133_10, B133_21, B133_36, B82_0, b1, b2, b, nI_add, f1, zbsome, zpu1, zpu0, cond_true, cond_false, zib0, zib1, zib_ite, zq00, zq20, zq22, zq90, zq99, zq40, zq44, zq100, zq1010, Bool.and_true, if_true, if_false, z1ne0, not_true_eq_false, not_false_eq_true, zite10, eq_self, and_true, true_and, and_false, false_and, ↓reduceIte, Int32.reduceLT, Int32.reduceLE, Int32.reduceAdd, Int32.reduceSub, Int32.reduceMul]
    · simp +decide only [B210_0, B210_6, S_in, ok, c, nI_add, f1, zbsome, zpu1, zpu0, cond_true, cond_false, zib0, zib1, zib_ite, zq00, zq20, zq22, zq90, zq99, zq40, zq44, zq100, zq1010, Bool.and_true, if_true, if_false, z1ne0, not_true_eq_false, not_false_eq_true, zite10, eq_self, and_true, true_and, and_false, false_and, ↓reduceIte, Int32.reduceLT, Int32.reduceLE, Int32.reduceAdd, Int32.reduceSub, Int32.reduceMul]
  have f1 : nI (n + N) ≤ 120 := nI_le (b := 120) fit (by omega)
  obtain ⟨M1, e1, g1, v1, w1⟩ := L82 (d + 1) n N x2 (by omega) fit N 0 M (by omega) b
  have c' : zgI M1 13 0 19 = nI n := ((g1 13 0 19 (by omega)).1).trans c
  obtain ⟨M2, e2, g2, v2, w2⟩ := L210 (d + 3) n N x2 (by omega) fit N 0 M1 (by omega) c'
  refine ⟨nI (n + N), M1, M2, ?_, ?_, ?_, ?_⟩
  · simp +decide only [B133_0, B133_10, B133_21, B133_36, B82_0, b1, b2, b, nI_add, f1, zbsome, zpu1, zpu0, cond_true, cond_false, zib0, zib1, zib_ite, zq00, zq20, zq22, zq90, zq99, zq40, zq44, zq100, zq1010, Bool.and_true, if_true, if_false, z1ne0, not_true_eq_false, not_false_eq_true, zite10, eq_self, and_true, true_and, and_false, false_and, ↓reduceIte, Int32.reduceLT, Int32.reduceLE, Int32.reduceAdd, Int32.reduceSub, Int32.reduceMul]
    rw [show (0 : Int32) = nI 0 from rfl, e1]
    simp +decide only [B133_0, B133_10, B133_21, B133_36, v1, zbsome, zpu1, zpu0, cond_true, cond_false, zib0, zib1, zib_ite, zq00, zq20, zq22, zq90, zq99, zq40, zq44, zq100, zq1010, Bool.and_true, if_true, if_false, z1ne0, not_true_eq_false, not_false_eq_true, zite10, eq_self, and_true, true_and, and_false, false_and, ↓reduceIte, Int32.reduceLT, Int32.reduceLE, Int32.reduceAdd, Int32.reduceSub, Int32.reduceMul]
  · simp +decide only [B210_0, B210_6, S_in, ok, c', nI_add, f1, zbsome, zpu1, zpu0, cond_true, cond_false, zib0, zib1, zib_ite, zq00, zq20, zq22, zq90, zq99, zq40, zq44, zq100, zq1010, Bool.and_true, if_true, if_false, z1ne0, not_true_eq_false, not_false_eq_true, zite10, eq_self, and_true, true_and, and_false, false_and, ↓reduceIte, Int32.reduceLT, Int32.reduceLE, Int32.reduceAdd, Int32.reduceSub, Int32.reduceMul]
    exact e2
  · exact zFr_trans (zFr_of g1 (fun k i s q => by obtain ⟨rfl, rfl | ⟨rfl, rfl⟩⟩ := q <;> rfl)) (zFr_of g2 (fun k i s q => by obtain ⟨rfl, rfl | ⟨rfl, rfl⟩⟩ := q <;> rfl))
  · have hy : ∀ k, ∃ j : Nat, j < 256 ∧ yby x2 k = nI j := fun k => pk_andE _ 8 rfl
    obtain ⟨f, hf⟩ : ∃ f : Nat → Nat, ∀ k, f k < 256 ∧ yby x2 k = nI (f k) := ⟨fun k => (hy k).choose, fun k => (hy k).choose_spec⟩
    refine ⟨n + N, fun s => if n ≤ s then f (s - n) else t s, fit, ?_, v2, fun s hs => ?_⟩
    · rw [(g2 8 0 2 (by omega)).1]; exact v1
    · rw [(g2 43 0 s (by omega)).1, w1 s, w2 s, (g1 62 0 s (by omega)).1]
      dsimp only
      by_cases q : n ≤ s
      · rw [if_pos q, if_pos (by omega), if_pos (by omega)]
        obtain ⟨r1, r2⟩ := hf (s - n)
        exact ⟨r1, r2, by rw [r2]⟩
      · rw [if_neg q, if_neg (by omega), if_neg (by omega)]
        exact e s (by omega)
