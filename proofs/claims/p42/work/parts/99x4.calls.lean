/-! ===== what the other calls answer ===== -/
theorem sLedn (d n : Nat) {M : zM} (h13 : zgI M 12 0 13 = nI n) : zgo false d 141 0 [zr 12 0, zi (-1), zi 0, zu] [] M = some (some (zi (nI n)), M) := by
  rw [B141_0, if_pos rfl, if_pos rfl, h13]
theorem sLed (d n h : Nat) (w v : Int32) {M : zM} (h13 : zgI M 12 0 13 = nI n) (hn : n ≤ 60) (hh : h < n) (hv : ∀ d, zgo false (d + 1) 29 0 [zr 4 h, zi w] [] M = some (some (zi v), M)) : zgo false (d + 3) 141 0 [zr 12 0, zi (nI h), zi w, zu] [] M = some (some (zi v), M) := by
  have h0 : ¬ nI h = -1 := fun q => by
    have p := nI_pos' (n := h) (by omega)
    rw [q] at p
    exact absurd p (by decide)
  have zb : Nat.beq 4 0 = false := rfl
  have z4 : Nat.beq 4 4 = true := rfl
  rw [B141_0, if_neg h0, B141_14, S182n _ _ _ _ h13 hn hh, zbsome]
  show zgo false (d + 3) 141 19 [zr 12 0, zi (nI h), zi w, zu] [zr 4 h] M = _
  rw [B141_19, zb, cond_false, z4, Bool.and_true, cond_true, hv, zbsome]
  show zgo false (d + 3) 141 34 [zr 12 0, zi (nI h), zi w, zr 4 h] [zi v] M = _
  rw [B141_34]
theorem sTold0 (d h : Nat) (M : zM) : zgo false (d + 1) 29 0 [zr 4 h, zi 0] [] M = some (some (zi (zgI M 4 h 9)), M) := by rw [B29_0, if_pos rfl]
theorem sTold1 (d h : Nat) (M : zM) : zgo false (d + 1) 29 0 [zr 4 h, zi 1] [] M = some (some (zi (zgI M 4 h 10)), M) := by rw [B29_0, if_neg (by decide), if_pos rfl]
theorem sTold4 (d h : Nat) (M : zM) : zgo false (d + 1) 29 0 [zr 4 h, zi 4] [] M = some (some (zi (zgI M 4 h 11)), M) := by rw [B29_0, if_neg (by decide), if_neg (by decide), if_neg (by decide), if_neg (by decide), if_pos rfl]
theorem sTold5 (d h : Nat) (M : zM) : zgo false (d + 1) 29 0 [zr 4 h, zi 5] [] M = some (some (zi (zgI M 4 h 15)), M) := by rw [B29_0, if_neg (by decide), if_neg (by decide), if_neg (by decide), if_neg (by decide), if_neg (by decide), if_pos rfl]
theorem sTold6 (d h : Nat) (M : zM) : zgo false (d + 1) 29 0 [zr 4 h, zi 6] [] M = some (some (zi (zgI M 4 h 12)), M) := by rw [B29_0, if_neg (by decide), if_neg (by decide), if_neg (by decide), if_neg (by decide), if_neg (by decide), if_neg (by decide), if_pos rfl]
theorem sTold8 (d h : Nat) {M : zM} (hw : zgI M 4 h 19 = 0 ∨ zgI M 4 h 19 = 1) : zgo false (d + 1) 29 0 [zr 4 h, zi 8] [] M = some (some (zi (zgI M 4 h 19)), M) := by
  rw [B29_0, if_neg (by decide), if_neg (by decide), if_neg (by decide), if_neg (by decide), if_neg (by decide), if_neg (by decide), if_neg (by decide), if_neg (by decide), if_pos rfl]
  rcases hw with e | e
  · rw [e, if_pos rfl, B29_112]
  · rw [e, if_neg (by decide), B29_112]
theorem sBody (d : Nat) {M : zM} (h12 : zgI M 12 0 12 = 1) : zgo false d 181 0 [zr 12 0, zi 0] [] M = some (some (zr 2 0), M) := by
  rw [B181_0, if_neg (by decide), h12, if_neg (by decide), if_neg (by decide), if_pos (by decide), B181_31]
  rfl
theorem sOf0 (d : Nat) (w : Int32) {M : zM} (h12 : zgI M 12 0 12 = 1) : zgo false (d + 1) 137 0 [zr 12 0, zi 0, zi w, zu] [] M = zgo false (d + 1) 137 5 [zr 12 0, zi 0, zi w, zu] [zr 2 0] M := by
  rw [B137_0, sBody d h12, zbsome]
  rfl
theorem sOf1 (d : Nat) {M : zM} (h12 : zgI M 12 0 12 = 1) : zgo false (d + 1) 137 0 [zr 12 0, zi 0, zi 1, zu] [] M = some (some (zi (zgI M 2 0 1)), M) := by
  rw [sOf0 d 1 h12, B137_5, show Nat.beq 2 0 = false from rfl, cond_false, if_neg (by decide), if_pos rfl, show Nat.beq 2 2 = true from rfl, cond_true]
theorem sOf3 (d : Nat) {M : zM} (h12 : zgI M 12 0 12 = 1) : zgo false (d + 1) 137 0 [zr 12 0, zi 0, zi 3, zu] [] M = some (some (zi (zgI M 2 0 3)), M) := by
  rw [sOf0 d 3 h12, B137_5, show Nat.beq 2 0 = false from rfl, cond_false, if_neg (by decide), if_neg (by decide), if_neg (by decide), if_pos rfl, show Nat.beq 2 2 = true from rfl, cond_true]
theorem sOf4 (d : Nat) {M : zM} (h12 : zgI M 12 0 12 = 1) : zgo false (d + 1) 137 0 [zr 12 0, zi 0, zi 4, zu] [] M = some (some (zi (if zgI M 2 0 3 < zgI M 12 0 15 then 0 else 1)), M) := by
  rw [sOf0 d 4 h12, B137_5, show Nat.beq 2 0 = false from rfl, cond_false, if_neg (by decide), if_neg (by decide), if_neg (by decide), if_neg (by decide), if_pos rfl, show Nat.beq 2 2 = true from rfl, cond_true, B137_88, B137_88]
  by_cases h : zgI M 2 0 3 < zgI M 12 0 15
  · rw [if_pos h, if_pos h]
  · rw [if_neg h, if_neg h]
theorem sOf5 (d : Nat) {M : zM} (h12 : zgI M 12 0 12 = 1) : zgo false (d + 1) 137 0 [zr 12 0, zi 0, zi 5, zu] [] M = some (some (zi (zgI M 2 0 4)), M) := by
  rw [sOf0 d 5 h12, B137_5, show Nat.beq 2 0 = false from rfl, cond_false, if_neg (by decide), if_neg (by decide), if_neg (by decide), if_neg (by decide), if_neg (by decide), if_pos rfl, show Nat.beq 2 2 = true from rfl, cond_true]
theorem sHides (d n : Nat) {M : zM} (h13 : zgI M 12 0 13 = nI n) (hn : n ≤ 60) : zgo false (d + 1) 157 0 [zr 12 0, zu, zu, zu] [] M = some (some (zi (sHi M n)), M) := by
  have L : ∀ (j h : Nat) (u : zV), h + j = n → zgo false (d + 1) 157 4 [zr 12 0, zi (sHi M h), zi (nI h), u] [] M = some (some (zi (sHi M n)), M) := by
    intro j
    induction j with
    | zero =>
      intro h u hj
      have hj : h = n := hj
      subst hj
      rw [B157_4, h13, if_pos (nI_le (Nat.le_refl _) (by omega))]
    | succ j ih =>
      intro h u hj
      have zb : Nat.beq 4 0 = false := rfl
      have z4 : Nat.beq 4 4 = true := rfl
      rw [B157_4, h13, if_neg (nI_ge (by omega) (by omega)), S182n _ _ _ _ h13 hn (by omega), zbsome]
      show zgo false (d + 1) 157 17 [zr 12 0, zi (sHi M h), zi (nI h), u] [zr 4 h] M = _
      rw [B157_17, zb, cond_false, z4, cond_true, cond_true, B157_34, nI_1]
      exact ih (h + 1) (zr 4 h) (by omega)
  rw [B157_0]
  exact L n 0 zu (by omega)
theorem own3 {k i s : Nat} (h : ¬ (k = 3 ∨ k = 21 ∨ k = 22 ∨ k = 23)) : Nat.beq 3 (zown k i s) = false := by
  refine zb_ne ?_
  have L : ∀ k, k < 55 → k ≠ 13 → ¬ (k = 3 ∨ k = 21 ∨ k = 22 ∨ k = 23) → ∀ i s, 3 ≠ zow0 k i s := by
    intro k h1 h0 h2 i s
    rcases (by omega : k < 12 ∨ (12 ≤ k ∧ k < 28) ∨ (28 ≤ k ∧ k < 42) ∨ 42 ≤ k) with q | q | q | q
    · rcases (by omega : k = 0 ∨ k = 1 ∨ k = 2 ∨ k = 4 ∨ k = 5 ∨ k = 6 ∨ k = 7 ∨ k = 8 ∨ k = 9 ∨ k = 10 ∨ k = 11) with rfl | rfl | rfl | rfl | rfl | rfl | rfl | rfl | rfl | rfl | rfl
      · exact (show (3 : Nat) ≠ 12 by decide)
      · show 3 ≠ if s = 1 then 10 else 12
        repeat' split
        all_goals decide
      · show 3 ≠ if i < 10 then 6 else 12
        repeat' split
        all_goals decide
      · show 3 ≠ if i < 60 ∧ s ≠ 16 then 7 else 12
        repeat' split
        all_goals decide
      · exact (show (3 : Nat) ≠ 12 by decide)
      · exact (show (3 : Nat) ≠ 8 by decide)
      · exact (show (3 : Nat) ≠ 12 by decide)
      · show 3 ≠ if s = 2 then 4 else 12
        repeat' split
        all_goals decide
      · exact (show (3 : Nat) ≠ 11 by decide)
      · show 3 ≠ if i = 0 then 1 else 12
        repeat' split
        all_goals decide
      · show 3 ≠ if s = 3 then 12 else 5
        repeat' split
        all_goals decide
    · rcases (by omega : k = 12 ∨ k = 14 ∨ k = 15 ∨ k = 16 ∨ k = 17 ∨ k = 18 ∨ k = 19 ∨ k = 20 ∨ k = 24 ∨ k = 25 ∨ k = 26 ∨ k = 27) with rfl | rfl | rfl | rfl | rfl | rfl | rfl | rfl | rfl | rfl | rfl | rfl
      · show 3 ≠ if s = 15 then 2 else if s = 12 then 6 else if s = 13 then 7 else if s = 14 then 9 else 0
        repeat' split
        all_goals decide
      · exact (show (3 : Nat) ≠ 12 by decide)
      · exact (show (3 : Nat) ≠ 12 by decide)
      · exact (show (3 : Nat) ≠ 12 by decide)
      · exact (show (3 : Nat) ≠ 12 by decide)
      · exact (show (3 : Nat) ≠ 12 by decide)
      · exact (show (3 : Nat) ≠ 12 by decide)
      · exact (show (3 : Nat) ≠ 10 by decide)
      · show 3 ≠ if i < 60 then 7 else 12
        repeat' split
        all_goals decide
      · show 3 ≠ if i < 60 then 7 else 12
        repeat' split
        all_goals decide
      · exact (show (3 : Nat) ≠ 12 by decide)
      · exact (show (3 : Nat) ≠ 12 by decide)
    · rcases (by omega : k = 28 ∨ k = 29 ∨ k = 30 ∨ k = 31 ∨ k = 32 ∨ k = 33 ∨ k = 34 ∨ k = 35 ∨ k = 36 ∨ k = 37 ∨ k = 38 ∨ k = 39 ∨ k = 40 ∨ k = 41) with rfl | rfl | rfl | rfl | rfl | rfl | rfl | rfl | rfl | rfl | rfl | rfl | rfl | rfl
      · show 3 ≠ if i < 60 then 7 else 12
        repeat' split
        all_goals decide
      · exact (show (3 : Nat) ≠ 2 by decide)
      · exact (show (3 : Nat) ≠ 5 by decide)
      · exact (show (3 : Nat) ≠ 12 by decide)
      · exact (show (3 : Nat) ≠ 8 by decide)
      · exact (show (3 : Nat) ≠ 12 by decide)
      · exact (show (3 : Nat) ≠ 12 by decide)
      · exact (show (3 : Nat) ≠ 0 by decide)
      · exact (show (3 : Nat) ≠ 12 by decide)
      · exact (show (3 : Nat) ≠ 12 by decide)
      · exact (show (3 : Nat) ≠ 12 by decide)
      · exact (show (3 : Nat) ≠ 12 by decide)
      · exact (show (3 : Nat) ≠ 12 by decide)
      · exact (show (3 : Nat) ≠ 12 by decide)
    · rcases (by omega : k = 42 ∨ k = 43 ∨ k = 44 ∨ k = 45 ∨ k = 46 ∨ k = 47 ∨ k = 48 ∨ k = 49 ∨ k = 50 ∨ k = 51 ∨ k = 52 ∨ k = 53 ∨ k = 54) with rfl | rfl | rfl | rfl | rfl | rfl | rfl | rfl | rfl | rfl | rfl | rfl | rfl
      · exact (show (3 : Nat) ≠ 12 by decide)
      · exact (show (3 : Nat) ≠ 4 by decide)
      · exact (show (3 : Nat) ≠ 12 by decide)
      · exact (show (3 : Nat) ≠ 11 by decide)
      · show 3 ≠ if i = 0 then 1 else 12
        repeat' split
        all_goals decide
      · show 3 ≠ if i = 0 then 1 else 12
        repeat' split
        all_goals decide
      · exact (show (3 : Nat) ≠ 5 by decide)
      · exact (show (3 : Nat) ≠ 12 by decide)
      · exact (show (3 : Nat) ≠ 12 by decide)
      · exact (show (3 : Nat) ≠ 12 by decide)
      · exact (show (3 : Nat) ≠ 12 by decide)
      · exact (show (3 : Nat) ≠ 12 by decide)
      · exact (show (3 : Nat) ≠ 9 by decide)
  unfold zown
  by_cases c : k = 13 ∨ 55 ≤ k
  · rw [if_pos c]; omega
  · rw [if_neg c]; exact L k (by omega) (by omega) h i s
def sLf (a b c : Nat) : Prop := a = 3 ∨ a = 21 ∨ a = 22 ∨ a = 23 ∨ (a = 12 ∧ b = 0 ∧ c = 15)
/-- 'limit', as it becomes another -/
theorem sLimit (d n : Nat) (x : Int32) {M : zM} (hn : zgI M 3 0 3 = nI n) (hn2 : n < 40) (h1 : ¬ x < 1) (h2 : x ≤ 9999) (hne : ¬ zgI M 12 0 15 = x) : ∃ M', zgo false (d + 3) 139 0 [zr 12 0, zi x, zu] [] M = some (some (zi (zgI M 12 0 15)), M') ∧ zFo sLf M M' ∧ zgI M' 12 0 15 = x ∧ zgI M' 3 0 3 = nI (n + 1) := by
  obtain ⟨M1, e1, f1, a1, -⟩ := S_come15 d n 4 (zgI M 12 0 15) x M hn (by omega)
  have f1 : zFo sLf M M1 := fun k i s hk => f1 k i s (own3 (fun q => hk (by unfold sLf; omega)))
  have hz : znn n = n := if_neg (by omega)
  rw [hz] at a1
  refine ⟨zsI M1 12 0 15 x, ?_, zFo_sI f1 (Or.inr (Or.inr (Or.inr (Or.inr ⟨rfl, rfl, rfl⟩)))), by rw [zgI_sI, if_pos ⟨rfl, rfl, rfl⟩], by rw [zgI_sI, if_neg (by omega)]; exact a1⟩
  rw [B139_0, if_neg h1, if_pos h2, if_neg hne, e1, zbsome, zpu0, B139_34]
def sPf (a b c : Nat) : Prop := (a = 2 ∧ b = 0 ∧ c ≤ 2) ∨ (a = 12 ∧ b = 0 ∧ c = 12)
/-- 'player', the first one -/
theorem sPlayer (d k U : Nat) (c : Int32) {M : zM} (h12 : zgI M 12 0 12 = 0) (hk : k ≤ 7) (hU : U ≤ 60) (c1 : ¬ c < -99) (c2 : c ≤ 99) : ∃ M', zgo false d 136 0 [zr 12 0, zi (nI k), zi (nI U), zi c, zu] [] M = some (some (zi 0), M') ∧ zFo sPf M M' ∧ zgI M' 2 0 0 = nI k ∧ zgI M' 2 0 1 = nI (100 * U) ∧ zgI M' 2 0 2 = c ∧ zgI M' 12 0 12 = 1 := by
  have k1 : ¬ nI k < 0 := nI_pos (by omega)
  have k2 : ¬ (8 : Int32) ≤ nI k := nI_ge (b := 8) (by omega) (by omega)
  have u1 : ¬ nI U < 0 := nI_pos (by omega)
  have u2 : ¬ (99999 : Int32) < nI U := nI_nlt (a := 99999) (by omega) (by omega)
  have z0 : zin (0 : Int32) 10 = true := by decide
  have c0 : (0 : Int32).toNatClampNeg = 0 := rfl
  have eU : nI U * 100 = nI (100 * U) := by
    rw [show (100 : Int32) = nI 100 from rfl, pk_mul, Nat.mul_comm]
  refine ⟨zsI (zsI (zsI (zsI M 2 0 0 (nI k)) 2 0 1 (nI (100 * U))) 2 0 2 c) 12 0 12 1, ?_, ?_, ?_, ?_, ?_, rfl⟩
  · rw [B136_0, if_neg k1, if_neg k2, if_neg u1, if_neg u2, if_neg c1, if_pos c2, h12, if_neg (by decide), if_pos (by decide), if_pos z0, c0, B136_83, eU, B136_108]
    have e12 : zgI (zsI (zsI (zsI M 2 0 0 (nI k)) 2 0 1 (nI (100 * U))) 2 0 2 c) 12 0 12 = 0 := h12
    rw [e12, show (0 : Int32) + 1 = 1 from rfl, zgI_sI, if_pos ⟨rfl, rfl, rfl⟩]
    rfl
  · exact zFo_sI (zFo_sI (zFo_sI (zFo_sI (zFo_refl _ M) (Or.inl ⟨rfl, rfl, by omega⟩)) (Or.inl ⟨rfl, rfl, by omega⟩)) (Or.inl ⟨rfl, rfl, by omega⟩)) (Or.inr ⟨rfl, rfl, rfl⟩)
  · rw [zgI_sI, if_neg (by omega), zgI_sI, if_neg (by omega), zgI_sI, if_neg (by omega), zgI_sI, if_pos ⟨rfl, rfl, rfl⟩]
  · rw [zgI_sI, if_neg (by omega), zgI_sI, if_neg (by omega), zgI_sI, if_pos ⟨rfl, rfl, rfl⟩]
  · rw [zgI_sI, if_neg (by omega), zgI_sI, if_pos ⟨rfl, rfl, rfl⟩]
def sSf (a b c : Nat) : Prop := b = 0 ∧ (a = 47 ∨ (a = 10 ∧ (c = 2 ∨ (6 ≤ c ∧ c ≤ 9))))
/-- 'shoe': packs -/
theorem sPacks (d P : Nat) {M : zM} (hP : 1 ≤ P ∧ P ≤ 8) : ∃ M', zgo false (d + 3) 130 0 [zr 12 0, zi 1, zi (nI P)] [] M = some (some (zi (zgI M 10 0 2)), M') ∧ zFo sSf M M' ∧ zgI M' 10 0 2 = nI P ∧ zgI M' 10 0 6 = 0 ∧ zgI M' 10 0 7 = 0 ∧ zgI M' 10 0 8 = 0 ∧ zgI M' 10 0 9 = 1 ∧ ∀ t, t ≤ 10 → zgI M' 47 0 t = 0 := by
  obtain ⟨M1, e1, f1, v7, v8, v⟩ := L118 d 0 11 0 (zsI M 10 0 2 (nI P)) (by omega)
  have e1 : zgo false (d + 1) 118 0 [zr 10 0, zu] [] (zsI M 10 0 2 (nI P)) = some (none, M1) := by rw [B118_0]; exact e1
  refine ⟨zsI (zsI M1 10 0 6 0) 10 0 9 1, ?_, ?_, ?_, rfl, ?_, ?_, rfl, fun t ht => ?_⟩
  · rw [B130_0, if_neg (by decide), if_pos rfl, if_neg (show ¬ nI P < 1 from nI_nlt (b := 1) (by omega) (by omega)), if_neg (show ¬ (8 : Int32) < nI P from nI_nlt (a := 8) (by omega) (by omega)), B110_0, e1, zbsome, zpu0, B110_14, zbsome]
    show zgo false (d + 3) 130 37 [zr 12 0, zi 1, zi (nI P)] [zi (zgI M 10 0 2)] _ = _
    rw [B130_37]
  · exact zFo_sI (zFo_sI (zFo_trans (zFo_sI (zFo_refl _ M) ⟨rfl, Or.inr ⟨rfl, Or.inl rfl⟩⟩) (zFo_mono f1 (fun a b c y => ⟨y.1, by omega⟩))) ⟨rfl, by omega⟩) ⟨rfl, by omega⟩
  · rw [zgI_sI, if_neg (by omega), zgI_sI, if_neg (by omega), (f1 10 0 2 (by omega)).1, zgI_sI, if_pos ⟨rfl, rfl, rfl⟩]
  · rw [zgI_sI, if_neg (by omega), zgI_sI, if_neg (by omega)]; exact v7
  · rw [zgI_sI, if_neg (by omega), zgI_sI, if_neg (by omega)]; exact v8
  · rw [zgI_sI, if_neg (by omega), zgI_sI, if_neg (by omega), v t ht, if_pos (Nat.zero_le _)]
/-- 'shoe': the seed -/
theorem sSeed (d : Nat) (v : Int32) {M : zM} : zgo false (d + 1) 130 0 [zr 12 0, zi 0, zi v] [] M = some (some (zi (zgI M 10 0 4)), zsI (zsI (zsI M 10 0 4 v) 10 0 5 v) 10 0 9 1) := by
  rw [B130_0, if_pos rfl, B109_0, B109_20, zbsome]
  show zgo false (d + 1) 130 12 [zr 12 0, zi 0, zi v] [zi (zgI M 10 0 4)] _ = _
  rw [B130_12]
