/-! ===== how deep to deal: all the trials ===== -/
def trC (p a b c : Nat) : Prop := trB p a b c ∨ (b = 0 ∧ a = 13 ∧ (c = 81 ∨ c = 82))
theorem trC_own {p a b c : Nat} (w : trC p a b c) : ¬ (a = 13 ∧ (c = 1 ∨ c = 3 ∨ c = 6 ∨ (9 ≤ c ∧ c < 59) ∨ (72 ≤ c ∧ c < 81) ∨ 82 < c)) ∧ ¬ a = 70 ∧ ¬ a = 72 ∧ ¬ (57 ≤ a ∧ a ≤ 67) ∧ ¬ 96 ≤ a ∧ ¬ (70 ≤ a ∧ a ≤ 75 ∧ ¬ c = p) := by
  rcases w with w | w
  · obtain ⟨a1, a2, a3, a4, a5, a6⟩ := trB_own w
    exact ⟨by omega, a2, a3, a4, a5, a6⟩
  · exact ⟨by omega, by omega, by omega, by omega, by omega, by omega⟩
theorem trH_frC {p P kd N : Nat} {T : Nat → List (List yOp × List yOp)} {q : Nat → Nat} {x4 x5 x7 : Int32} {A B A' B' : zM} (hp : p < 10) (H : trH p P kd N T q x4 x5 x7 A B) (f : zFo trA A A') (g : zFo (trC p) B B') : trH p P kd N T q x4 x5 x7 A' B' := by
  obtain ⟨⟨h1, h2⟩, ht, ⟨h3, h4⟩, h5, h6, h7, h8, h9, h10⟩ := H
  have fb : ∀ c, zgI A' 2 p c = zgI A 2 p c := fun c => (f 2 p c (fun w => (trA_own w).2.1 ⟨rfl, hp⟩)).1
  refine ⟨⟨?_, ?_⟩, yTy_g ht f g (fun u w => (trA_own w).2.2.2.2.1 ⟨rfl, rfl⟩) (fun u s w => (trA_own w).2.2.2.1 rfl) (fun v w => (trA_own w).2.2.2.2.2.1 rfl) (fun v w => (trA_own w).2.2.2.2.2.2.1 rfl) (fun v w => (trA_own w).2.2.2.2.2.2.2 rfl) (fun k s k1 k2 w => (trC_own w).2.2.2.1 ⟨k1, k2⟩), ⟨?_, ?_⟩, ?_, ?_, ?_, ?_, ?_, ?_⟩
  · rw [(f 10 0 2 (fun w => (trA_own w).1 ⟨rfl, rfl⟩)).1]; exact h1
  · rw [(g 13 0 1 (fun w => (trC_own w).1 ⟨rfl, by omega⟩)).1]; exact h2
  · rw [fb]; exact h3
  · rw [(g 70 0 p (fun w => (trC_own w).2.1 rfl)).1]; exact h4
  · rw [fb]; exact h5
  · rw [fb, (g 72 0 p (fun w => (trC_own w).2.2.1 rfl)).1]; exact h6
  · rw [fb]; exact h7
  · rw [fb]; exact h8
  · rw [fb]; exact h9
  · rw [(f 12 0 15 (fun w => (trA_own w).2.2.1 rfl)).1, (g 13 0 11 (fun w => (trC_own w).1 ⟨rfl, by omega⟩)).1]; exact h10
theorem OLd (d p n kd P N : Nat) (x3 x4 x5 x7 x8 x9 x10 x11 x12 x13 w : Int32) {T : Nat → List (List yOp × List yOp)} {q : Nat → Nat} (hn : n ≤ 60) (hp : p < 10) (hP : 1 ≤ P ∧ P ≤ 8) (hkd : kd ≤ 7) (hN : N + 60 ≤ 1000000) : ∀ (j k : Nat) (A B : zM) (y6 y7 : Int32) (u9 u16 : zV), k + j = 17 → trH p P kd N T q x4 x5 x7 A B → zgI B 13 0 81 = y6 → zgI B 13 0 82 = y7 → ∃ (A' B' : zM) (z6 z7 : Int32) (v9 v16 : zV), zgo false (d + 34) 150 57 [zr 12 0, zi (nI p), zi (nI n), zi x3, zi w, zr 2 p, zi y6, zi y7, zi (nI (15 + 5 * k)), u9] [] A = zgo false (d + 34) 150 57 [zr 12 0, zi (nI p), zi (nI n), zi x3, zi w, zr 2 p, zi z6, zi z7, zi (nI 100), v9] [] A' ∧ zgo false (d + 34) 280 141 [zr 13 0, zi (nI p), zi (nI n), zi x3, zi x4, zi x5, zi (nI N), zi x7, zi x8, zi x9, zi x10, zi x11, zi x12, zi x13, zi 1, zi (nI (15 + 5 * k)), u16] [] B = zgo false (d + 34) 280 141 [zr 13 0, zi (nI p), zi (nI n), zi x3, zi x4, zi x5, zi (nI N), zi x7, zi x8, zi x9, zi x10, zi x11, zi x12, zi x13, zi 1, zi (nI 100), v16] [] B' ∧ zFo trA A A' ∧ zFo (trC p) B B' ∧ zgI B' 13 0 81 = z6 ∧ zgI B' 13 0 82 = z7 := by
  intro j
  induction j with
  | zero =>
    intro k A B y6 y7 u9 u16 hj H b1 b2
    have hj : k = 17 := hj
    subst hj
    exact ⟨A, B, y6, y7, u9, u16, rfl, rfl, zFo_refl _ A, zFo_refl _ B, b1, b2⟩
  | succ j ih =>
    intro k A B y6 y7 u9 u16 hj H b1 b2
    obtain ⟨A1, B1, y, r1, r2, f1, g1⟩ := TR d p n kd P (15 + 5 * k) N x3 x4 x5 x7 x8 x9 x10 x11 x12 x13 1 u16 hn hp hP (by omega) hkd hN H
    have l95 : ¬ (95 : Int32) < nI (15 + 5 * k) := nI_nlt (a := 95) (by omega) (by omega)
    have e5 : nI (15 + 5 * k) + 5 = nI (15 + 5 * (k + 1)) := by
      rw [show (5 : Int32) = nI 5 from rfl, nI_add]
      rfl
    have k1 : zgI B1 13 0 81 = y6 := ((g1 13 0 81 (fun w => (trB_own w).1 ⟨rfl, by omega⟩)).1).trans b1
    have k2 : zgI B1 13 0 82 = y7 := ((g1 13 0 82 (fun w => (trB_own w).1 ⟨rfl, by omega⟩)).1).trans b2
    have g1' : zFo (trC p) B B1 := zFo_mono g1 (fun a b c w => Or.inl w)
    by_cases c : y7 ≤ y
    · obtain ⟨A', B', z6, z7, v9, v16, s1, s2, s3, s4, s5, s6⟩ := ih (k + 1) A1 B1 y6 y7 (zi y) (zi y) (by omega) (trH_frC hp H f1 g1') k1 k2
      refine ⟨A', B', z6, z7, v9, v16, ?_, ?_, zFo_trans f1 s3, zFo_trans g1' s4, s5, s6⟩
      · rw [B150_57, if_neg l95, r1, zbsome, zpu1, B150_74, if_pos c, B150_91, e5]
        exact s1
      · rw [r2, B280_211, if_neg (show ¬ (1 : Int32) = 0 by decide), k2, if_neg (show ¬ y < y7 by grind), B280_245, e5]
        exact s2
    · obtain ⟨B2, hB2⟩ : ∃ M, M = zsI (zsI B1 13 0 81 (nI (15 + 5 * k))) 13 0 82 y := ⟨_, rfl⟩
      have g2 : zFo (fun a b c => b = 0 ∧ a = 13 ∧ (c = 81 ∨ c = 82)) B1 B2 := by
        rw [hB2]
        exact zFo_sI (zFo_sI (zFo_refl _ B1) (by omega)) (by omega)
      have g2' : zFo (trC p) B B2 := zFo_trans g1' (zFo_mono g2 (fun a b c w => Or.inr w))
      obtain ⟨A', B', z6, z7, v9, v16, s1, s2, s3, s4, s5, s6⟩ := ih (k + 1) A1 B2 (nI (15 + 5 * k)) y (zi y) (zi y) (by omega) (trH_frC hp H f1 g2') (by rw [hB2]; simp +decide [zgI_sI]) (by rw [hB2]; simp +decide [zgI_sI])
      refine ⟨A', B', z6, z7, v9, v16, ?_, ?_, zFo_trans f1 s3, zFo_trans g2' s4, s5, s6⟩
      · rw [B150_57, if_neg l95, r1, zbsome, zpu1, B150_74, if_neg c, B150_91, e5]
        exact s1
      · rw [r2, B280_211, if_neg (show ¬ (1 : Int32) = 0 by decide), k2, if_pos (show y < y7 by grind), B280_230, ← hB2, B280_245, e5]
        exact s2
/-- all of them, from the first -/
theorem OAd (d p n kd P N : Nat) (x3 x4 x5 x7 x8 x9 x10 x11 x12 x13 w : Int32) {T : Nat → List (List yOp × List yOp)} {q : Nat → Nat} (hn : n ≤ 60) (hp : p < 10) (hP : 1 ≤ P ∧ P ≤ 8) (hkd : kd ≤ 7) (hN : N + 60 ≤ 1000000) (A B : zM) (u16 : zV) (H : trH p P kd N T q x4 x5 x7 A B) : ∃ (A' B' : zM) (z6 z7 : Int32) (v16 : zV), ((zgo false (d + 33) 191 0 [zr 12 0, zr 2 p, zi (nI n), zi x3, zi 10, zu, zu] [] A).bind fun q => zgo false (d + 34) 150 51 [zr 12 0, zi (nI p), zi (nI n), zi x3, zi w, zr 2 p, zi 10, zu, zu, zu] (zpush q.1 []) q.2) = some (some (zi (if w = 0 then z6 else z7)), A') ∧ zgo false (d + 34) 280 141 [zr 13 0, zi (nI p), zi (nI n), zi x3, zi x4, zi x5, zi (nI N), zi x7, zi x8, zi x9, zi x10, zi x11, zi x12, zi x13, zi 0, zi 10, u16] [] B = zgo false (d + 34) 280 141 [zr 13 0, zi (nI p), zi (nI n), zi x3, zi x4, zi x5, zi (nI N), zi x7, zi x8, zi x9, zi x10, zi x11, zi x12, zi x13, zi 1, zi (nI 100), v16] [] B' ∧ zFo trA A A' ∧ zFo (trC p) B B' ∧ zgI B' 13 0 81 = z6 ∧ zgI B' 13 0 82 = z7 := by
  obtain ⟨A1, B1, y, r1, r2, f1, g1⟩ := TR d p n kd P 10 N x3 x4 x5 x7 x8 x9 x10 x11 x12 x13 0 u16 hn hp hP (by omega) hkd hN H
  have r1 : zgo false (d + 33) 191 0 [zr 12 0, zr 2 p, zi (nI n), zi x3, zi 10, zu, zu] [] A = some (some (zi y), A1) := r1
  have r2 : zgo false (d + 34) 280 141 [zr 13 0, zi (nI p), zi (nI n), zi x3, zi x4, zi x5, zi (nI N), zi x7, zi x8, zi x9, zi x10, zi x11, zi x12, zi x13, zi 0, zi 10, u16] [] B = zgo false (d + 34) 280 211 [zr 13 0, zi (nI p), zi (nI n), zi x3, zi x4, zi x5, zi (nI N), zi x7, zi x8, zi x9, zi x10, zi x11, zi x12, zi x13, zi 0, zi 10, u16] [zi y] B1 := r2
  obtain ⟨B2, hB2⟩ : ∃ M, M = zsI (zsI B1 13 0 81 10) 13 0 82 y := ⟨_, rfl⟩
  have g2 : zFo (fun a b c => b = 0 ∧ a = 13 ∧ (c = 81 ∨ c = 82)) B1 B2 := by
    rw [hB2]
    exact zFo_sI (zFo_sI (zFo_refl _ B1) (by omega)) (by omega)
  have g2' : zFo (trC p) B B2 := zFo_trans (zFo_mono g1 (fun a b c w => Or.inl w)) (zFo_mono g2 (fun a b c w => Or.inr w))
  obtain ⟨A', B', z6, z7, v9, v16, s1, s2, s3, s4, s5, s6⟩ := OLd d p n kd P N x3 x4 x5 x7 x8 x9 x10 x11 x12 x13 w hn hp hP hkd hN 17 0 A1 B2 10 y zu (zi y) rfl (trH_frC hp H f1 g2') (by rw [hB2]; simp +decide [zgI_sI]) (by rw [hB2]; simp +decide [zgI_sI])
  have s1 : zgo false (d + 34) 150 57 [zr 12 0, zi (nI p), zi (nI n), zi x3, zi w, zr 2 p, zi 10, zi y, zi 15, zu] [] A1 = zgo false (d + 34) 150 57 [zr 12 0, zi (nI p), zi (nI n), zi x3, zi w, zr 2 p, zi z6, zi z7, zi (nI 100), v9] [] A' := s1
  have s2 : zgo false (d + 34) 280 141 [zr 13 0, zi (nI p), zi (nI n), zi x3, zi x4, zi x5, zi (nI N), zi x7, zi x8, zi x9, zi x10, zi x11, zi x12, zi x13, zi 1, zi 15, zi y] [] B2 = zgo false (d + 34) 280 141 [zr 13 0, zi (nI p), zi (nI n), zi x3, zi x4, zi x5, zi (nI N), zi x7, zi x8, zi x9, zi x10, zi x11, zi x12, zi x13, zi 1, zi (nI 100), v16] [] B' := s2
  refine ⟨A', B', z6, z7, v16, ?_, ?_, zFo_trans f1 s3, zFo_trans g2' s4, s5, s6⟩
  · rw [r1, zbsome, zpu1, B150_51]
    refine s1.trans ?_
    rw [B150_57, if_pos (show (95 : Int32) < nI 100 by decide)]
    by_cases c : w = 0
    · rw [if_pos c, if_pos c, B150_109]
    · rw [if_neg c, if_neg c, B150_109]
  · rw [r2, B280_211, if_pos rfl, B280_230, ← hB2, B280_245, show (10 : Int32) + 5 = 15 from rfl]
    exact s2
