/-! ===== how deep to deal: a trial, both sides ===== -/
/-- what a trial needs and leaves -/
def trH (p P kd N : Nat) (T : Nat → List (List yOp × List yOp)) (q : Nat → Nat) (x4 x5 x7 : Int32) (A B : zM) : Prop := (zgI A 10 0 2 = nI P ∧ zgI B 13 0 1 = nI P) ∧ yTy T q A B ∧ (zgI A 2 p 0 = nI kd ∧ zgI B 70 0 p = nI kd) ∧ zgI A 2 p 1 = x4 ∧ zgI A 2 p 2 = zgI B 72 0 p ∧ zgI A 2 p 3 = x5 ∧ zgI A 2 p 4 = nI N ∧ zgI A 2 p 5 = x7 ∧ zgI A 12 0 15 = zgI B 13 0 11
theorem trA_own {a b c : Nat} (w : trA a b c) : ¬ (a = 10 ∧ b = 0) ∧ ¬ (a = 2 ∧ b < 10) ∧ ¬ a = 12 ∧ ¬ a = 48 ∧ ¬ (a = 11 ∧ c = 2) ∧ ¬ a = 30 ∧ ¬ a = 29 ∧ ¬ a = 35 := by
  rcases w with (w | w | w | w | w) | w | w
  · omega
  · omega
  · omega
  · omega
  · omega
  · omega
  · omega
theorem trB_own {p a b c : Nat} (w : trB p a b c) : ¬ (a = 13 ∧ (c = 1 ∨ c = 3 ∨ c = 6 ∨ (9 ≤ c ∧ c < 59) ∨ 72 ≤ c)) ∧ ¬ a = 70 ∧ ¬ a = 72 ∧ ¬ (57 ≤ a ∧ a ≤ 67) ∧ ¬ 96 ≤ a ∧ ¬ (70 ≤ a ∧ a ≤ 75 ∧ ¬ c = p) := by
  rcases w with (⟨h, -, -, y⟩ | y) | y
  · rcases y with y | y | y | y | y | y | y | y | y | y | y <;> omega
  · omega
  · omega
theorem trH_fr {p P kd N : Nat} {T : Nat → List (List yOp × List yOp)} {q : Nat → Nat} {x4 x5 x7 : Int32} {A B A' B' : zM} (hp : p < 10) (H : trH p P kd N T q x4 x5 x7 A B) (f : zFo trA A A') (g : zFo (trB p) B B') : trH p P kd N T q x4 x5 x7 A' B' := by
  obtain ⟨⟨h1, h2⟩, ht, ⟨h3, h4⟩, h5, h6, h7, h8, h9, h10⟩ := H
  have fb : ∀ c, zgI A' 2 p c = zgI A 2 p c := fun c => (f 2 p c (fun w => (trA_own w).2.1 ⟨rfl, hp⟩)).1
  refine ⟨⟨?_, ?_⟩, yTy_g ht f g (fun u w => (trA_own w).2.2.2.2.1 ⟨rfl, rfl⟩) (fun u s w => (trA_own w).2.2.2.1 rfl) (fun v w => (trA_own w).2.2.2.2.2.1 rfl) (fun v w => (trA_own w).2.2.2.2.2.2.1 rfl) (fun v w => (trA_own w).2.2.2.2.2.2.2 rfl) (fun k s k1 k2 w => (trB_own w).2.2.2.1 ⟨k1, k2⟩), ⟨?_, ?_⟩, ?_, ?_, ?_, ?_, ?_, ?_⟩
  · rw [(f 10 0 2 (fun w => (trA_own w).1 ⟨rfl, rfl⟩)).1]; exact h1
  · rw [(g 13 0 1 (fun w => (trB_own w).1 ⟨rfl, by omega⟩)).1]; exact h2
  · rw [fb]; exact h3
  · rw [(g 70 0 p (fun w => (trB_own w).2.1 rfl)).1]; exact h4
  · rw [fb]; exact h5
  · rw [fb, (g 72 0 p (fun w => (trB_own w).2.2.1 rfl)).1]; exact h6
  · rw [fb]; exact h7
  · rw [fb]; exact h8
  · rw [fb]; exact h9
  · rw [(f 12 0 15 (fun w => (trA_own w).2.2.1 rfl)).1, (g 13 0 11 (fun w => (trB_own w).1 ⟨rfl, by omega⟩)).1]; exact h10
theorem TR (d p n kd P C N : Nat) (x3 x4 x5 x7 x8 x9 x10 x11 x12 x13 x14 : Int32) (u16 : zV) {T : Nat → List (List yOp × List yOp)} {q : Nat → Nat} {A B : zM} (hn : n ≤ 60) (hp : p < 10) (hP : 1 ≤ P ∧ P ≤ 8) (hC : 10 ≤ C ∧ C ≤ 95) (hkd : kd ≤ 7) (hN : N + 60 ≤ 1000000) (H : trH p P kd N T q x4 x5 x7 A B) : ∃ (A' B' : zM) (y : Int32), zgo false (d + 33) 191 0 [zr 12 0, zr 2 p, zi (nI n), zi x3, zi (nI C), zu, zu] [] A = some (some (zi y), A') ∧ zgo false (d + 34) 280 141 [zr 13 0, zi (nI p), zi (nI n), zi x3, zi x4, zi x5, zi (nI N), zi x7, zi x8, zi x9, zi x10, zi x11, zi x12, zi x13, zi x14, zi (nI C), u16] [] B = zgo false (d + 34) 280 211 [zr 13 0, zi (nI p), zi (nI n), zi x3, zi x4, zi x5, zi (nI N), zi x7, zi x8, zi x9, zi x10, zi x11, zi x12, zi x13, zi x14, zi (nI C), u16] [zi y] B' ∧ zFo trA A A' ∧ zFo (trB p) B B' := by
  have zp10 : zin (nI p) 10 = true := zin_nI (by omega) (by omega)
  have cp : (nI p).toNatClampNeg = p := nI_clamp (by omega)
  obtain ⟨⟨h1, h2⟩, ht, ⟨h3, h4⟩, h5, h6, h7, h8, h9, h10⟩ := H
  obtain ⟨A0, e1, f1, w1, v2, v3, v5, v9⟩ := P191 (d + 30) p (nI n) x3 (nI C) hp A
  have f1' : zFo trA A A0 := zFo_mono f1 (fun a b c w => Or.inr w)
  obtain ⟨B1, hB1⟩ : ∃ M, M = zsI (zsI (zsI B 13 0 2 (nI C)) 13 0 4 x3) 13 0 5 0 := ⟨_, rfl⟩
  obtain ⟨B2, hB2⟩ : ∃ M, M = zsI (zsI (zsI B1 71 0 p x4) 73 0 p x5) 74 0 p (nI N) := ⟨_, rfl⟩
  obtain ⟨B3, hB3⟩ : ∃ M, M = zsI B2 75 0 p x7 := ⟨_, rfl⟩
  have g1 : zFo (fun a b c => b = 0 ∧ a = 13 ∧ (c = 2 ∨ c = 4 ∨ c = 5)) B B1 := by
    rw [hB1]
    exact zFo_sI (zFo_sI (zFo_sI (zFo_refl _ B) (by omega)) (by omega)) (by omega)
  have g2 : zFo (fun a b c => b = 0 ∧ (a = 71 ∨ a = 73 ∨ a = 74 ∨ a = 75) ∧ c = p) B1 B3 := by
    rw [hB3, hB2]
    exact zFo_sI (zFo_sI (zFo_sI (zFo_sI (zFo_refl _ B1) (by omega)) (by omega)) (by omega)) (by omega)
  have g1' : zFo (trB p) B B1 := zFo_mono g1 (fun a b c w => by
    obtain ⟨w1, w2, w3 | w3 | w3⟩ := w
    · exact Or.inr ⟨w2, w1, w3⟩
    · exact Or.inl (Or.inl ⟨0, by omega, oneB_sh ⟨w1, by omega⟩⟩)
    · exact Or.inl (Or.inl ⟨0, by omega, oneB_sh ⟨w1, by omega⟩⟩))
  have g2' : zFo (trB p) B1 B3 := zFo_mono g2 (fun a b c w => Or.inl (Or.inl ⟨0, by omega, oneB_p w.1 w.2⟩))
  have c2 : zgI B3 13 0 2 = nI C := by rw [(g2 13 0 2 (by omega)).1, hB1]; simp +decide [zgI_sI]
  have c4 : zgI B3 13 0 4 = x3 := by rw [(g2 13 0 4 (by omega)).1, hB1]; simp +decide [zgI_sI]
  have c1 : zgI B3 13 0 1 = nI P := by rw [(g2 13 0 1 (by omega)).1, (g1 13 0 1 (by omega)).1]; exact h2
  have k71 : zgI B3 71 0 p = x4 := by rw [hB3, hB2]; simp +decide [zgI_sI]
  have k73 : zgI B3 73 0 p = x5 := by rw [hB3, hB2]; simp +decide [zgI_sI]
  have k74 : zgI B3 74 0 p = nI N := by rw [hB3, hB2]; simp +decide [zgI_sI]
  have k75 : zgI B3 75 0 p = x7 := by rw [hB3]; simp +decide [zgI_sI]
  obtain ⟨As, B4, e2, e3, f2, g3, hn1, ⟨c, hk⟩, a9, b5⟩ := H119w (d + 28) (d + 31) 1 zu zu zu zu zu zu zu zu (A := A0) (B := B3) (P := P) (C := C) hP hC ⟨v2.trans h1, c1⟩ ⟨v3, c2⟩ (v5.trans c4.symm)
  have e2 : zgo false (d + 30) 119 0 [zr 10 1, zu, zu, zu, zu] [] A0 = some (none, As) := e2
  have e3 : zgo false (d + 33) 199 0 [zr 13 0, zu, zu, zu, zu] [] B3 = some (none, B4) := e3
  obtain ⟨B5, hB5⟩ : ∃ M, M = zsI B4 13 0 59 0 := ⟨_, rfl⟩
  have g4 : zFo (fun a b c => b = 0 ∧ a = 13 ∧ c = 59) B4 B5 := by
    rw [hB5]
    exact zFo_sI (zFo_refl _ B4) (by omega)
  have g3' : zFo (trB p) B3 B4 := zFo_mono g3 (fun a b c w => Or.inl (Or.inl ⟨0, by omega, oneB_sh w⟩))
  have g4' : zFo (trB p) B4 B5 := zFo_mono g4 (fun a b c w => Or.inl (Or.inl ⟨0, by omega, oneB_13 w.1 ⟨w.2.1, by omega⟩⟩))
  have G : zFo (trB p) B B5 := zFo_trans g1' (zFo_trans g2' (zFo_trans g3' g4'))
  have f2' : zFo trA A0 As := zFo_mono f2 (fun a b c w => Or.inl (oneA_sh w))
  have F : zFo trA A As := zFo_trans f1' f2'
  have hs : ySho 1 P C As B5 := ⟨1, _, yNm_fr hn1 (fun _ _ _ => rfl) (fun _ _ => rfl) (fun s s1 s2 _ => (g4 13 0 s (by omega)).1) (fun s _ => (g4 56 0 s (by omega)).1), Or.inr ⟨a9, (g4 13 0 5 (by omega)).1.trans b5, by rw [hB5, zgI_sI, if_pos ⟨rfl, rfl, rfl⟩], c, yDk_fr hk (fun _ => rfl) (fun s => (g4 55 0 s (by omega)).1)⟩⟩
  have ht5 : yTy T q As B5 := yTy_g ht F G (fun u w => (trA_own w).2.2.2.2.1 ⟨rfl, rfl⟩) (fun u s w => (trA_own w).2.2.2.1 rfl) (fun v w => (trA_own w).2.2.2.2.2.1 rfl) (fun v w => (trA_own w).2.2.2.2.2.2.1 rfl) (fun v w => (trA_own w).2.2.2.2.2.2.2 rfl) (fun k s k1 k2 w => (trB_own w).2.2.2.1 ⟨k1, k2⟩)
  have fb : ∀ c, c ≤ 5 → zgI As 2 10 c = zgI A 2 p c := fun c hc => ((f2 2 10 c (by unfold yShA; omega)).1).trans (w1 c hc)
  have gb : ∀ k s, 70 ≤ k → k ≤ 75 → zgI B5 k 0 s = zgI B3 k 0 s := fun k s k1 k2 => ((g4 k 0 s (by omega)).1).trans (g3 k 0 s (by unfold yShB; omega)).1
  have hb5 : yBd 10 p N kd As B5 := ⟨hkd, ⟨(fb 0 (by omega)).trans h3, by rw [(G 70 0 p (fun w => (trB_own w).2.1 rfl)).1]; exact h4⟩, by rw [fb 1 (by omega), gb 71 p (by omega) (by omega), k71]; exact h5, by rw [fb 2 (by omega), (G 72 0 p (fun w => (trB_own w).2.2.1 rfl)).1]; exact h6, by rw [fb 3 (by omega), gb 73 p (by omega) (by omega), k73]; exact h7, ⟨(fb 4 (by omega)).trans h8, by rw [gb 74 p (by omega) (by omega)]; exact k74⟩, by rw [fb 5 (by omega), gb 75 p (by omega) (by omega), k75]; exact h9⟩
  have h15 : zgI As 12 0 15 = zgI B5 13 0 11 := by rw [(F 12 0 15 (fun w => (trA_own w).2.2.1 rfl)).1, (G 13 0 11 (fun w => (trB_own w).1 ⟨rfl, by omega⟩)).1]; exact h10
  obtain ⟨A', B', y, r1, r2, r3, r4⟩ := TL d p n kd x3 (nI C) hn hp n 0 N A0 As B5 0 (by omega) (TE d 1 10 60 P C (bI false) v9 e2 hn1 a9) f2 hs ht5 hb5 (by omega) h15
  refine ⟨A', B', y, e1.trans r1, ?_, zFo_trans f1' (zFo_mono r3 (fun a b c w => Or.inl w)), zFo_trans G (zFo_mono r4 (fun a b c w => Or.inl w))⟩
  rw [B280_141, if_neg (show ¬ (95 : Int32) < nI C from nI_nlt (a := 95) (by omega) (by omega)), ← hB1, B280_164, if_pos zp10, if_pos zp10, if_pos zp10, cp, ← hB2, B280_188, if_pos zp10, cp, ← hB3, e3, zbsome, zpu0]
  show zgo false (d + 34) 280 200 [zr 13 0, zi (nI p), zi (nI n), zi x3, zi x4, zi x5, zi (nI N), zi x7, zi x8, zi x9, zi x10, zi x11, zi x12, zi x13, zi x14, zi (nI C), u16] [] B4 = _
  rw [B280_200, ← hB5, B272_0]
  have r2 : zgo false (d + 33) 272 5 [zr 13 0, zi (nI p), zi (nI n), zi 0, zi 0] [] B5 = some (some (zi y), B') := r2
  rw [r2, zbsome, zpu1]
