/-! ===== how deep to deal: a shoe of one's own ===== -/
theorem H119w (d e0 i : Nat) (u1 u2 u3 u4 w1 w2 w3 w4 : zV) {A B : zM} {P C : Nat} (hP : 1 ≤ P ∧ P ≤ 8) (hC : 10 ≤ C ∧ C ≤ 95) (n2 : zgI A 10 i 2 = nI P ∧ zgI B 13 0 1 = nI P) (n3 : zgI A 10 i 3 = nI C ∧ zgI B 13 0 2 = nI C) (n5 : zgI A 10 i 5 = zgI B 13 0 4) : ∃ A' B', zgo false (d + 2) 119 0 [zr 10 i, u1, u2, u3, u4] [] A = some (none, A') ∧ zgo false (e0 + 2) 199 0 [zr 13 0, w1, w2, w3, w4] [] B = some (none, B') ∧ zFo (yShA i) A A' ∧ zFo yShB B B' ∧ yNm i A' B' P C 1 (fun _ => 0) ∧ (∃ c, yDk i A' B' P 1 (fun _ => 0) c 0) ∧ zgI A' 10 i 9 = 0 ∧ zgI B' 13 0 5 = 1 := by
  obtain ⟨A1, v3, v4, e1, f1, w1c⟩ := L119 d i P hP 10 0 A u3 u4 rfl n2.1 (fun s hs => absurd hs (by show ¬ s < 0; omega))
  obtain ⟨B1, z3, z4, e2, f2, w2c⟩ := L199 (e0 + 1) P hP 10 0 B w3 w4 rfl n2.2 (fun s hs => absurd hs (by show ¬ s < 0; omega))
  rw [yPl_10] at w1c w2c
  have hcs : yCs i A1 B1 (yFi P 10) (52 * P) := fun s hs => ⟨w1c s hs, w2c s hs, yFi_v P 10 s (by rw [yPl_10]; exact hs)⟩
  have hz : zgI A1 10 i 5 = zgI B1 13 0 4 := by rw [(f1 10 i 5 (by omega)).1, (f2 13 0 4 (by omega)).1, n5]
  obtain ⟨A2, B2, c, p3, p4, q3, q4, e3, e4, f3, f4, g, gz, gc⟩ := L119s (d + 1) (e0 + 1) i (52 * P) (by omega) (nI (yPl P 10)) (nI (yPl P 10)) (52 * P - 1) (yFi P 10) A1 B1 v3 v4 z3 z4 (by omega) hcs hz
  obtain ⟨A3, e5, f5, s7, s8, s47⟩ := L118 d i 11 0 A2 rfl
  obtain ⟨B3, e6, f6, t8, t56⟩ := L198 (e0 + 1) 11 0 B2 rfl
  have e5 : zgo false (d + 1) 118 2 [zr 10 i, zi 0] [] A2 = some (none, A3) := e5
  have e6 : zgo false (e0 + 1) 198 2 [zr 13 0, zi 0] [] B2 = some (none, B3) := e6
  obtain ⟨A4, hA4⟩ : ∃ A4, A4 = zsI (zsI A3 10 i 6 1) 10 i 9 0 := ⟨_, rfl⟩
  obtain ⟨B4, hB4⟩ : ∃ B4, B4 = zsI (zsI B3 13 0 7 1) 13 0 5 1 := ⟨_, rfl⟩
  have fA3 : zFo (yShA i) A A3 := zFo_trans (zFo_mono f1 (fun a b c z => ⟨z.2, Or.inl z.1⟩)) (zFo_trans (zFo_mono f3 (fun a b c z => by unfold ySh at z; unfold yShA; omega)) (zFo_mono f5 (fun a b c z => by unfold yShA; omega)))
  have fB3 : zFo yShB B B3 := zFo_trans (zFo_mono f2 (fun a b c z => ⟨z.2, Or.inl z.1⟩)) (zFo_trans (zFo_mono f4 (fun a b c z => by unfold yShm at z; unfold yShB; omega)) (zFo_mono f6 (fun a b c z => by unfold yShB; omega)))
  have fA : zFo (yShA i) A A4 := by
    rw [hA4]
    exact zFo_sI (zFo_sI fA3 (by unfold yShA; omega)) (by unfold yShA; omega)
  have fB : zFo yShB B B4 := by
    rw [hB4]
    exact zFo_sI (zFo_sI fB3 (by unfold yShB; omega)) (by unfold yShB; omega)
  have oA : ∀ k s, ¬ (k = 10 ∧ (s = 6 ∨ s = 9)) → zgI A4 k i s = zgI A3 k i s := fun k s hs => by
    rw [hA4, zgI_sI, if_neg (by omega), zgI_sI, if_neg (by omega)]
  have oB : ∀ k s, ¬ (k = 13 ∧ (s = 7 ∨ s = 5)) → zgI B4 k 0 s = zgI B3 k 0 s := fun k s hs => by
    rw [hB4, zgI_sI, if_neg (by omega), zgI_sI, if_neg (by omega)]
  have a6 : zgI A4 10 i 6 = 1 := by rw [hA4, zgI_sI, if_neg (by omega), zgI_sI, if_pos ⟨rfl, rfl, rfl⟩]
  have a9 : zgI A4 10 i 9 = 0 := by rw [hA4, zgI_sI, if_pos ⟨rfl, rfl, rfl⟩]
  have b7 : zgI B4 13 0 7 = 1 := by rw [hB4, zgI_sI, if_neg (by omega), zgI_sI, if_pos ⟨rfl, rfl, rfl⟩]
  have b5 : zgI B4 13 0 5 = 1 := by rw [hB4, zgI_sI, if_pos ⟨rfl, rfl, rfl⟩]
  refine ⟨A4, B4, ?_, ?_, fA, fB, ⟨⟨hP, hC, by omega⟩, ⟨?_, ?_⟩, ⟨?_, ?_⟩, ?_, ⟨a6, b7⟩, ?_, ⟨?_, ?_⟩, fun v v1 v2 => ⟨?_, ?_⟩, rfl, fun v _ _ => Nat.zero_le _, by show 0 < 52 * P; omega⟩, ⟨c, by omega, fun s hs => ?_, fun v v1 v2 => ?_, fun v v1 v2 => ?_⟩, a9, b5⟩
  · rw [B119_0]
    refine e1.trans ?_
    have e118 : zgo false (d + 1) 118 0 [zr 10 i, zu] [] A2 = some (none, A3) := by rw [B118_0]; exact e5
    have e108 : zgo false (d + 1) 108 0 [zr 10 i] [] A1 = some (some (zi (nI (52 * P))), A1) := by
      rw [B108_0, (f1 10 i 2 (by omega)).1, n2.1, show (52 : Int32) = nI 52 from rfl, pk_mul, Nat.mul_comm]
    rw [B119_4, if_pos (by decide), e108, zbsome, zpu1, B119_69, show nI (52 * P) - 1 = nI (52 * P - 1) from nI_pr1 (by omega)]
    refine e3.trans ?_
    rw [B119_72, if_pos (by decide), e118, zbsome, zpu0, B119_150, hA4]
  · rw [B199_0]
    refine e2.trans ?_
    have e198 : zgo false (e0 + 1) 198 0 [zr 13 0, zu] [] B2 = some (none, B3) := by rw [B198_0]; exact e6
    rw [B199_4, if_pos (by decide), show nI (yPl P 10) - 1 = nI (52 * P - 1) from by rw [yPl_10]; exact nI_pr1 (by omega)]
    refine e4.trans ?_
    rw [B199_48, if_pos (by decide), e198, zbsome, zpu0, B199_118, hB4]
  · rw [(fA 10 i 2 (by unfold yShA; omega)).1]; exact n2.1
  · rw [(fB 13 0 1 (by unfold yShB; omega)).1]; exact n2.2
  · rw [(fA 10 i 3 (by unfold yShA; omega)).1]; exact n3.1
  · rw [(fB 13 0 2 (by unfold yShB; omega)).1]; exact n3.2
  · rw [oA 10 5 (by omega), oB 13 4 (by omega), (f5 10 i 5 (by omega)).1, (f6 13 0 4 (by omega)).1, gz]
  · rw [oA 10 8 (by omega), oB 13 8 (by omega), s8, t8]
  · rw [oA 10 7 (by omega), s7]; rfl
  · rw [oB 56 0 (by omega), t56 0 (by omega), if_pos (by omega)]; rfl
  · rw [oA 47 v (by omega), s47 v v2, if_pos (by omega)]; rfl
  · rw [oB 56 v (by omega), t56 v v2, if_pos (by omega)]; rfl
  · obtain ⟨g1, g2, g3⟩ := g s hs
    refine ⟨?_, ?_, g3⟩
    · rw [oA 46 s (by omega), (f5 46 i s (by omega)).1, g1]
    · rw [oB 55 s (by omega), (f6 55 0 s (by omega)).1, g2]
  · rw [gc v]
    have h := yFi_n P v 10
    rw [yPl_10, if_pos ⟨v1, v2⟩] at h
    exact h
  · rw [if_neg (show ¬ (0 : Nat) = v by omega)]
    show 0 + (if c 0 = v then 1 else 0) + 0 ≤ 0 + (if c 0 = v then 1 else 0)
    omega
theorem L280a (d : Nat) (x1 x2 x3 x4 x5 x6 x7 x8 x9 x10 x11 x12 x13 : Int32) (u15 u16 : zV) : ∀ (j n : Nat) (B : zM), n + j = 416 → ∃ B', zgo false d 280 71 [zr 13 0, zi x1, zi x2, zi x3, zi x4, zi x5, zi x6, zi x7, zi x8, zi x9, zi x10, zi x11, zi x12, zi x13, zi (nI n), u15, u16] [] B = zgo false d 280 102 [zr 13 0, zi x1, zi x2, zi x3, zi x4, zi x5, zi x6, zi x7, zi x8, zi x9, zi x10, zi x11, zi x12, zi x13, zi 0, u15, u16] [] B' ∧ zFo (fun a b c => a = 97 ∧ b = 0 ∧ n ≤ c) B B' ∧ ∀ g, n ≤ g → g < 416 → zgI B' 97 0 g = (zgI B 55 0 g).toInt8.toInt32
  | 0, n, B, hn => by
    have hn : n = 416 := hn
    subst hn
    refine ⟨B, ?_, zFo_refl _ B, fun g g1 g2 => absurd g1 (by omega)⟩
    rw [B280_71, if_pos (show (416 : Int32) ≤ nI 416 by decide)]
  | j + 1, n, B, hn => by
    have z1 : zin (nI n) 416 = true := zin_nI (by omega) (by omega)
    have c1 : (nI n).toNatClampNeg = n := nI_clamp (by omega)
    obtain ⟨B1, hB1⟩ : ∃ M, M = zsI B 97 0 n ((zgI B 55 0 n).toInt8.toInt32) := ⟨_, rfl⟩
    have f1 : zFo (fun a b c => a = 97 ∧ b = 0 ∧ c = n) B B1 := by
      rw [hB1]
      exact zFo_sI (zFo_refl _ B) ⟨rfl, rfl, rfl⟩
    obtain ⟨B', e, f, w⟩ := L280a d x1 x2 x3 x4 x5 x6 x7 x8 x9 x10 x11 x12 x13 u15 u16 j (n + 1) B1 (by omega)
    refine ⟨B', ?_, zFo_trans (zFo_mono f1 (fun a b c y => by omega)) (zFo_mono f (fun a b c y => by omega)), fun g g1 g2 => ?_⟩
    · rw [B280_71, if_neg (show ¬ (416 : Int32) ≤ nI n from nI_ge (b := 416) (by omega) (by omega)), if_pos z1, if_pos z1, c1, nI_1, ← hB1]
      exact e
    · by_cases y : g = n
      · subst y
        rw [(f 97 0 g (by omega)).1, hB1, zgI_sI, if_pos ⟨rfl, rfl, rfl⟩]
      · rw [w g (by omega) g2, (f1 55 0 g (by omega)).1]
theorem L280b (d : Nat) (x1 x2 x3 x4 x5 x6 x7 x8 x9 x10 x11 x12 x13 : Int32) (u15 u16 : zV) : ∀ (j n : Nat) (B : zM), n + j = 11 → ∃ B', zgo false (d + 1) 280 102 [zr 13 0, zi x1, zi x2, zi x3, zi x4, zi x5, zi x6, zi x7, zi x8, zi x9, zi x10, zi x11, zi x12, zi x13, zi (nI n), u15, u16] [] B = zgo false (d + 1) 280 102 [zr 13 0, zi x1, zi x2, zi x3, zi x4, zi x5, zi x6, zi x7, zi x8, zi x9, zi x10, zi x11, zi x12, zi x13, zi (nI 11), u15, u16] [] B' ∧ zFo (fun a b c => a = 98 ∧ b = 0 ∧ n ≤ c) B B' ∧ ∀ g, n ≤ g → g < 11 → zgI B' 98 0 g = zgI B 56 0 g
  | 0, n, B, hn => by
    have hn : n = 11 := hn
    subst hn
    refine ⟨B, ?_, zFo_refl _ B, fun g g1 g2 => absurd g1 (by omega)⟩
    rfl
  | j + 1, n, B, hn => by
    have z1 : zin (nI n) 11 = true := zin_nI (by omega) (by omega)
    have c1 : (nI n).toNatClampNeg = n := nI_clamp (by omega)
    obtain ⟨B1, hB1⟩ : ∃ M, M = zsI B 98 0 n (zgI B 56 0 n) := ⟨_, rfl⟩
    have f1 : zFo (fun a b c => a = 98 ∧ b = 0 ∧ c = n) B B1 := by
      rw [hB1]
      exact zFo_sI (zFo_refl _ B) ⟨rfl, rfl, rfl⟩
    obtain ⟨B', e, f, w⟩ := L280b d x1 x2 x3 x4 x5 x6 x7 x8 x9 x10 x11 x12 x13 u15 u16 j (n + 1) B1 (by omega)
    refine ⟨B', ?_, zFo_trans (zFo_mono f1 (fun a b c y => by omega)) (zFo_mono f (fun a b c y => by omega)), fun g g1 g2 => ?_⟩
    · rw [B280_102, if_neg (show ¬ (10 : Int32) < nI n from nI_nlt (a := 10) (by omega) (by omega)), if_pos z1, if_pos z1, c1, nI_1, ← hB1]
      exact e
    · by_cases y : g = n
      · subst y
        rw [(f 98 0 g (by omega)).1, hB1, zgI_sI, if_pos ⟨rfl, rfl, rfl⟩]
      · rw [w g (by omega) g2, (f1 56 0 g (by omega)).1]
theorem L280c (d : Nat) (x1 x2 x3 x4 x5 x6 x7 x8 x9 x10 x11 x12 x13 : Int32) (x14 : Int32) (u16 : zV) : ∀ (j n : Nat) (B : zM), n + j = 416 → ∃ B', zgo false d 280 259 [zr 13 0, zi x1, zi x2, zi x3, zi x4, zi x5, zi x6, zi x7, zi x8, zi x9, zi x10, zi x11, zi x12, zi x13, zi x14, zi (nI n), u16] [] B = zgo false d 280 290 [zr 13 0, zi x1, zi x2, zi x3, zi x4, zi x5, zi x6, zi x7, zi x8, zi x9, zi x10, zi x11, zi x12, zi x13, zi x14, zi 0, u16] [] B' ∧ zFo (fun a b c => a = 55 ∧ b = 0 ∧ n ≤ c) B B' ∧ ∀ g, n ≤ g → g < 416 → zgI B' 55 0 g = (zgI B 97 0 g).toInt8.toInt32
  | 0, n, B, hn => by
    have hn : n = 416 := hn
    subst hn
    refine ⟨B, ?_, zFo_refl _ B, fun g g1 g2 => absurd g1 (by omega)⟩
    rw [B280_259, if_pos (show (416 : Int32) ≤ nI 416 by decide)]
  | j + 1, n, B, hn => by
    have z1 : zin (nI n) 416 = true := zin_nI (by omega) (by omega)
    have c1 : (nI n).toNatClampNeg = n := nI_clamp (by omega)
    obtain ⟨B1, hB1⟩ : ∃ M, M = zsI B 55 0 n ((zgI B 97 0 n).toInt8.toInt32) := ⟨_, rfl⟩
    have f1 : zFo (fun a b c => a = 55 ∧ b = 0 ∧ c = n) B B1 := by
      rw [hB1]
      exact zFo_sI (zFo_refl _ B) ⟨rfl, rfl, rfl⟩
    obtain ⟨B', e, f, w⟩ := L280c d x1 x2 x3 x4 x5 x6 x7 x8 x9 x10 x11 x12 x13 x14 u16 j (n + 1) B1 (by omega)
    refine ⟨B', ?_, zFo_trans (zFo_mono f1 (fun a b c y => by omega)) (zFo_mono f (fun a b c y => by omega)), fun g g1 g2 => ?_⟩
    · rw [B280_259, if_neg (show ¬ (416 : Int32) ≤ nI n from nI_ge (b := 416) (by omega) (by omega)), if_pos z1, if_pos z1, c1, nI_1, ← hB1]
      exact e
    · by_cases y : g = n
      · subst y
        rw [(f 55 0 g (by omega)).1, hB1, zgI_sI, if_pos ⟨rfl, rfl, rfl⟩]
      · rw [w g (by omega) g2, (f1 97 0 g (by omega)).1]
theorem L280d (d : Nat) (x1 x2 x3 x4 x5 x6 x7 x8 x9 x10 x11 x12 x13 : Int32) (x14 : Int32) (u16 : zV) : ∀ (j n : Nat) (B : zM), n + j = 11 → ∃ B', zgo false d 280 290 [zr 13 0, zi x1, zi x2, zi x3, zi x4, zi x5, zi x6, zi x7, zi x8, zi x9, zi x10, zi x11, zi x12, zi x13, zi x14, zi (nI n), u16] [] B = zgo false d 280 290 [zr 13 0, zi x1, zi x2, zi x3, zi x4, zi x5, zi x6, zi x7, zi x8, zi x9, zi x10, zi x11, zi x12, zi x13, zi x14, zi (nI 11), u16] [] B' ∧ zFo (fun a b c => a = 56 ∧ b = 0 ∧ n ≤ c) B B' ∧ ∀ g, n ≤ g → g < 11 → zgI B' 56 0 g = zgI B 98 0 g
  | 0, n, B, hn => by
    have hn : n = 11 := hn
    subst hn
    refine ⟨B, ?_, zFo_refl _ B, fun g g1 g2 => absurd g1 (by omega)⟩
    rfl
  | j + 1, n, B, hn => by
    have z1 : zin (nI n) 11 = true := zin_nI (by omega) (by omega)
    have c1 : (nI n).toNatClampNeg = n := nI_clamp (by omega)
    obtain ⟨B1, hB1⟩ : ∃ M, M = zsI B 56 0 n (zgI B 98 0 n) := ⟨_, rfl⟩
    have f1 : zFo (fun a b c => a = 56 ∧ b = 0 ∧ c = n) B B1 := by
      rw [hB1]
      exact zFo_sI (zFo_refl _ B) ⟨rfl, rfl, rfl⟩
    obtain ⟨B', e, f, w⟩ := L280d d x1 x2 x3 x4 x5 x6 x7 x8 x9 x10 x11 x12 x13 x14 u16 j (n + 1) B1 (by omega)
    refine ⟨B', ?_, zFo_trans (zFo_mono f1 (fun a b c y => by omega)) (zFo_mono f (fun a b c y => by omega)), fun g g1 g2 => ?_⟩
    · rw [B280_290, if_neg (show ¬ (10 : Int32) < nI n from nI_nlt (a := 10) (by omega) (by omega)), if_pos z1, if_pos z1, c1, nI_1, ← hB1]
      exact e
    · by_cases y : g = n
      · subst y
        rw [(f 56 0 g (by omega)).1, hB1, zgI_sI, if_pos ⟨rfl, rfl, rfl⟩]
      · rw [w g (by omega) g2, (f1 98 0 g (by omega)).1]
