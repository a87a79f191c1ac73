/-! ===== how deep to deal: the table brought back ===== -/
def dB (p a b c : Nat) : Prop := trC p a b c ∨ (b = 0 ∧ ((97 ≤ a ∧ a ≤ 104) ∨ (83 ≤ a ∧ a ≤ 95) ∨ a = 55 ∨ a = 56 ∨ ((a = 71 ∨ a = 73 ∨ a = 74 ∨ a = 75) ∧ c = p) ∨ (a = 13 ∧ (c = 2 ∨ c = 4 ∨ c = 5 ∨ c = 7 ∨ c = 8 ∨ c = 59))))
/-- what is brought back -/
def RST (M B : zM) : Prop := (∀ c, c = 2 ∨ c = 4 ∨ c = 5 ∨ c = 7 ∨ c = 8 ∨ c = 59 → zgI B 13 0 c = zgI M 13 0 c) ∧ (∀ s, s < 416 → zgI B 55 0 s = (zgI M 55 0 s).toInt8.toInt32.toInt8.toInt32) ∧ (∀ s, s < 11 → zgI B 56 0 s = zgI M 56 0 s) ∧ (∀ k s, 70 ≤ k → k ≤ 75 → zgI B k 0 s = zgI M k 0 s) ∧ (∀ g, g < 60 → (∀ k, (83 ≤ k ∧ k ≤ 88) ∨ k = 90 → zgI B k 0 g = zgI M k 0 g) ∧ zgI B 89 0 g = zgI M 89 0 g &&& 1 &&& 1 ∧ zgI B 92 0 g = (zgI M 92 0 g).toInt8.toInt32.toInt8.toInt32 ∧ zgI B 94 0 g = (zgI M 94 0 g).toInt8.toInt32.toInt8.toInt32) ∧ (∀ g, g < 1440 → zgI B 91 0 g = (zgI M 91 0 g).toInt8.toInt32.toInt8.toInt32 ∧ zgI B 93 0 g = (zgI M 93 0 g).toInt8.toInt32.toInt8.toInt32) ∧ ∀ g, g < 660 → zgI B 95 0 g = zgI M 95 0 g
theorem trH_frM {p P kd N : Nat} {T : Nat → List (List yOp × List yOp)} {q : Nat → Nat} {x4 x5 x7 : Int32} {A B B' : zM} (H : trH p P kd N T q x4 x5 x7 A B) (g : zFo (fun a b _ => b = 0 ∧ 97 ≤ a ∧ a ≤ 104) B B') : trH p P kd N T q x4 x5 x7 A B' := by
  obtain ⟨⟨h1, h2⟩, ht, ⟨h3, h4⟩, h5, h6, h7, h8, h9, h10⟩ := H
  refine ⟨⟨h1, ?_⟩, yTy_g ht (zFo_refl (fun _ _ _ => False) A) g (fun _ => id) (fun _ _ => id) (fun _ => id) (fun _ => id) (fun _ => id) (fun k s k1 k2 => by omega), ⟨h3, ?_⟩, h5, ?_, h7, h8, h9, ?_⟩
  · rw [(g 13 0 1 (by omega)).1]; exact h2
  · rw [(g 70 0 p (by omega)).1]; exact h4
  · rw [(g 72 0 p (by omega)).1]; exact h6
  · rw [(g 13 0 11 (by omega)).1]; exact h10
theorem K280 (d p n kd P N : Nat) (x3 x4 x5 x7 x8 x9 x10 x11 x12 x13 w : Int32) {T : Nat → List (List yOp × List yOp)} {q : Nat → Nat} (hn : n ≤ 60) (hp : p < 10) (hP : 1 ≤ P ∧ P ≤ 8) (hkd : kd ≤ 7) (hN : N + 60 ≤ 1000000) (M : zM) (H : trH p P kd N T q x4 x5 x7 M M) (hx4 : zgI M 71 0 p = x4) (hx5 : zgI M 73 0 p = x5) (hx6 : zgI M 74 0 p = nI N) (hx7 : zgI M 75 0 p = x7) (hx8 : zgI M 13 0 2 = x8) (hx9 : zgI M 13 0 7 = x9) (hx10 : zgI M 13 0 8 = x10) (hx11 : zgI M 13 0 4 = x11) (hx12 : zgI M 13 0 5 = x12) (hx13 : zgI M 13 0 59 = x13) (z12 : zib x12 = true) (z13 : zib x13 = true) : ∃ (A' B' : zM) (z6 z7 : Int32), ((zgo false (d + 33) 191 0 [zr 12 0, zr 2 p, zi (nI n), zi x3, zi 10, zu, zu] [] M).bind fun q => zgo false (d + 34) 150 51 [zr 12 0, zi (nI p), zi (nI n), zi x3, zi w, zr 2 p, zi 10, zu, zu, zu] (zpush q.1 []) q.2) = some (some (zi (if w = 0 then z6 else z7)), A') ∧ zgo false (d + 34) 280 0 [zr 13 0, zi (nI p), zi (nI n), zi x3, zu, zu, zu, zu, zu, zu, zu, zu, zu, zu, zu, zu, zu] [] M = some (none, B') ∧ zFo trA M A' ∧ zFo (dB p) M B' ∧ zgI B' 13 0 81 = z6 ∧ zgI B' 13 0 82 = z7 ∧ RST M B' := by
  have zp10 : zin (nI p) 10 = true := zin_nI (by omega) (by omega)
  have cp : (nI p).toNatClampNeg = p := nI_clamp (by omega)
  have E0 : zgo false (d + 34) 280 0 [zr 13 0, zi (nI p), zi (nI n), zi x3, zu, zu, zu, zu, zu, zu, zu, zu, zu, zu, zu, zu, zu] [] M = zgo false (d + 34) 280 71 [zr 13 0, zi (nI p), zi (nI n), zi x3, zi x4, zi x5, zi (nI N), zi x7, zi x8, zi x9, zi x10, zi x11, zi x12, zi x13, zi 0, zu, zu] [] M := by
    rw [B280_0, if_pos zp10, if_pos zp10, if_pos zp10, cp, hx4, hx5, hx6, B280_24, if_pos zp10, cp, hx7, hx8, hx9, hx10, B280_50, hx11, hx12, hx13]
  obtain ⟨B1, e1, f1, w1⟩ := L280a (d + 34) (nI p) (nI n) x3 x4 x5 (nI N) x7 x8 x9 x10 x11 x12 x13 zu zu 416 0 M rfl
  obtain ⟨B2, e2, f2, w2⟩ := L280b (d + 33) (nI p) (nI n) x3 x4 x5 (nI N) x7 x8 x9 x10 x11 x12 x13 zu zu 11 0 B1 rfl
  obtain ⟨B3, e3, f3, k1, k2, k3⟩ := K278k (d + 31) zu B2
  have G3 : zFo (fun a b _ => b = 0 ∧ 97 ≤ a ∧ a ≤ 104) M B3 := zFo_trans (zFo_mono f1 (fun a b c y => by omega)) (zFo_trans (zFo_mono f2 (fun a b c y => by omega)) (zFo_mono f3 (fun a b c y => by omega)))
  obtain ⟨A', B4, z6, z7, v16, s1, s2, s3, f4, t6, t7⟩ := OAd d p n kd P N x3 x4 x5 x7 x8 x9 x10 x11 x12 x13 w hn hp hP hkd hN M B3 zu (trH_frM H G3)
  obtain ⟨B5, e5, f5, m1, m2, m3⟩ := K278b (d + 31) zu B4
  obtain ⟨B6, e6, f6, w6⟩ := L280c (d + 34) (nI p) (nI n) x3 x4 x5 (nI N) x7 x8 x9 x10 x11 x12 x13 1 v16 416 0 B5 rfl
  obtain ⟨B7, e7, f7, w7⟩ := L280d (d + 34) (nI p) (nI n) x3 x4 x5 (nI N) x7 x8 x9 x10 x11 x12 x13 1 v16 11 0 B6 rfl
  have e1 : zgo false (d + 34) 280 71 [zr 13 0, zi (nI p), zi (nI n), zi x3, zi x4, zi x5, zi (nI N), zi x7, zi x8, zi x9, zi x10, zi x11, zi x12, zi x13, zi 0, zu, zu] [] M = zgo false (d + 34) 280 102 [zr 13 0, zi (nI p), zi (nI n), zi x3, zi x4, zi x5, zi (nI N), zi x7, zi x8, zi x9, zi x10, zi x11, zi x12, zi x13, zi 0, zu, zu] [] B1 := e1
  have e2 : zgo false (d + 34) 280 102 [zr 13 0, zi (nI p), zi (nI n), zi x3, zi x4, zi x5, zi (nI N), zi x7, zi x8, zi x9, zi x10, zi x11, zi x12, zi x13, zi 0, zu, zu] [] B1 = zgo false (d + 34) 280 102 [zr 13 0, zi (nI p), zi (nI n), zi x3, zi x4, zi x5, zi (nI N), zi x7, zi x8, zi x9, zi x10, zi x11, zi x12, zi x13, zi (nI 11), zu, zu] [] B2 := e2
  have e3 : zgo false (d + 33) 278 0 [zr 13 0, zi 0, zu] [] B2 = some (none, B3) := e3
  have e5 : zgo false (d + 33) 278 0 [zr 13 0, zi 1, zu] [] B4 = some (none, B5) := e5
  have e6 : zgo false (d + 34) 280 259 [zr 13 0, zi (nI p), zi (nI n), zi x3, zi x4, zi x5, zi (nI N), zi x7, zi x8, zi x9, zi x10, zi x11, zi x12, zi x13, zi 1, zi 0, v16] [] B5 = zgo false (d + 34) 280 290 [zr 13 0, zi (nI p), zi (nI n), zi x3, zi x4, zi x5, zi (nI N), zi x7, zi x8, zi x9, zi x10, zi x11, zi x12, zi x13, zi 1, zi 0, v16] [] B6 := e6
  have e7 : zgo false (d + 34) 280 290 [zr 13 0, zi (nI p), zi (nI n), zi x3, zi x4, zi x5, zi (nI N), zi x7, zi x8, zi x9, zi x10, zi x11, zi x12, zi x13, zi 1, zi 0, v16] [] B6 = zgo false (d + 34) 280 290 [zr 13 0, zi (nI p), zi (nI n), zi x3, zi x4, zi x5, zi (nI N), zi x7, zi x8, zi x9, zi x10, zi x11, zi x12, zi x13, zi 1, zi (nI 11), v16] [] B7 := e7
  obtain ⟨C1, hC1⟩ : ∃ X, X = zsI B7 71 0 p x4 := ⟨_, rfl⟩
  obtain ⟨C2, hC2⟩ : ∃ X, X = zsI (zsI (zsI C1 73 0 p x5) 74 0 p (nI N)) 75 0 p x7 := ⟨_, rfl⟩
  obtain ⟨C3, hC3⟩ : ∃ X, X = zsI (zsI (zsI (zsI C2 13 0 2 x8) 13 0 7 x9) 13 0 8 x10) 13 0 4 x11 := ⟨_, rfl⟩
  obtain ⟨B8, hB8⟩ : ∃ X, X = zsI (zsI C3 13 0 5 x12) 13 0 59 x13 := ⟨_, rfl⟩
  have h1 : zFo (fun a b c => b = 0 ∧ (a = 71 ∨ a = 73 ∨ a = 74 ∨ a = 75) ∧ c = p) B7 C2 := by
    rw [hC2, hC1]
    exact zFo_sI (zFo_sI (zFo_sI (zFo_sI (zFo_refl _ B7) (by omega)) (by omega)) (by omega)) (by omega)
  have h2 : zFo (fun a b c => b = 0 ∧ a = 13 ∧ (c = 2 ∨ c = 4 ∨ c = 5 ∨ c = 7 ∨ c = 8 ∨ c = 59)) C2 B8 := by
    rw [hB8, hC3]
    exact zFo_sI (zFo_sI (zFo_sI (zFo_sI (zFo_sI (zFo_sI (zFo_refl _ C2) (by omega)) (by omega)) (by omega)) (by omega)) (by omega)) (by omega)
  have o78 : ∀ k s, ¬ (k = 71 ∨ k = 73 ∨ k = 74 ∨ k = 75) → ¬ k = 13 → zgI B8 k 0 s = zgI B7 k 0 s := fun k s a1 a2 => ((h2 k 0 s (by omega)).1).trans (h1 k 0 s (by omega)).1
  have u : ∀ k s, 97 ≤ k → zgI B4 k 0 s = zgI B3 k 0 s := fun k s a1 => (f4 k 0 s (fun w => (trC_own w).2.2.2.2.1 (by omega))).1
  have v : ∀ k s, 83 ≤ k → k ≤ 95 → zgI B8 k 0 s = zgI B5 k 0 s := fun k s a1 a2 => by rw [o78 k s (by omega) (by omega), (f7 k 0 s (by omega)).1, (f6 k 0 s (by omega)).1]
  have m : ∀ k s, k ≤ 95 → zgI B2 k 0 s = zgI M k 0 s := fun k s a1 => by rw [(f2 k 0 s (by omega)).1, (f1 k 0 s (by omega)).1]
  refine ⟨A', B8, z6, z7, s1, ?_, s3, zFo_trans (zFo_mono G3 (fun a b c y => Or.inr ⟨y.1, Or.inl y.2⟩)) (zFo_trans (zFo_mono f4 (fun a b c y => Or.inl y)) (zFo_trans (zFo_mono f5 (fun a b c y => Or.inr ⟨y.1, Or.inr (Or.inl y.2)⟩)) (zFo_trans (zFo_mono f6 (fun a b c y => Or.inr ⟨y.2.1, by omega⟩)) (zFo_trans (zFo_mono f7 (fun a b c y => Or.inr ⟨y.2.1, by omega⟩)) (zFo_trans (zFo_mono h1 (fun a b c y => Or.inr ⟨y.1, by omega⟩)) (zFo_mono h2 (fun a b c y => Or.inr ⟨y.1, by omega⟩))))))), ?_, ?_, fun c hc => ?_, fun s hs => ?_, fun s hs => ?_, fun k s q1 q2 => ?_, fun g hg => ⟨fun k hk => ?_, ?_, ?_, ?_⟩, fun g hg => ⟨?_, ?_⟩, fun g hg => ?_⟩
  · rw [E0, e1, e2, B280_102, if_pos (show (10 : Int32) < nI 11 by decide), e3, zbsome, zpu0, B280_134, s2, B280_141, if_pos (show (95 : Int32) < nI 100 by decide), e5, zbsome, zpu0, B280_256, e6, e7, B280_290, if_pos (show (10 : Int32) < nI 11 by decide), if_pos zp10, cp, ← hC1, B280_325, if_pos zp10, if_pos zp10, if_pos zp10, cp, ← hC2, B280_349, ← hC3, B280_373, z12, cond_true, z13, cond_true, ← hB8]
  · rw [(h2 13 0 81 (by omega)).1, (h1 13 0 81 (by omega)).1, (f7 13 0 81 (by omega)).1, (f6 13 0 81 (by omega)).1, (f5 13 0 81 (by omega)).1]; exact t6
  · rw [(h2 13 0 82 (by omega)).1, (h1 13 0 82 (by omega)).1, (f7 13 0 82 (by omega)).1, (f6 13 0 82 (by omega)).1, (f5 13 0 82 (by omega)).1]; exact t7
  · rw [hB8, hC3]
    rcases hc with rfl | rfl | rfl | rfl | rfl | rfl
    · rw [hx8]; simp +decide [zgI_sI]
    · rw [hx11]; simp +decide [zgI_sI]
    · rw [hx12]; simp +decide [zgI_sI]
    · rw [hx9]; simp +decide [zgI_sI]
    · rw [hx10]; simp +decide [zgI_sI]
    · rw [hx13]; simp +decide [zgI_sI]
  · rw [o78 55 s (by omega) (by omega), (f7 55 0 s (by omega)).1, w6 s (by omega) hs, (f5 97 0 s (by omega)).1, u 97 s (by omega), (f3 97 0 s (by omega)).1, (f2 97 0 s (by omega)).1, w1 s (by omega) hs]
  · rw [o78 56 s (by omega) (by omega), w7 s (by omega) hs, (f6 98 0 s (by omega)).1, (f5 98 0 s (by omega)).1, u 98 s (by omega), (f3 98 0 s (by omega)).1, w2 s (by omega) hs, (f1 56 0 s (by omega)).1]
  · by_cases y : (k = 71 ∨ k = 73 ∨ k = 74 ∨ k = 75) ∧ s = p
    · obtain ⟨y1, rfl⟩ := y
      rw [(h2 k 0 s (by omega)).1, hC2, hC1]
      rcases y1 with rfl | rfl | rfl | rfl
      · rw [hx4]; simp +decide [zgI_sI]
      · rw [hx5]; simp +decide [zgI_sI]
      · rw [hx6]; simp +decide [zgI_sI]
      · rw [hx7]; simp +decide [zgI_sI]
    · rw [(h2 k 0 s (by omega)).1, (h1 k 0 s (by omega)).1, (f7 k 0 s (by omega)).1, (f6 k 0 s (by omega)).1, (f5 k 0 s (by omega)).1, (f4 k 0 s (fun w => by
        obtain ⟨a1, a2, a3, a4, a5, a6⟩ := trC_own w
        by_cases y2 : s = p
        · exact absurd (by omega : k = 70 ∨ k = 72) (fun z => z.elim a2 a3)
        · exact a6 ⟨q1, q2, y2⟩)).1, (G3 k 0 s (by omega)).1]
  · obtain ⟨⟨a1, a2, a3, a4, a5, a6, a7⟩, -⟩ := m1 g hg
    obtain ⟨⟨b1, b2, b3, b4, b5, b6, b7⟩, -⟩ := k1 g hg
    rcases (by omega : k = 83 ∨ k = 84 ∨ k = 85 ∨ k = 86 ∨ k = 87 ∨ k = 88 ∨ k = 90) with rfl | rfl | rfl | rfl | rfl | rfl | rfl
    · rw [v 83 g (by omega) (by omega), a1, u 99 _ (by omega), b1, m 83 g (by omega)]
    · rw [v 84 g (by omega) (by omega), a2, u 99 _ (by omega), b2, m 84 g (by omega)]
    · rw [v 85 g (by omega) (by omega), a3, u 99 _ (by omega), b3, m 85 g (by omega)]
    · rw [v 86 g (by omega) (by omega), a4, u 99 _ (by omega), b4, m 86 g (by omega)]
    · rw [v 87 g (by omega) (by omega), a5, u 99 _ (by omega), b5, m 87 g (by omega)]
    · rw [v 88 g (by omega) (by omega), a6, u 99 _ (by omega), b6, m 88 g (by omega)]
    · rw [v 90 g (by omega) (by omega), a7, u 99 _ (by omega), b7, m 90 g (by omega)]
  · rw [v 89 g (by omega) (by omega), (m1 g hg).2.1, u 100 _ (by omega), (k1 g hg).2.1, m 89 g (by omega)]
  · rw [v 92 g (by omega) (by omega), (m1 g hg).2.2.1, u 103 _ (by omega), (k1 g hg).2.2.1, m 92 g (by omega)]
  · rw [v 94 g (by omega) (by omega), (m1 g hg).2.2.2, u 103 _ (by omega), (k1 g hg).2.2.2, m 94 g (by omega)]
  · rw [v 91 g (by omega) (by omega), (m2 g hg).1, u 101 _ (by omega), (k2 g hg).1, m 91 g (by omega)]
  · rw [v 93 g (by omega) (by omega), (m2 g hg).2, u 102 _ (by omega), (k2 g hg).2, m 93 g (by omega)]
  · rw [v 95 g (by omega) (by omega), m3 g hg, u 104 _ (by omega), k3 g hg, m 95 g (by omega)]
