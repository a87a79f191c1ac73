/-! ===== how deep to deal: a trial begun ===== -/
theorem TE (d i bi di P C : Nat) (x4 : Int32) {A As B : zM} {sn : Nat → Nat} (h9 : zgI A 10 i 9 = 1) (h119 : zgo false (d + 30) 119 0 [zr 10 i, zu, zu, zu, zu] [] A = some (none, As)) (hn : yNm i As B P C 1 sn) (a9 : zgI As 10 i 9 = 0) : zgo false (d + 32) 34 0 [zr 5 0, zr 2 bi, zr 10 i, zr 4 di, zi x4, zu] [] A = zgo false (d + 32) 34 0 [zr 5 0, zr 2 bi, zr 10 i, zr 4 di, zi x4, zu] [] As := by
  have ea : zgo false (d + 31) 115 0 [zr 10 i] [] A = some (none, As) := by
    rw [B115_0, h9, if_neg (by decide), B115_26, h119, zbsome, zpu0, B115_30]
  have hP := hn.1.1
  have hC := hn.1.2.1
  have m1 : 52 * P * C ≤ 416 * 95 := Nat.mul_le_mul (by omega) (by omega)
  have m2 : 52 * 10 ≤ 52 * P * C := Nat.mul_le_mul (by omega) (by omega)
  have n100 : ¬ (100 : Int32) = 0 := by decide
  have q : nI 1 < (nI (52 * P) * nI C) / 100 := by
    rw [pk_mul, show (100 : Int32) = nI 100 from rfl, pk_div (by omega) (by omega) (by omega)]
    exact nI_lt (by omega) (by omega)
  have es : zgo false (d + 31) 115 0 [zr 10 i] [] As = some (none, As) := by
    have e108 : zgo false (d + 30) 108 0 [zr 10 i] [] As = some (some (zi (nI (52 * P))), As) := S108 (d + 30) i (yNm_A hn)
    rw [B115_0, a9, if_pos rfl, e108, zbsome, hn.2.2.2.2.1.1]
    show zgo false (d + 31) 115 15 [zr 10 i] [zi (nI (52 * P)), zi (nI 1)] As = _
    rw [B115_15, if_neg n100, hn.2.2.1.1, if_pos q, B115_30]
  rw [B34_0, B34_0, ea, es]
theorem S13 (d p : Nat) (hp : p < 10) (A : zM) : ∃ A1, zgo false d 13 0 [zr 2 10, zr 2 p] [] A = some (none, A1) ∧ zFo (fun a b c => a = 2 ∧ b = 10 ∧ c ≤ 5) A A1 ∧ ∀ c, c ≤ 5 → zgI A1 2 10 c = zgI A 2 p c := by
  have e : ¬ p = 10 := by omega
  refine ⟨_, by rw [B13_0, B13_24, B13_48], zFo_sI (zFo_sI (zFo_sI (zFo_sI (zFo_sI (zFo_sI (zFo_refl _ A) ⟨rfl, rfl, by omega⟩) ⟨rfl, rfl, by omega⟩) ⟨rfl, rfl, by omega⟩) ⟨rfl, rfl, by omega⟩) ⟨rfl, rfl, by omega⟩) ⟨rfl, rfl, by omega⟩, fun c hc => ?_⟩
  rcases (by omega : c = 0 ∨ c = 1 ∨ c = 2 ∨ c = 3 ∨ c = 4 ∨ c = 5) with rfl | rfl | rfl | rfl | rfl | rfl <;> simp +decide [zgI_sI, e]
theorem S110 (d i : Nat) (x1 : Int32) (u2 : zV) (A : zM) : ∃ A1, zgo false (d + 2) 110 0 [zr 10 i, zi x1, u2] [] A = some (some (zi (zgI A 10 i 2)), A1) ∧ zFo (fun a b c => b = i ∧ (a = 47 ∨ (a = 10 ∧ 2 ≤ c ∧ c ≤ 9))) A A1 ∧ zgI A1 10 i 2 = x1 := by
  obtain ⟨A1, e, f, -, -, -⟩ := L118 d i 11 0 (zsI A 10 i 2 x1) rfl
  have e : zgo false (d + 1) 118 2 [zr 10 i, zi 0] [] (zsI A 10 i 2 x1) = some (none, A1) := e
  have v : zgI A1 10 i 2 = x1 := by rw [(f 10 i 2 (by omega)).1, zgI_sI, if_pos ⟨rfl, rfl, rfl⟩]
  refine ⟨zsI (zsI A1 10 i 6 0) 10 i 9 1, ?_, zFo_sI (zFo_sI (zFo_trans (zFo_sI (zFo_refl _ A) ⟨rfl, Or.inr ⟨rfl, by omega, by omega⟩⟩) (zFo_mono f (fun a b c w => by omega))) ⟨rfl, Or.inr ⟨rfl, by omega, by omega⟩⟩) ⟨rfl, Or.inr ⟨rfl, by omega, by omega⟩⟩, ?_⟩
  · rw [B110_0, B118_0, e, zbsome, zpu0, B110_14]
  · rw [zgI_sI, if_neg (by omega), zgI_sI, if_neg (by omega), v]
def trA (a b c : Nat) : Prop := oneA 1 10 60 a b c ∨ (a = 2 ∧ b = 10 ∧ c ≤ 5) ∨ (b = 1 ∧ (a = 47 ∨ (a = 10 ∧ 2 ≤ c ∧ c ≤ 9)))
def trB (p a b c : Nat) : Prop := plB p a b c ∨ (a = 13 ∧ b = 0 ∧ c = 2)
theorem P191 (d p : Nat) (x2 x3 x4 : Int32) (hp : p < 10) (A : zM) : ∃ A0, zgo false (d + 3) 191 0 [zr 12 0, zr 2 p, zi x2, zi x3, zi x4, zu, zu] [] A = zgo false (d + 3) 191 60 [zr 12 0, zr 2 p, zi x2, zi x3, zi x4, zi 0, zi 0] [] A0 ∧ zFo (fun a b c => (a = 2 ∧ b = 10 ∧ c ≤ 5) ∨ (b = 1 ∧ (a = 47 ∨ (a = 10 ∧ 2 ≤ c ∧ c ≤ 9)))) A A0 ∧ (∀ c, c ≤ 5 → zgI A0 2 10 c = zgI A 2 p c) ∧ zgI A0 10 1 2 = zgI A 10 0 2 ∧ zgI A0 10 1 3 = x4 ∧ zgI A0 10 1 5 = x3 ∧ zgI A0 10 1 9 = 1 := by
  obtain ⟨A1, e1, f1, w1⟩ := S13 (d + 2) p hp A
  obtain ⟨A2, e2, f2, w2⟩ := S110 d 1 (zgI A1 10 0 2) zu A1
  obtain ⟨A3, hA3⟩ : ∃ M, M = zsI (zsI (zsI A2 10 1 4 x3) 10 1 5 x3) 10 1 9 1 := ⟨_, rfl⟩
  obtain ⟨A4, hA4⟩ : ∃ M, M = zsI (zsI A3 10 1 3 x4) 10 1 9 1 := ⟨_, rfl⟩
  have f3 : zFo (fun a b c => a = 10 ∧ b = 1 ∧ (c = 4 ∨ c = 5 ∨ c = 9)) A2 A3 := by
    rw [hA3]
    exact zFo_sI (zFo_sI (zFo_sI (zFo_refl _ A2) ⟨rfl, rfl, by omega⟩) ⟨rfl, rfl, by omega⟩) ⟨rfl, rfl, by omega⟩
  have f4 : zFo (fun a b c => a = 10 ∧ b = 1 ∧ (c = 3 ∨ c = 9)) A3 A4 := by
    rw [hA4]
    exact zFo_sI (zFo_sI (zFo_refl _ A3) ⟨rfl, rfl, by omega⟩) ⟨rfl, rfl, by omega⟩
  refine ⟨A4, ?_, zFo_trans (zFo_mono f1 (fun a b c w => Or.inl w)) (zFo_trans (zFo_mono f2 (fun a b c w => Or.inr w)) (zFo_trans (zFo_mono f3 (fun a b c w => by omega)) (zFo_mono f4 (fun a b c w => by omega)))), fun c hc => ?_, ?_, ?_, ?_, ?_⟩
  · rw [B191_0, e1, zbsome, zpu0, B191_11, e2, zbsome, zpu1, B191_28, B109_0, B109_20, zbsome, zpu1, ← hA3, B191_40, B111_0, zbsome, zpu1, ← hA4, B191_53]
  · rw [(f4 2 10 c (by omega)).1, (f3 2 10 c (by omega)).1, (f2 2 10 c (by omega)).1, w1 c hc]
  · rw [(f4 10 1 2 (by omega)).1, (f3 10 1 2 (by omega)).1, w2, (f1 10 0 2 (by omega)).1]
  · rw [hA4]; simp +decide [zgI_sI]
  · rw [(f4 10 1 5 (by omega)).1, hA3]; simp +decide [zgI_sI]
  · rw [hA4]; simp +decide [zgI_sI]
