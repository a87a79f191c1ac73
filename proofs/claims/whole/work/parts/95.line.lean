/-! ===== 'worth' ===== -/
def oLi (x y : Int32) : Prop := ((4 ≤ x ∧ x ≤ 21) ∨ (1012 ≤ x ∧ x ≤ 1021)) ∧ 1 ≤ y ∧ y ≤ 10
theorem S179 (b : Bool) (d : Nat) (x y : Int32) (u2 u3 : zV) (M : zM) : (oLi x y → zgo b d 179 0 [zi x, zi y, u2, u3] [] M = some (some (zi 1), M)) ∧ (¬ oLi x y → zgo b d 179 0 [zi x, zi y, u2, u3] [] M = some (some (zi 0), M)) := by
  have k : zgo b d 179 0 [zi x, zi y, u2, u3] [] M = if x < 4 then (if x < 1012 then some (some (zi 0), M) else if 1021 < x then some (some (zi 0), M) else if y < 1 then some (some (zi 0), M) else if 10 < y then some (some (zi 0), M) else some (some (zi 1), M)) else if 21 < x then (if x < 1012 then some (some (zi 0), M) else if 1021 < x then some (some (zi 0), M) else if y < 1 then some (some (zi 0), M) else if 10 < y then some (some (zi 0), M) else some (some (zi 1), M)) else (if y < 1 then some (some (zi 0), M) else if 10 < y then some (some (zi 0), M) else some (some (zi 1), M)) := by
    have t45 : ∀ x2 x3, zgo b d 179 45 [zi x, zi y, zi x2, zi x3] [] M = if y < 1 then some (some (zi 0), M) else if 10 < y then some (some (zi 0), M) else some (some (zi 1), M) := by
      intro x2 x3
      rw [B179_45, B179_60, B179_61, B179_61]
      rfl
    have t60 : ∀ x2 x3, zgo b d 179 60 [zi x, zi y, zi x2, zi x3] [] M = some (some (zi 0), M) := by
      intro x2 x3
      rw [B179_60, B179_61]
      rfl
    have t16 : zgo b d 179 16 [zi x, zi y, u2, u3] [zi 0] M = if x < 1012 then some (some (zi 0), M) else if 1021 < x then some (some (zi 0), M) else if y < 1 then some (some (zi 0), M) else if 10 < y then some (some (zi 0), M) else some (some (zi 1), M) := by
      have a0 : ∀ u3, zgo b d 179 36 [zi x, zi y, zi 0, u3] [zi 0] M = some (some (zi 0), M) := fun u3 => by
        rw [B179_36, if_pos rfl, if_pos rfl, t60]
      have a1 : ∀ u3, zgo b d 179 36 [zi x, zi y, zi 0, u3] [zi 1] M = if y < 1 then some (some (zi 0), M) else if 10 < y then some (some (zi 0), M) else some (some (zi 1), M) := fun u3 => by
        rw [B179_36, if_pos rfl, if_neg (show ¬ (1 : Int32) = 0 by decide), t45]
      rw [B179_16, B179_35, a0, a1]
    have t16b : zgo b d 179 16 [zi x, zi y, u2, u3] [zi 1] M = if y < 1 then some (some (zi 0), M) else if 10 < y then some (some (zi 0), M) else some (some (zi 1), M) := by
      have a1 : ∀ u3 z, zgo b d 179 36 [zi x, zi y, zi 1, u3] [zi z] M = if y < 1 then some (some (zi 0), M) else if 10 < y then some (some (zi 0), M) else some (some (zi 1), M) := fun u3 z => by
        rw [B179_36, if_neg (show ¬ (1 : Int32) = 0 by decide), t45]
      rw [B179_16, B179_35, a1, a1]
      by_cases c1 : x < 1012
      · rw [if_pos c1]
      · rw [if_neg c1]
        by_cases c2 : 1021 < x
        · rw [if_pos c2]
        · rw [if_neg c2]
    rw [B179_0, B179_15, t16, t16b]
  rw [k]
  unfold oLi
  constructor
  · intro h
    grind
  · intro h
    grind
theorem oLi_h {x y : Int32} (h : oLi x y) : ∃ (s : Nat) (a : Bool) (dv : Nat), (1 ≤ s ∧ s ≤ 21) ∧ x = nI (oHd s a) ∧ y = nI dv ∧ (1 ≤ dv ∧ dv ≤ 10) ∧ (x ≤ 1000 ↔ ¬ a = true) ∧ (∀ (d : Nat) (M : zM), zgo false d 253 0 [zi x] [] M = some (some (zi (nI s)), M)) := by
  obtain ⟨hx, h1, h10⟩ := h
  obtain ⟨dv, hdv, rfl⟩ := zin_of (zin11.mpr ⟨by grind, by grind⟩ : zin y 11 = true)
  have hd : 1 ≤ dv := by
    rw [show (1 : Int32) = nI 1 from rfl, nI_leI (by omega) (by omega)] at h1
    exact h1
  obtain ⟨t, ht, rfl⟩ := zin_of (zin1331.mpr ⟨by grind, by grind⟩ : zin x 1331 = true)
  have l1 : nI t ≤ 1000 ↔ t ≤ 1000 := nI_leI (b := 1000) (by omega) (by omega)
  have e253 : ∀ (d : Nat) (M : zM), zgo false d 253 0 [zi (nI t)] [] M = some (some (zi (if t ≤ 1000 then nI t else nI t - 1010)), M) := by
    intro d M
    rw [B253_0, B253_16, B253_16]
    by_cases c : t ≤ 1000
    · rw [if_pos (l1.mpr c), if_pos c]
    · rw [if_neg (mt l1.mp c), if_neg c]
  rcases hx with ⟨h4, h21⟩ | ⟨h4, h21⟩
  · rw [show (4 : Int32) = nI 4 from rfl, nI_leI (by omega) (by omega)] at h4
    rw [show (21 : Int32) = nI 21 from rfl, nI_leI (by omega) (by omega)] at h21
    have eh : oHd t false = t := if_neg (fun z => by cases z.1)
    refine ⟨t, false, dv, ⟨by omega, h21⟩, by rw [eh], rfl, ⟨hd, by omega⟩, ⟨fun _ z => (by cases z), fun _ => l1.mpr (by omega)⟩, fun d M => ?_⟩
    rw [e253, if_pos (by omega)]
  · rw [show (1012 : Int32) = nI 1012 from rfl, nI_leI (by omega) (by omega)] at h4
    rw [show (1021 : Int32) = nI 1021 from rfl, nI_leI (by omega) (by omega)] at h21
    have eh : oHd (t - 1010) true = t := by
      unfold oHd
      rw [if_pos ⟨rfl, by omega⟩]
      omega
    refine ⟨t - 1010, true, dv, ⟨by omega, by omega⟩, by rw [eh], rfl, ⟨hd, by omega⟩, ⟨fun z => absurd (l1.mp z) (by omega), fun z => absurd rfl z⟩, fun d M => ?_⟩
    rw [e253, if_neg (by omega), show (1010 : Int32) = nI 1010 from rfl, pk_sub (by omega)]
