/-! ===== the trace; counts ===== -/
def Ract (M : zM) : Prop := zgI M 1 0 1 = zgI M 13 0 89 ∧ (0 ≤ (zgI M 13 0 89).toInt ∧ (zgI M 13 0 89).toInt ≤ 24) ∧ ∀ s : Nat, (s : Int) < (zgI M 13 0 89).toInt → zgI M 20 0 s = zgI M 109 0 s
theorem Ract_fr {m : Nat → Bool} {M M' : zM} (h : zFr m M M') (hm : m 10 = false) (hm' : m 30 = false) (hR : Ract M) : Ract M' := by
  unfold Ract at hR ⊢
  rw [(h 1 0 1 hm).1, (h 13 0 89 hm').1]
  refine ⟨hR.1, hR.2.1, fun s hs => ?_⟩
  rw [(h 20 0 s hm).1, (h 109 0 s hm').1]
  exact hR.2.2 s hs
/-- 'trace' -/
theorem Q31 (d : Nat) (x : Int32) (M : zM) (h : Ract M) : ∃ (y : Int32) (M1 M2 : zM), zgo false (d + 1) 161 0 [zr 12 0, zi x] [] M = some (some (zi y), M1) ∧ zgo false d 303 0 [zr 13 0, zi x] [] M1 = some (some (zi y), M2) ∧ M2 = M := by
  obtain ⟨h1, h2, h3⟩ := h
  rw [B161_0, h1]
  by_cases a : x < 0
  · exact ⟨-1, M, M, by rw [if_pos a, B161_35, B161_36], by rw [B303_0, if_pos a, B303_27, B303_28], rfl⟩
  rw [if_neg a]
  by_cases b : zgI M 13 0 89 ≤ x
  · exact ⟨-1, M, M, by rw [if_pos b, B161_35, B161_36], by rw [B303_0, if_neg a, if_pos b, B303_27, B303_28], rfl⟩
  rw [if_neg b]
  by_cases c : 24 ≤ x
  · exact ⟨-1, M, M, by rw [if_pos c, B161_35, B161_36], by rw [B303_0, if_neg a, if_neg b, if_pos c, B303_27, B303_28], rfl⟩
  rw [if_neg c]
  have a' : 0 ≤ x.toInt := by rw [zI_lt0] at a; omega
  have b' : x.toInt < (zgI M 13 0 89).toInt := by rw [zI_le] at b; omega
  have c' : x.toInt < 24 := by rw [zI_le, show (24 : Int32).toInt = 24 from rfl] at c; omega
  have z : zin x 24 = true := zin_iff.mpr ⟨a', c'⟩
  refine ⟨zgI M 20 0 x.toNatClampNeg, M, M, ?_, ?_, rfl⟩
  · refine zbind_of (S_at false d 20 0 x M (by decide) rfl (zlen_lt (by decide) (by decide))) ?_
    rw [if_pos (show zin x (zlen M 20) = true from z)]
    refine (B161_32 (d + 1) x _ M).trans ?_
    rw [B161_36]
    rfl
  · rw [B303_0, if_neg a, if_neg b, if_neg c, if_pos z, B303_28, h3 _ (by have := zclamp a'; omega)]
/-- 'count' -/
theorem Q38 (d d' : Nat) (x : Int32) (M : zM) (h0 : zgI M 12 0 12 = zgI M 13 0 31) (h1 : zgI M 8 0 2 = zgI M 13 0 19) (h2 : zgI M 6 0 1 = zgI M 13 0 83) (h3 : zgI M 12 0 14 = zgI M 13 0 87) (h4 : zgI M 3 0 3 = zgI M 13 0 12) (h5 : zgI M 1 0 1 = zgI M 13 0 89) : ∃ (y : Int32), zgo false d 168 0 [zr 12 0, zi x] [] M = some (some (zi y), M) ∧ zgo false d' 304 0 [zr 13 0, zi x] [] M = some (some (zi y), M) := by
  rw [B168_0, B304_0, h0, h1, h2, h3, h4, h5]
  by_cases a0 : x = 0
  · exact ⟨_, if_pos a0, if_pos a0⟩
  rw [if_neg a0]
  by_cases a1 : x = 1
  · exact ⟨_, if_pos a1, if_pos a1⟩
  rw [if_neg a1]
  by_cases a2 : x = 2
  · exact ⟨_, if_pos a2, if_pos a2⟩
  rw [if_neg a2]
  by_cases a3 : x = 3
  · exact ⟨_, if_pos a3, if_pos a3⟩
  rw [if_neg a3]
  by_cases a4 : x = 4
  · exact ⟨_, if_pos a4, if_pos a4⟩
  rw [if_neg a4]
  by_cases a5 : x = 5
  · exact ⟨_, if_pos a5, if_pos a5⟩
  exact ⟨_, if_neg a5, if_neg a5⟩
