/-! ===== small things: numbers, and methods that are one value ===== -/
theorem zin_of {x : Int32} {n : Nat} (h : zin x n = true) : ∃ j : Nat, j < n ∧ x = nI j := by
  rw [zin_iff] at h
  refine ⟨x.toNatClampNeg, ?_, ?_⟩
  · have := zclamp h.1
    omega
  · apply Int32.toInt_inj.mp
    have := zclamp h.1
    have h2 := Int32.toInt_lt x
    rw [nI_toInt (by omega)]
    omega
theorem zite_v {c : Prop} [Decidable c] (a b : Int32) (M : zM) : (if c then (some (some (zi a), M) : Option (Option zV × zM)) else some (some (zi b), M)) = some (some (zi (if c then a else b)), M) := by
  by_cases h : c
  · rw [if_pos h, if_pos h]
  · rw [if_neg h, if_neg h]
theorem zq90 : Nat.beq 9 0 = false := rfl
theorem zq99 : Nat.beq 9 9 = true := rfl
theorem zq40 : Nat.beq 4 0 = false := rfl
theorem zq44 : Nat.beq 4 4 = true := rfl
theorem zq100 : Nat.beq 10 0 = false := rfl
theorem zq1010 : Nat.beq 10 10 = true := rfl
theorem zib_ite {c : Prop} [Decidable c] : zib (if c then 1 else 0) = true := by
  by_cases h : c
  · rw [if_pos h]; rfl
  · rw [if_neg h]; rfl
theorem zite10 {c : Prop} [Decidable c] : ((if c then (1 : Int32) else 0) = 0) ↔ ¬ c := by
  by_cases h : c
  · rw [if_pos h]; exact ⟨fun q => absurd q (by decide), fun q => absurd h q⟩
  · rw [if_neg h]; exact ⟨fun _ => h, fun _ => rfl⟩
/-- 'totalOf' -/
theorem S173 (b : Bool) (d : Nat) (x : Int32) (M : zM) : zgo b d 173 0 [zi x] [] M = some (some (zi (if x < 1000 then x else x - 1000)), M) := by
  simp only [B173_0, B173_16, zite_v]
theorem S171 (b : Bool) (d : Nat) (x l h : Int32) (M : zM) : zgo b d 171 0 [zi x, zi l, zi h] [] M = some (some (zi (if l ≤ x then if x ≤ h then x else h else l)), M) := by
  simp only [B171_0, B171_19, zite_v]
theorem S74 (b : Bool) (d : Nat) (x : Int32) (M : zM) : zgo b d 74 0 [zi x] [] M = some (some (zi (if x < 1000 then if x ≤ 22 then x else 22 else x - 1000 + 32)), M) := by
  simp only [B74_0, B74_28, zite_v]
theorem S10 (d i : Nat) (M : zM) : zgo false d 10 0 [zr 2 i] [] M = some (some (zi (if zgI M 2 i 0 < 2 then 0 else if zgI M 2 i 0 = 6 then 0 else 1)), M) := by
  simp only [B10_0, B10_21, B10_22, zib0, zib1, cond_true, zite_v]
theorem S11 (d i : Nat) (M : zM) : zgo false d 11 0 [zr 2 i] [] M = some (some (zi (if zgI M 2 i 0 = 5 then 1 else if zgI M 2 i 0 = 7 then 1 else 0)), M) := by
  simp only [B11_0, B11_17, B11_22, zib0, zib1, cond_true, zite_v]
theorem S94 (d i : Nat) (M : zM) : zgo false d 94 0 [zr 9 i] [] M = some (some (zi (if zgI M 9 i 1 = 0 then 1 else 0)), M) := by
  simp only [B94_0, B94_12, zib0, zib1, cond_true, zite_v]
theorem S95 (d i : Nat) (M : zM) : zgo false d 95 0 [zr 9 i] [] M = some (some (zi (if zgI M 9 i 1 = 1 then 1 else 0)), M) := by
  simp only [B95_0, B95_13, zib0, zib1, cond_true, zite_v]
theorem S96 (d i : Nat) (x : Int32) (M : zM) : zgo false d 96 0 [zr 9 i, zi x] [] M = some (some (zi (if zgI M 9 i 1 = 2 then if zgI M 9 i 2 = x then 1 else 0 else 0)), M) := by
  simp only [B96_0, B96_20, B96_21, zib0, zib1, cond_true, zite_v]
theorem S183 (d : Nat) (x : Int32) (M : zM) : zgo false d 183 0 [zr 12 0, zi x] [] M = some (some (if zin x 6 = true then zr 9 x.toNatClampNeg else zr 0 0), M) := by
  simp only [B183_0, B183_22, B183_23]
  by_cases h : zin x 6 = true
  · obtain ⟨j, hj, rfl⟩ := zin_of h
    rw [if_neg (nI_pos (by omega)), if_neg, if_pos h, if_pos h]
    rw [show (6 : Int32) = nI 6 from rfl, nI_leI (by omega) (by omega)]
    omega
  · rw [if_neg h, if_neg h]
    by_cases h1 : x < 0
    · rw [if_pos h1]
    · rw [if_neg h1]
      by_cases h2 : (6 : Int32) ≤ x
      · rw [if_pos h2]
      · exfalso
        apply h
        rw [zin_iff]
        rw [zI_lt0] at h1
        rw [zI_le, show (6 : Int32).toInt = 6 from rfl] at h2
        omega
theorem S305 (d : Nat) (x : Int32) (M : zM) : zgo false (d + 1) 305 0 [zi x] [] M = some (some (zi (if zin x 6 = true then 1 else 0)), M) := by
  have e : (0 ≤ x ∧ x ≤ 5) ↔ zin x 6 = true := by
    rw [zin_iff, zI_le, zI_le, show (0 : Int32).toInt = 0 from rfl, show (5 : Int32).toInt = 5 from rfl]
    omega
  simp only [B305_0, B305_6, S_in, zbsome, zpu1, zib_ite, cond_true, e]
