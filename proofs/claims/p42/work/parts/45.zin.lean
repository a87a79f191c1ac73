/-! ===== a row's place by its length ===== -/
theorem zin_g {x c : Int32} {n : Nat} (hn : n < 2 ^ 31) (hc : c.toInt = n) : zin x n = true ↔ 0 ≤ x ∧ x < c := by
  rw [zin_iff, zI_le, zI_lt, hc]
  exact Iff.rfl
theorem zin3 {x : Int32} : zin x 3 = true ↔ 0 ≤ x ∧ x < 3 := zin_g (by decide) rfl
theorem zin4 {x : Int32} : zin x 4 = true ↔ 0 ≤ x ∧ x < 4 := zin_g (by decide) rfl
theorem zin5 {x : Int32} : zin x 5 = true ↔ 0 ≤ x ∧ x < 5 := zin_g (by decide) rfl
theorem zin6 {x : Int32} : zin x 6 = true ↔ 0 ≤ x ∧ x < 6 := zin_g (by decide) rfl
theorem zin8 {x : Int32} : zin x 8 = true ↔ 0 ≤ x ∧ x < 8 := zin_g (by decide) rfl
theorem zin9 {x : Int32} : zin x 9 = true ↔ 0 ≤ x ∧ x < 9 := zin_g (by decide) rfl
theorem zin10 {x : Int32} : zin x 10 = true ↔ 0 ≤ x ∧ x < 10 := zin_g (by decide) rfl
theorem zin11 {x : Int32} : zin x 11 = true ↔ 0 ≤ x ∧ x < 11 := zin_g (by decide) rfl
theorem zin12 {x : Int32} : zin x 12 = true ↔ 0 ≤ x ∧ x < 12 := zin_g (by decide) rfl
theorem zin20 {x : Int32} : zin x 20 = true ↔ 0 ≤ x ∧ x < 20 := zin_g (by decide) rfl
theorem zin24 {x : Int32} : zin x 24 = true ↔ 0 ≤ x ∧ x < 24 := zin_g (by decide) rfl
theorem zin40 {x : Int32} : zin x 40 = true ↔ 0 ≤ x ∧ x < 40 := zin_g (by decide) rfl
theorem zin60 {x : Int32} : zin x 60 = true ↔ 0 ≤ x ∧ x < 60 := zin_g (by decide) rfl
theorem zin64 {x : Int32} : zin x 64 = true ↔ 0 ≤ x ∧ x < 64 := zin_g (by decide) rfl
theorem zin120 {x : Int32} : zin x 120 = true ↔ 0 ≤ x ∧ x < 120 := zin_g (by decide) rfl
theorem zin128 {x : Int32} : zin x 128 = true ↔ 0 ≤ x ∧ x < 128 := zin_g (by decide) rfl
theorem zin130 {x : Int32} : zin x 130 = true ↔ 0 ≤ x ∧ x < 130 := zin_g (by decide) rfl
theorem zin305 {x : Int32} : zin x 305 = true ↔ 0 ≤ x ∧ x < 305 := zin_g (by decide) rfl
theorem zin360 {x : Int32} : zin x 360 = true ↔ 0 ≤ x ∧ x < 360 := zin_g (by decide) rfl
theorem zin416 {x : Int32} : zin x 416 = true ↔ 0 ≤ x ∧ x < 416 := zin_g (by decide) rfl
theorem zin420 {x : Int32} : zin x 420 = true ↔ 0 ≤ x ∧ x < 420 := zin_g (by decide) rfl
theorem zin512 {x : Int32} : zin x 512 = true ↔ 0 ≤ x ∧ x < 512 := zin_g (by decide) rfl
theorem zin650 {x : Int32} : zin x 650 = true ↔ 0 ≤ x ∧ x < 650 := zin_g (by decide) rfl
theorem zin660 {x : Int32} : zin x 660 = true ↔ 0 ≤ x ∧ x < 660 := zin_g (by decide) rfl
theorem zin704 {x : Int32} : zin x 704 = true ↔ 0 ≤ x ∧ x < 704 := zin_g (by decide) rfl
theorem zin1331 {x : Int32} : zin x 1331 = true ↔ 0 ≤ x ∧ x < 1331 := zin_g (by decide) rfl
theorem zin1440 {x : Int32} : zin x 1440 = true ↔ 0 ≤ x ∧ x < 1440 := zin_g (by decide) rfl
theorem nI_cl {n : Nat} (h : n < 2 ^ 31) : (nI n).toNatClampNeg = n := nI_clamp h
theorem zcl0 : (0 : Int32).toNatClampNeg = 0 := rfl
theorem zcl1 : (1 : Int32).toNatClampNeg = 1 := rfl
theorem zcl2 : (2 : Int32).toNatClampNeg = 2 := rfl
theorem zcl3 : (3 : Int32).toNatClampNeg = 3 := rfl
theorem zcl4 : (4 : Int32).toNatClampNeg = 4 := rfl
theorem z1ne0 : ((1 : Int32) = 0) = False := by decide
