/-! ===== reading after writing; rows read and set by number; small numbers ===== -/
theorem zgI_sI (M : zM) (k i s : Nat) (v : Int32) (k' i' s' : Nat) : zgI (zsI M k i s v) k' i' s' = if k' = k ∧ i' = i ∧ s' = s then v else zgI M k' i' s' := rfl
theorem zgI_sL (M : zM) (k i s : Nat) (v : Int64) (k' i' s' : Nat) : zgI (zsL M k i s v) k' i' s' = zgI M k' i' s' := rfl
theorem zgI_sR (M : zM) (k i s : Nat) (v : Nat × Nat) (k' i' s' : Nat) : zgI (zsR M k i s v) k' i' s' = zgI M k' i' s' := rfl
theorem zgL_sL (M : zM) (k i s : Nat) (v : Int64) (k' i' s' : Nat) : zgL (zsL M k i s v) k' i' s' = if k' = k ∧ i' = i ∧ s' = s then v else zgL M k' i' s' := rfl
theorem zgL_sI (M : zM) (k i s : Nat) (v : Int32) (k' i' s' : Nat) : zgL (zsI M k i s v) k' i' s' = zgL M k' i' s' := rfl
theorem zgL_sR (M : zM) (k i s : Nat) (v : Nat × Nat) (k' i' s' : Nat) : zgL (zsR M k i s v) k' i' s' = zgL M k' i' s' := rfl
theorem zgR_sI (M : zM) (k i s : Nat) (v : Int32) (k' i' s' : Nat) : zgR (zsI M k i s v) k' i' s' = zgR M k' i' s' := rfl
theorem zgR_sL (M : zM) (k i s : Nat) (v : Int64) (k' i' s' : Nat) : zgR (zsL M k i s v) k' i' s' = zgR M k' i' s' := rfl
theorem zgR_sR (M : zM) (k i s : Nat) (v : Nat × Nat) (k' i' s' : Nat) : zgR (zsR M k i s v) k' i' s' = if k' = k ∧ i' = i ∧ s' = s then v else zgR M k' i' s' := rfl
theorem zsc_sI (M : zM) (k i s : Nat) (v : Int32) : zsc (zsI M k i s v) = zsc M := rfl
theorem zsc_sL (M : zM) (k i s : Nat) (v : Int64) : zsc (zsL M k i s v) = zsc M := rfl
theorem zsc_sR (M : zM) (k i s : Nat) (v : Nat × Nat) : zsc (zsR M k i s v) = zsc M := rfl
/-- a row's place, if it is one -/
def zix (x : Int32) (n : Nat) : Bool := zin x n
theorem zin_iff {x : Int32} {n : Nat} : zin x n = true ↔ 0 ≤ x.toInt ∧ x.toInt < n := by
  unfold zin
  rw [Bool.and_eq_true, decide_eq_true_eq, decide_eq_true_eq]
theorem zI_lt0 {x : Int32} : x < 0 ↔ x.toInt < 0 := by
  rw [Int32.lt_iff_toInt_lt]
  rfl
theorem zI_le {x y : Int32} : x ≤ y ↔ x.toInt ≤ y.toInt := Int32.le_iff_toInt_le
theorem zI_lt {x y : Int32} : x < y ↔ x.toInt < y.toInt := Int32.lt_iff_toInt_lt
theorem zI_ofNat {n : Nat} (h : n < 2 ^ 31) : (Int32.ofNat n).toInt = n := nI_toInt h
theorem zlen_lt {M : zM} {k : Nat} (hk : k ≠ 16) (h : k < 117) : zlen M k < 2 ^ 31 := by
  unfold zlen
  rw [zb_ne hk]
  have := (zat_fix k h).2.2.2.2.2.2.2.2.1
  show (zka k).2.1 < 2 ^ 31
  omega
/-- 'at': a row's int, 0 where there is none -/
theorem S_at (b : Bool) (d k i : Nat) (x : Int32) (M : zM) (hk : k ≠ 0) (ht : zat k = 1) (hl : zlen M k < 2 ^ 31) : zgo b d 169 0 [zr k i, zi x] [] M = some (some (zi (if zin x (zlen M k) = true then zld M k i x.toNatClampNeg else 0)), M) := by
  rw [B169_0, zb_ne hk, cond_false, ht]
  by_cases h0 : x < 0
  · rw [if_pos h0, B169_20, B169_21]
    have h1 : ¬ zin x (zlen M k) = true := by
      rw [zin_iff]
      have := zI_lt0.mp h0
      omega
    rw [if_neg h1]
  · rw [if_neg h0]
    have h0 : ¬ (x.toInt < 0) := fun h => h0 (zI_lt0.mpr h)
    by_cases h1 : Int32.ofNat (zlen M k) ≤ x
    · have h2 := zI_le.mp h1
      rw [zI_ofNat hl] at h2
      have h3 : ¬ zin x (zlen M k) = true := by
        rw [zin_iff]
        omega
      rw [if_pos h1, B169_20, B169_21, if_neg h3]
      rfl
    · have h2 : ¬ ((Int32.ofNat (zlen M k)).toInt ≤ x.toInt) := fun h => h1 (zI_le.mpr h)
      rw [zI_ofNat hl] at h2
      have h3 : zin x (zlen M k) = true := by
        rw [zin_iff]
        omega
      rw [if_neg h1, if_pos h3, if_pos h3, B169_21]
      rfl
/-- 'set': a row's int is written, if it is there -/
theorem S_set (b : Bool) (d k i : Nat) (x v : Int32) (M : zM) (hk : 17 ≤ k) (ht : zat k = 1) (hl : zlen M k < 2 ^ 31) : zgo b d 170 0 [zr k i, zi x, zi v] [] M = some (none, if zin x (zlen M k) = true then zsI M k i x.toNatClampNeg v else M) := by
  have hb : Nat.ble 17 k = true := Nat.ble_eq_true_of_le hk
  rw [B170_0, zb_ne (by omega), cond_false, ht, hb]
  by_cases h0 : x < 0
  · rw [if_pos h0, B170_18]
    have h1 : ¬ zin x (zlen M k) = true := by
      rw [zin_iff]
      have := zI_lt0.mp h0
      omega
    rw [if_neg h1]
  · rw [if_neg h0]
    have h0 : ¬ (x.toInt < 0) := fun h => h0 (zI_lt0.mpr h)
    by_cases h1 : Int32.ofNat (zlen M k) ≤ x
    · have h2 := zI_le.mp h1
      rw [zI_ofNat hl] at h2
      have h3 : ¬ zin x (zlen M k) = true := by
        rw [zin_iff]
        omega
      rw [if_pos h1, B170_18, if_neg h3]
      rfl
    · have h2 : ¬ ((Int32.ofNat (zlen M k)).toInt ≤ x.toInt) := fun h => h1 (zI_le.mpr h)
      rw [zI_ofNat hl] at h2
      have h3 : zin x (zlen M k) = true := by
        rw [zin_iff]
        omega
      rw [if_neg h1, if_pos h3, if_pos h3, B170_18]
      rfl
