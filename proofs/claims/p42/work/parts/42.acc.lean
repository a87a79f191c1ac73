/-! ===== rows of the class read and set, kind by kind; by program (wip/whole/gen42.py) ===== -/
theorem zin_nI2 {j n : Nat} (h : j < n) (hn : n < 2 ^ 31) : zin (nI j) n = true := zin_nI h hn
theorem nI_lit (n : Nat) : nI n = Int32.ofNat n := rfl
theorem at20 (b : Bool) (d i : Nat) (x : Int32) (M : zM) : zgo b d 169 0 [zr 20 i, zi x] [] M = some (some (zi (if zin x 24 = true then zgI M 20 i x.toNatClampNeg else 0)), M) := S_at b d 20 i x M (by decide) rfl (zlen_lt (by decide) (by decide))
theorem at20n (b : Bool) (d i j : Nat) (M : zM) (h : j < 24) : zgo b d 169 0 [zr 20 i, zi (nI j)] [] M = some (some (zi (zgI M 20 i j)), M) := by
  rw [at20, if_pos (zin_nI h (by decide)), nI_clamp (by omega)]
theorem se20 (b : Bool) (d i : Nat) (x v : Int32) (M : zM) : zgo b d 170 0 [zr 20 i, zi x, zi v] [] M = some (none, if zin x 24 = true then zsI M 20 i x.toNatClampNeg v else M) := S_set b d 20 i x v M (by decide) rfl (zlen_lt (by decide) (by decide))
theorem se20n (b : Bool) (d i j : Nat) (v : Int32) (M : zM) (h : j < 24) : zgo b d 170 0 [zr 20 i, zi (nI j), zi v] [] M = some (none, zsI M 20 i j v) := by
  rw [se20, if_pos (zin_nI h (by decide)), nI_clamp (by omega)]
theorem at21 (b : Bool) (d i : Nat) (x : Int32) (M : zM) : zgo b d 169 0 [zr 21 i, zi x] [] M = some (some (zi (if zin x 40 = true then zgI M 21 i x.toNatClampNeg else 0)), M) := S_at b d 21 i x M (by decide) rfl (zlen_lt (by decide) (by decide))
theorem at21n (b : Bool) (d i j : Nat) (M : zM) (h : j < 40) : zgo b d 169 0 [zr 21 i, zi (nI j)] [] M = some (some (zi (zgI M 21 i j)), M) := by
  rw [at21, if_pos (zin_nI h (by decide)), nI_clamp (by omega)]
theorem se21 (b : Bool) (d i : Nat) (x v : Int32) (M : zM) : zgo b d 170 0 [zr 21 i, zi x, zi v] [] M = some (none, if zin x 40 = true then zsI M 21 i x.toNatClampNeg v else M) := S_set b d 21 i x v M (by decide) rfl (zlen_lt (by decide) (by decide))
theorem se21n (b : Bool) (d i j : Nat) (v : Int32) (M : zM) (h : j < 40) : zgo b d 170 0 [zr 21 i, zi (nI j), zi v] [] M = some (none, zsI M 21 i j v) := by
  rw [se21, if_pos (zin_nI h (by decide)), nI_clamp (by omega)]
theorem at22 (b : Bool) (d i : Nat) (x : Int32) (M : zM) : zgo b d 169 0 [zr 22 i, zi x] [] M = some (some (zi (if zin x 40 = true then zgI M 22 i x.toNatClampNeg else 0)), M) := S_at b d 22 i x M (by decide) rfl (zlen_lt (by decide) (by decide))
theorem at22n (b : Bool) (d i j : Nat) (M : zM) (h : j < 40) : zgo b d 169 0 [zr 22 i, zi (nI j)] [] M = some (some (zi (zgI M 22 i j)), M) := by
  rw [at22, if_pos (zin_nI h (by decide)), nI_clamp (by omega)]
theorem se22 (b : Bool) (d i : Nat) (x v : Int32) (M : zM) : zgo b d 170 0 [zr 22 i, zi x, zi v] [] M = some (none, if zin x 40 = true then zsI M 22 i x.toNatClampNeg v else M) := S_set b d 22 i x v M (by decide) rfl (zlen_lt (by decide) (by decide))
theorem se22n (b : Bool) (d i j : Nat) (v : Int32) (M : zM) (h : j < 40) : zgo b d 170 0 [zr 22 i, zi (nI j), zi v] [] M = some (none, zsI M 22 i j v) := by
  rw [se22, if_pos (zin_nI h (by decide)), nI_clamp (by omega)]
theorem at23 (b : Bool) (d i : Nat) (x : Int32) (M : zM) : zgo b d 169 0 [zr 23 i, zi x] [] M = some (some (zi (if zin x 40 = true then zgI M 23 i x.toNatClampNeg else 0)), M) := S_at b d 23 i x M (by decide) rfl (zlen_lt (by decide) (by decide))
theorem at23n (b : Bool) (d i j : Nat) (M : zM) (h : j < 40) : zgo b d 169 0 [zr 23 i, zi (nI j)] [] M = some (some (zi (zgI M 23 i j)), M) := by
  rw [at23, if_pos (zin_nI h (by decide)), nI_clamp (by omega)]
theorem se23 (b : Bool) (d i : Nat) (x v : Int32) (M : zM) : zgo b d 170 0 [zr 23 i, zi x, zi v] [] M = some (none, if zin x 40 = true then zsI M 23 i x.toNatClampNeg v else M) := S_set b d 23 i x v M (by decide) rfl (zlen_lt (by decide) (by decide))
theorem se23n (b : Bool) (d i j : Nat) (v : Int32) (M : zM) (h : j < 40) : zgo b d 170 0 [zr 23 i, zi (nI j), zi v] [] M = some (none, zsI M 23 i j v) := by
  rw [se23, if_pos (zin_nI h (by decide)), nI_clamp (by omega)]
theorem at24 (b : Bool) (d i : Nat) (x : Int32) (M : zM) : zgo b d 169 0 [zr 24 i, zi x] [] M = some (some (zi (if zin x 20 = true then zgI M 24 i x.toNatClampNeg else 0)), M) := S_at b d 24 i x M (by decide) rfl (zlen_lt (by decide) (by decide))
theorem at24n (b : Bool) (d i j : Nat) (M : zM) (h : j < 20) : zgo b d 169 0 [zr 24 i, zi (nI j)] [] M = some (some (zi (zgI M 24 i j)), M) := by
  rw [at24, if_pos (zin_nI h (by decide)), nI_clamp (by omega)]
theorem se24 (b : Bool) (d i : Nat) (x v : Int32) (M : zM) : zgo b d 170 0 [zr 24 i, zi x, zi v] [] M = some (none, if zin x 20 = true then zsI M 24 i x.toNatClampNeg v else M) := S_set b d 24 i x v M (by decide) rfl (zlen_lt (by decide) (by decide))
theorem se24n (b : Bool) (d i j : Nat) (v : Int32) (M : zM) (h : j < 20) : zgo b d 170 0 [zr 24 i, zi (nI j), zi v] [] M = some (none, zsI M 24 i j v) := by
  rw [se24, if_pos (zin_nI h (by decide)), nI_clamp (by omega)]
theorem at25 (b : Bool) (d i : Nat) (x : Int32) (M : zM) : zgo b d 169 0 [zr 25 i, zi x] [] M = some (some (zi (if zin x 20 = true then zgI M 25 i x.toNatClampNeg else 0)), M) := S_at b d 25 i x M (by decide) rfl (zlen_lt (by decide) (by decide))
theorem at25n (b : Bool) (d i j : Nat) (M : zM) (h : j < 20) : zgo b d 169 0 [zr 25 i, zi (nI j)] [] M = some (some (zi (zgI M 25 i j)), M) := by
  rw [at25, if_pos (zin_nI h (by decide)), nI_clamp (by omega)]
theorem se25 (b : Bool) (d i : Nat) (x v : Int32) (M : zM) : zgo b d 170 0 [zr 25 i, zi x, zi v] [] M = some (none, if zin x 20 = true then zsI M 25 i x.toNatClampNeg v else M) := S_set b d 25 i x v M (by decide) rfl (zlen_lt (by decide) (by decide))
theorem se25n (b : Bool) (d i j : Nat) (v : Int32) (M : zM) (h : j < 20) : zgo b d 170 0 [zr 25 i, zi (nI j), zi v] [] M = some (none, zsI M 25 i j v) := by
  rw [se25, if_pos (zin_nI h (by decide)), nI_clamp (by omega)]
theorem at26 (b : Bool) (d i : Nat) (x : Int32) (M : zM) : zgo b d 169 0 [zr 26 i, zi x] [] M = some (some (zi (if zin x 20 = true then zgI M 26 i x.toNatClampNeg else 0)), M) := S_at b d 26 i x M (by decide) rfl (zlen_lt (by decide) (by decide))
theorem at26n (b : Bool) (d i j : Nat) (M : zM) (h : j < 20) : zgo b d 169 0 [zr 26 i, zi (nI j)] [] M = some (some (zi (zgI M 26 i j)), M) := by
  rw [at26, if_pos (zin_nI h (by decide)), nI_clamp (by omega)]
theorem se26 (b : Bool) (d i : Nat) (x v : Int32) (M : zM) : zgo b d 170 0 [zr 26 i, zi x, zi v] [] M = some (none, if zin x 20 = true then zsI M 26 i x.toNatClampNeg v else M) := S_set b d 26 i x v M (by decide) rfl (zlen_lt (by decide) (by decide))
theorem se26n (b : Bool) (d i j : Nat) (v : Int32) (M : zM) (h : j < 20) : zgo b d 170 0 [zr 26 i, zi (nI j), zi v] [] M = some (none, zsI M 26 i j v) := by
  rw [se26, if_pos (zin_nI h (by decide)), nI_clamp (by omega)]
theorem at27 (b : Bool) (d i : Nat) (x : Int32) (M : zM) : zgo b d 169 0 [zr 27 i, zi x] [] M = some (some (zi (if zin x 20 = true then zgI M 27 i x.toNatClampNeg else 0)), M) := S_at b d 27 i x M (by decide) rfl (zlen_lt (by decide) (by decide))
theorem at27n (b : Bool) (d i j : Nat) (M : zM) (h : j < 20) : zgo b d 169 0 [zr 27 i, zi (nI j)] [] M = some (some (zi (zgI M 27 i j)), M) := by
  rw [at27, if_pos (zin_nI h (by decide)), nI_clamp (by omega)]
theorem se27 (b : Bool) (d i : Nat) (x v : Int32) (M : zM) : zgo b d 170 0 [zr 27 i, zi x, zi v] [] M = some (none, if zin x 20 = true then zsI M 27 i x.toNatClampNeg v else M) := S_set b d 27 i x v M (by decide) rfl (zlen_lt (by decide) (by decide))
theorem se27n (b : Bool) (d i j : Nat) (v : Int32) (M : zM) (h : j < 20) : zgo b d 170 0 [zr 27 i, zi (nI j), zi v] [] M = some (none, zsI M 27 i j v) := by
  rw [se27, if_pos (zin_nI h (by decide)), nI_clamp (by omega)]
theorem at28 (b : Bool) (d i : Nat) (x : Int32) (M : zM) : zgo b d 169 0 [zr 28 i, zi x] [] M = some (some (zi (if zin x 11 = true then zgI M 28 i x.toNatClampNeg else 0)), M) := S_at b d 28 i x M (by decide) rfl (zlen_lt (by decide) (by decide))
theorem at28n (b : Bool) (d i j : Nat) (M : zM) (h : j < 11) : zgo b d 169 0 [zr 28 i, zi (nI j)] [] M = some (some (zi (zgI M 28 i j)), M) := by
  rw [at28, if_pos (zin_nI h (by decide)), nI_clamp (by omega)]
theorem se28 (b : Bool) (d i : Nat) (x v : Int32) (M : zM) : zgo b d 170 0 [zr 28 i, zi x, zi v] [] M = some (none, if zin x 11 = true then zsI M 28 i x.toNatClampNeg v else M) := S_set b d 28 i x v M (by decide) rfl (zlen_lt (by decide) (by decide))
theorem se28n (b : Bool) (d i j : Nat) (v : Int32) (M : zM) (h : j < 11) : zgo b d 170 0 [zr 28 i, zi (nI j), zi v] [] M = some (none, zsI M 28 i j v) := by
  rw [se28, if_pos (zin_nI h (by decide)), nI_clamp (by omega)]
theorem at29 (b : Bool) (d i : Nat) (x : Int32) (M : zM) : zgo b d 169 0 [zr 29 i, zi x] [] M = some (some (zi (if zin x 4 = true then zgI M 29 i x.toNatClampNeg else 0)), M) := S_at b d 29 i x M (by decide) rfl (zlen_lt (by decide) (by decide))
theorem at29n (b : Bool) (d i j : Nat) (M : zM) (h : j < 4) : zgo b d 169 0 [zr 29 i, zi (nI j)] [] M = some (some (zi (zgI M 29 i j)), M) := by
  rw [at29, if_pos (zin_nI h (by decide)), nI_clamp (by omega)]
theorem se29 (b : Bool) (d i : Nat) (x v : Int32) (M : zM) : zgo b d 170 0 [zr 29 i, zi x, zi v] [] M = some (none, if zin x 4 = true then zsI M 29 i x.toNatClampNeg v else M) := S_set b d 29 i x v M (by decide) rfl (zlen_lt (by decide) (by decide))
theorem se29n (b : Bool) (d i j : Nat) (v : Int32) (M : zM) (h : j < 4) : zgo b d 170 0 [zr 29 i, zi (nI j), zi v] [] M = some (none, zsI M 29 i j v) := by
  rw [se29, if_pos (zin_nI h (by decide)), nI_clamp (by omega)]
theorem at30 (b : Bool) (d i : Nat) (x : Int32) (M : zM) : zgo b d 169 0 [zr 30 i, zi x] [] M = some (some (zi (if zin x 11 = true then zgI M 30 i x.toNatClampNeg else 0)), M) := S_at b d 30 i x M (by decide) rfl (zlen_lt (by decide) (by decide))
theorem at30n (b : Bool) (d i j : Nat) (M : zM) (h : j < 11) : zgo b d 169 0 [zr 30 i, zi (nI j)] [] M = some (some (zi (zgI M 30 i j)), M) := by
  rw [at30, if_pos (zin_nI h (by decide)), nI_clamp (by omega)]
theorem se30 (b : Bool) (d i : Nat) (x v : Int32) (M : zM) : zgo b d 170 0 [zr 30 i, zi x, zi v] [] M = some (none, if zin x 11 = true then zsI M 30 i x.toNatClampNeg v else M) := S_set b d 30 i x v M (by decide) rfl (zlen_lt (by decide) (by decide))
theorem se30n (b : Bool) (d i j : Nat) (v : Int32) (M : zM) (h : j < 11) : zgo b d 170 0 [zr 30 i, zi (nI j), zi v] [] M = some (none, zsI M 30 i j v) := by
  rw [se30, if_pos (zin_nI h (by decide)), nI_clamp (by omega)]
theorem at31 (b : Bool) (d i : Nat) (x : Int32) (M : zM) : zgo b d 169 0 [zr 31 i, zi x] [] M = some (some (zi (if zin x 12 = true then zgI M 31 i x.toNatClampNeg else 0)), M) := S_at b d 31 i x M (by decide) rfl (zlen_lt (by decide) (by decide))
theorem at31n (b : Bool) (d i j : Nat) (M : zM) (h : j < 12) : zgo b d 169 0 [zr 31 i, zi (nI j)] [] M = some (some (zi (zgI M 31 i j)), M) := by
  rw [at31, if_pos (zin_nI h (by decide)), nI_clamp (by omega)]
theorem se31 (b : Bool) (d i : Nat) (x v : Int32) (M : zM) : zgo b d 170 0 [zr 31 i, zi x, zi v] [] M = some (none, if zin x 12 = true then zsI M 31 i x.toNatClampNeg v else M) := S_set b d 31 i x v M (by decide) rfl (zlen_lt (by decide) (by decide))
theorem se31n (b : Bool) (d i j : Nat) (v : Int32) (M : zM) (h : j < 12) : zgo b d 170 0 [zr 31 i, zi (nI j), zi v] [] M = some (none, zsI M 31 i j v) := by
  rw [se31, if_pos (zin_nI h (by decide)), nI_clamp (by omega)]
theorem at32 (b : Bool) (d i : Nat) (x : Int32) (M : zM) : zgo b d 169 0 [zr 32 i, zi x] [] M = some (some (zi (if zin x 12 = true then zgI M 32 i x.toNatClampNeg else 0)), M) := S_at b d 32 i x M (by decide) rfl (zlen_lt (by decide) (by decide))
theorem at32n (b : Bool) (d i j : Nat) (M : zM) (h : j < 12) : zgo b d 169 0 [zr 32 i, zi (nI j)] [] M = some (some (zi (zgI M 32 i j)), M) := by
  rw [at32, if_pos (zin_nI h (by decide)), nI_clamp (by omega)]
theorem se32 (b : Bool) (d i : Nat) (x v : Int32) (M : zM) : zgo b d 170 0 [zr 32 i, zi x, zi v] [] M = some (none, if zin x 12 = true then zsI M 32 i x.toNatClampNeg v else M) := S_set b d 32 i x v M (by decide) rfl (zlen_lt (by decide) (by decide))
theorem se32n (b : Bool) (d i j : Nat) (v : Int32) (M : zM) (h : j < 12) : zgo b d 170 0 [zr 32 i, zi (nI j), zi v] [] M = some (none, zsI M 32 i j v) := by
  rw [se32, if_pos (zin_nI h (by decide)), nI_clamp (by omega)]
theorem at33 (b : Bool) (d i : Nat) (x : Int32) (M : zM) : zgo b d 169 0 [zr 33 i, zi x] [] M = some (some (zi (if zin x 11 = true then zgI M 33 i x.toNatClampNeg else 0)), M) := S_at b d 33 i x M (by decide) rfl (zlen_lt (by decide) (by decide))
theorem at33n (b : Bool) (d i j : Nat) (M : zM) (h : j < 11) : zgo b d 169 0 [zr 33 i, zi (nI j)] [] M = some (some (zi (zgI M 33 i j)), M) := by
  rw [at33, if_pos (zin_nI h (by decide)), nI_clamp (by omega)]
theorem se33 (b : Bool) (d i : Nat) (x v : Int32) (M : zM) : zgo b d 170 0 [zr 33 i, zi x, zi v] [] M = some (none, if zin x 11 = true then zsI M 33 i x.toNatClampNeg v else M) := S_set b d 33 i x v M (by decide) rfl (zlen_lt (by decide) (by decide))
theorem se33n (b : Bool) (d i j : Nat) (v : Int32) (M : zM) (h : j < 11) : zgo b d 170 0 [zr 33 i, zi (nI j), zi v] [] M = some (none, zsI M 33 i j v) := by
  rw [se33, if_pos (zin_nI h (by decide)), nI_clamp (by omega)]
theorem at34 (b : Bool) (d i : Nat) (x : Int32) (M : zM) : zgo b d 169 0 [zr 34 i, zi x] [] M = some (some (zi (if zin x 4 = true then zgI M 34 i x.toNatClampNeg else 0)), M) := S_at b d 34 i x M (by decide) rfl (zlen_lt (by decide) (by decide))
theorem at34n (b : Bool) (d i j : Nat) (M : zM) (h : j < 4) : zgo b d 169 0 [zr 34 i, zi (nI j)] [] M = some (some (zi (zgI M 34 i j)), M) := by
  rw [at34, if_pos (zin_nI h (by decide)), nI_clamp (by omega)]
theorem se34 (b : Bool) (d i : Nat) (x v : Int32) (M : zM) : zgo b d 170 0 [zr 34 i, zi x, zi v] [] M = some (none, if zin x 4 = true then zsI M 34 i x.toNatClampNeg v else M) := S_set b d 34 i x v M (by decide) rfl (zlen_lt (by decide) (by decide))
theorem se34n (b : Bool) (d i j : Nat) (v : Int32) (M : zM) (h : j < 4) : zgo b d 170 0 [zr 34 i, zi (nI j), zi v] [] M = some (none, zsI M 34 i j v) := by
  rw [se34, if_pos (zin_nI h (by decide)), nI_clamp (by omega)]
theorem at35 (b : Bool) (d i : Nat) (x : Int32) (M : zM) : zgo b d 169 0 [zr 35 i, zi x] [] M = some (some (zi (if zin x 704 = true then zgI M 35 i x.toNatClampNeg else 0)), M) := S_at b d 35 i x M (by decide) rfl (zlen_lt (by decide) (by decide))
theorem at35n (b : Bool) (d i j : Nat) (M : zM) (h : j < 704) : zgo b d 169 0 [zr 35 i, zi (nI j)] [] M = some (some (zi (zgI M 35 i j)), M) := by
  rw [at35, if_pos (zin_nI h (by decide)), nI_clamp (by omega)]
theorem se35 (b : Bool) (d i : Nat) (x v : Int32) (M : zM) : zgo b d 170 0 [zr 35 i, zi x, zi v] [] M = some (none, if zin x 704 = true then zsI M 35 i x.toNatClampNeg v else M) := S_set b d 35 i x v M (by decide) rfl (zlen_lt (by decide) (by decide))
theorem se35n (b : Bool) (d i j : Nat) (v : Int32) (M : zM) (h : j < 704) : zgo b d 170 0 [zr 35 i, zi (nI j), zi v] [] M = some (none, zsI M 35 i j v) := by
  rw [se35, if_pos (zin_nI h (by decide)), nI_clamp (by omega)]
theorem at36 (b : Bool) (d i : Nat) (x : Int32) (M : zM) : zgo b d 169 0 [zr 36 i, zi x] [] M = some (some (zi (if zin x 512 = true then zgI M 36 i x.toNatClampNeg else 0)), M) := S_at b d 36 i x M (by decide) rfl (zlen_lt (by decide) (by decide))
theorem at36n (b : Bool) (d i j : Nat) (M : zM) (h : j < 512) : zgo b d 169 0 [zr 36 i, zi (nI j)] [] M = some (some (zi (zgI M 36 i j)), M) := by
  rw [at36, if_pos (zin_nI h (by decide)), nI_clamp (by omega)]
theorem se36 (b : Bool) (d i : Nat) (x v : Int32) (M : zM) : zgo b d 170 0 [zr 36 i, zi x, zi v] [] M = some (none, if zin x 512 = true then zsI M 36 i x.toNatClampNeg v else M) := S_set b d 36 i x v M (by decide) rfl (zlen_lt (by decide) (by decide))
theorem se36n (b : Bool) (d i j : Nat) (v : Int32) (M : zM) (h : j < 512) : zgo b d 170 0 [zr 36 i, zi (nI j), zi v] [] M = some (none, zsI M 36 i j v) := by
  rw [se36, if_pos (zin_nI h (by decide)), nI_clamp (by omega)]
theorem at37 (b : Bool) (d i : Nat) (x : Int32) (M : zM) : zgo b d 169 0 [zr 37 i, zi x] [] M = some (some (zi (if zin x 9 = true then zgI M 37 i x.toNatClampNeg else 0)), M) := S_at b d 37 i x M (by decide) rfl (zlen_lt (by decide) (by decide))
theorem at37n (b : Bool) (d i j : Nat) (M : zM) (h : j < 9) : zgo b d 169 0 [zr 37 i, zi (nI j)] [] M = some (some (zi (zgI M 37 i j)), M) := by
  rw [at37, if_pos (zin_nI h (by decide)), nI_clamp (by omega)]
theorem se37 (b : Bool) (d i : Nat) (x v : Int32) (M : zM) : zgo b d 170 0 [zr 37 i, zi x, zi v] [] M = some (none, if zin x 9 = true then zsI M 37 i x.toNatClampNeg v else M) := S_set b d 37 i x v M (by decide) rfl (zlen_lt (by decide) (by decide))
theorem se37n (b : Bool) (d i j : Nat) (v : Int32) (M : zM) (h : j < 9) : zgo b d 170 0 [zr 37 i, zi (nI j), zi v] [] M = some (none, zsI M 37 i j v) := by
  rw [se37, if_pos (zin_nI h (by decide)), nI_clamp (by omega)]
theorem at38 (b : Bool) (d i : Nat) (x : Int32) (M : zM) : zgo b d 169 0 [zr 38 i, zi x] [] M = some (some (zi (if zin x 64 = true then zgI M 38 i x.toNatClampNeg else 0)), M) := S_at b d 38 i x M (by decide) rfl (zlen_lt (by decide) (by decide))
theorem at38n (b : Bool) (d i j : Nat) (M : zM) (h : j < 64) : zgo b d 169 0 [zr 38 i, zi (nI j)] [] M = some (some (zi (zgI M 38 i j)), M) := by
  rw [at38, if_pos (zin_nI h (by decide)), nI_clamp (by omega)]
theorem se38 (b : Bool) (d i : Nat) (x v : Int32) (M : zM) : zgo b d 170 0 [zr 38 i, zi x, zi v] [] M = some (none, if zin x 64 = true then zsI M 38 i x.toNatClampNeg v else M) := S_set b d 38 i x v M (by decide) rfl (zlen_lt (by decide) (by decide))
theorem se38n (b : Bool) (d i j : Nat) (v : Int32) (M : zM) (h : j < 64) : zgo b d 170 0 [zr 38 i, zi (nI j), zi v] [] M = some (none, zsI M 38 i j v) := by
  rw [se38, if_pos (zin_nI h (by decide)), nI_clamp (by omega)]
theorem at39 (b : Bool) (d i : Nat) (x : Int32) (M : zM) : zgo b d 169 0 [zr 39 i, zi x] [] M = some (some (zi (if zin x 64 = true then zgI M 39 i x.toNatClampNeg else 0)), M) := S_at b d 39 i x M (by decide) rfl (zlen_lt (by decide) (by decide))
theorem at39n (b : Bool) (d i j : Nat) (M : zM) (h : j < 64) : zgo b d 169 0 [zr 39 i, zi (nI j)] [] M = some (some (zi (zgI M 39 i j)), M) := by
  rw [at39, if_pos (zin_nI h (by decide)), nI_clamp (by omega)]
theorem se39 (b : Bool) (d i : Nat) (x v : Int32) (M : zM) : zgo b d 170 0 [zr 39 i, zi x, zi v] [] M = some (none, if zin x 64 = true then zsI M 39 i x.toNatClampNeg v else M) := S_set b d 39 i x v M (by decide) rfl (zlen_lt (by decide) (by decide))
theorem se39n (b : Bool) (d i j : Nat) (v : Int32) (M : zM) (h : j < 64) : zgo b d 170 0 [zr 39 i, zi (nI j), zi v] [] M = some (none, zsI M 39 i j v) := by
  rw [se39, if_pos (zin_nI h (by decide)), nI_clamp (by omega)]
theorem at40 (b : Bool) (d i : Nat) (x : Int32) (M : zM) : zgo b d 169 0 [zr 40 i, zi x] [] M = some (some (zi (if zin x 64 = true then zgI M 40 i x.toNatClampNeg else 0)), M) := S_at b d 40 i x M (by decide) rfl (zlen_lt (by decide) (by decide))
theorem at40n (b : Bool) (d i j : Nat) (M : zM) (h : j < 64) : zgo b d 169 0 [zr 40 i, zi (nI j)] [] M = some (some (zi (zgI M 40 i j)), M) := by
  rw [at40, if_pos (zin_nI h (by decide)), nI_clamp (by omega)]
theorem se40 (b : Bool) (d i : Nat) (x v : Int32) (M : zM) : zgo b d 170 0 [zr 40 i, zi x, zi v] [] M = some (none, if zin x 64 = true then zsI M 40 i x.toNatClampNeg v else M) := S_set b d 40 i x v M (by decide) rfl (zlen_lt (by decide) (by decide))
theorem se40n (b : Bool) (d i j : Nat) (v : Int32) (M : zM) (h : j < 64) : zgo b d 170 0 [zr 40 i, zi (nI j), zi v] [] M = some (none, zsI M 40 i j v) := by
  rw [se40, if_pos (zin_nI h (by decide)), nI_clamp (by omega)]
theorem at41 (b : Bool) (d i : Nat) (x : Int32) (M : zM) : zgo b d 169 0 [zr 41 i, zi x] [] M = some (some (zi (if zin x 704 = true then zgI M 41 i x.toNatClampNeg else 0)), M) := S_at b d 41 i x M (by decide) rfl (zlen_lt (by decide) (by decide))
theorem at41n (b : Bool) (d i j : Nat) (M : zM) (h : j < 704) : zgo b d 169 0 [zr 41 i, zi (nI j)] [] M = some (some (zi (zgI M 41 i j)), M) := by
  rw [at41, if_pos (zin_nI h (by decide)), nI_clamp (by omega)]
theorem se41 (b : Bool) (d i : Nat) (x v : Int32) (M : zM) : zgo b d 170 0 [zr 41 i, zi x, zi v] [] M = some (none, if zin x 704 = true then zsI M 41 i x.toNatClampNeg v else M) := S_set b d 41 i x v M (by decide) rfl (zlen_lt (by decide) (by decide))
theorem se41n (b : Bool) (d i j : Nat) (v : Int32) (M : zM) (h : j < 704) : zgo b d 170 0 [zr 41 i, zi (nI j), zi v] [] M = some (none, zsI M 41 i j v) := by
  rw [se41, if_pos (zin_nI h (by decide)), nI_clamp (by omega)]
theorem at42 (b : Bool) (d i : Nat) (x : Int32) (M : zM) : zgo b d 169 0 [zr 42 i, zi x] [] M = some (some (zi (if zin x 11 = true then zgI M 42 i x.toNatClampNeg else 0)), M) := S_at b d 42 i x M (by decide) rfl (zlen_lt (by decide) (by decide))
theorem at42n (b : Bool) (d i j : Nat) (M : zM) (h : j < 11) : zgo b d 169 0 [zr 42 i, zi (nI j)] [] M = some (some (zi (zgI M 42 i j)), M) := by
  rw [at42, if_pos (zin_nI h (by decide)), nI_clamp (by omega)]
theorem se42 (b : Bool) (d i : Nat) (x v : Int32) (M : zM) : zgo b d 170 0 [zr 42 i, zi x, zi v] [] M = some (none, if zin x 11 = true then zsI M 42 i x.toNatClampNeg v else M) := S_set b d 42 i x v M (by decide) rfl (zlen_lt (by decide) (by decide))
theorem se42n (b : Bool) (d i j : Nat) (v : Int32) (M : zM) (h : j < 11) : zgo b d 170 0 [zr 42 i, zi (nI j), zi v] [] M = some (none, zsI M 42 i j v) := by
  rw [se42, if_pos (zin_nI h (by decide)), nI_clamp (by omega)]
theorem at43 (b : Bool) (d i : Nat) (x : Int32) (M : zM) : zgo b d 169 0 [zr 43 i, zi x] [] M = some (some (zi (if zin x 120 = true then zgI M 43 i x.toNatClampNeg else 0)), M) := S_at b d 43 i x M (by decide) rfl (zlen_lt (by decide) (by decide))
theorem at43n (b : Bool) (d i j : Nat) (M : zM) (h : j < 120) : zgo b d 169 0 [zr 43 i, zi (nI j)] [] M = some (some (zi (zgI M 43 i j)), M) := by
  rw [at43, if_pos (zin_nI h (by decide)), nI_clamp (by omega)]
theorem se43 (b : Bool) (d i : Nat) (x v : Int32) (M : zM) : zgo b d 170 0 [zr 43 i, zi x, zi v] [] M = some (none, if zin x 120 = true then zsI M 43 i x.toNatClampNeg v else M) := S_set b d 43 i x v M (by decide) rfl (zlen_lt (by decide) (by decide))
theorem se43n (b : Bool) (d i j : Nat) (v : Int32) (M : zM) (h : j < 120) : zgo b d 170 0 [zr 43 i, zi (nI j), zi v] [] M = some (none, zsI M 43 i j v) := by
  rw [se43, if_pos (zin_nI h (by decide)), nI_clamp (by omega)]
theorem at44 (b : Bool) (d i : Nat) (x : Int32) (M : zM) : zgo b d 169 0 [zr 44 i, zi x] [] M = some (some (zi (if zin x 128 = true then zgI M 44 i x.toNatClampNeg else 0)), M) := S_at b d 44 i x M (by decide) rfl (zlen_lt (by decide) (by decide))
theorem at44n (b : Bool) (d i j : Nat) (M : zM) (h : j < 128) : zgo b d 169 0 [zr 44 i, zi (nI j)] [] M = some (some (zi (zgI M 44 i j)), M) := by
  rw [at44, if_pos (zin_nI h (by decide)), nI_clamp (by omega)]
theorem se44 (b : Bool) (d i : Nat) (x v : Int32) (M : zM) : zgo b d 170 0 [zr 44 i, zi x, zi v] [] M = some (none, if zin x 128 = true then zsI M 44 i x.toNatClampNeg v else M) := S_set b d 44 i x v M (by decide) rfl (zlen_lt (by decide) (by decide))
theorem se44n (b : Bool) (d i j : Nat) (v : Int32) (M : zM) (h : j < 128) : zgo b d 170 0 [zr 44 i, zi (nI j), zi v] [] M = some (none, zsI M 44 i j v) := by
  rw [se44, if_pos (zin_nI h (by decide)), nI_clamp (by omega)]
theorem at46 (b : Bool) (d i : Nat) (x : Int32) (M : zM) : zgo b d 169 0 [zr 46 i, zi x] [] M = some (some (zi (if zin x 416 = true then zgI M 46 i x.toNatClampNeg else 0)), M) := S_at b d 46 i x M (by decide) rfl (zlen_lt (by decide) (by decide))
theorem at46n (b : Bool) (d i j : Nat) (M : zM) (h : j < 416) : zgo b d 169 0 [zr 46 i, zi (nI j)] [] M = some (some (zi (zgI M 46 i j)), M) := by
  rw [at46, if_pos (zin_nI h (by decide)), nI_clamp (by omega)]
theorem se46 (b : Bool) (d i : Nat) (x v : Int32) (M : zM) : zgo b d 170 0 [zr 46 i, zi x, zi v] [] M = some (none, if zin x 416 = true then zsI M 46 i x.toNatClampNeg v else M) := S_set b d 46 i x v M (by decide) rfl (zlen_lt (by decide) (by decide))
theorem se46n (b : Bool) (d i j : Nat) (v : Int32) (M : zM) (h : j < 416) : zgo b d 170 0 [zr 46 i, zi (nI j), zi v] [] M = some (none, zsI M 46 i j v) := by
  rw [se46, if_pos (zin_nI h (by decide)), nI_clamp (by omega)]
theorem at47 (b : Bool) (d i : Nat) (x : Int32) (M : zM) : zgo b d 169 0 [zr 47 i, zi x] [] M = some (some (zi (if zin x 11 = true then zgI M 47 i x.toNatClampNeg else 0)), M) := S_at b d 47 i x M (by decide) rfl (zlen_lt (by decide) (by decide))
theorem at47n (b : Bool) (d i j : Nat) (M : zM) (h : j < 11) : zgo b d 169 0 [zr 47 i, zi (nI j)] [] M = some (some (zi (zgI M 47 i j)), M) := by
  rw [at47, if_pos (zin_nI h (by decide)), nI_clamp (by omega)]
theorem se47 (b : Bool) (d i : Nat) (x v : Int32) (M : zM) : zgo b d 170 0 [zr 47 i, zi x, zi v] [] M = some (none, if zin x 11 = true then zsI M 47 i x.toNatClampNeg v else M) := S_set b d 47 i x v M (by decide) rfl (zlen_lt (by decide) (by decide))
theorem se47n (b : Bool) (d i j : Nat) (v : Int32) (M : zM) (h : j < 11) : zgo b d 170 0 [zr 47 i, zi (nI j), zi v] [] M = some (none, zsI M 47 i j v) := by
  rw [se47, if_pos (zin_nI h (by decide)), nI_clamp (by omega)]
theorem at48 (b : Bool) (d i : Nat) (x : Int32) (M : zM) : zgo b d 169 0 [zr 48 i, zi x] [] M = some (some (zi (if zin x 128 = true then zgI M 48 i x.toNatClampNeg else 0)), M) := S_at b d 48 i x M (by decide) rfl (zlen_lt (by decide) (by decide))
theorem at48n (b : Bool) (d i j : Nat) (M : zM) (h : j < 128) : zgo b d 169 0 [zr 48 i, zi (nI j)] [] M = some (some (zi (zgI M 48 i j)), M) := by
  rw [at48, if_pos (zin_nI h (by decide)), nI_clamp (by omega)]
theorem se48 (b : Bool) (d i : Nat) (x v : Int32) (M : zM) : zgo b d 170 0 [zr 48 i, zi x, zi v] [] M = some (none, if zin x 128 = true then zsI M 48 i x.toNatClampNeg v else M) := S_set b d 48 i x v M (by decide) rfl (zlen_lt (by decide) (by decide))
theorem se48n (b : Bool) (d i j : Nat) (v : Int32) (M : zM) (h : j < 128) : zgo b d 170 0 [zr 48 i, zi (nI j), zi v] [] M = some (none, zsI M 48 i j v) := by
  rw [se48, if_pos (zin_nI h (by decide)), nI_clamp (by omega)]
theorem at49 (b : Bool) (d i : Nat) (x : Int32) (M : zM) : zgo b d 169 0 [zr 49 i, zi x] [] M = some (some (zi (if zin x 128 = true then zgI M 49 i x.toNatClampNeg else 0)), M) := S_at b d 49 i x M (by decide) rfl (zlen_lt (by decide) (by decide))
theorem at49n (b : Bool) (d i j : Nat) (M : zM) (h : j < 128) : zgo b d 169 0 [zr 49 i, zi (nI j)] [] M = some (some (zi (zgI M 49 i j)), M) := by
  rw [at49, if_pos (zin_nI h (by decide)), nI_clamp (by omega)]
theorem se49 (b : Bool) (d i : Nat) (x v : Int32) (M : zM) : zgo b d 170 0 [zr 49 i, zi x, zi v] [] M = some (none, if zin x 128 = true then zsI M 49 i x.toNatClampNeg v else M) := S_set b d 49 i x v M (by decide) rfl (zlen_lt (by decide) (by decide))
theorem se49n (b : Bool) (d i j : Nat) (v : Int32) (M : zM) (h : j < 128) : zgo b d 170 0 [zr 49 i, zi (nI j), zi v] [] M = some (none, zsI M 49 i j v) := by
  rw [se49, if_pos (zin_nI h (by decide)), nI_clamp (by omega)]
theorem at52 (b : Bool) (d i : Nat) (x : Int32) (M : zM) : zgo b d 169 0 [zr 52 i, zi x] [] M = some (some (zi (if zin x 11 = true then zgI M 52 i x.toNatClampNeg else 0)), M) := S_at b d 52 i x M (by decide) rfl (zlen_lt (by decide) (by decide))
theorem at52n (b : Bool) (d i j : Nat) (M : zM) (h : j < 11) : zgo b d 169 0 [zr 52 i, zi (nI j)] [] M = some (some (zi (zgI M 52 i j)), M) := by
  rw [at52, if_pos (zin_nI h (by decide)), nI_clamp (by omega)]
theorem se52 (b : Bool) (d i : Nat) (x v : Int32) (M : zM) : zgo b d 170 0 [zr 52 i, zi x, zi v] [] M = some (none, if zin x 11 = true then zsI M 52 i x.toNatClampNeg v else M) := S_set b d 52 i x v M (by decide) rfl (zlen_lt (by decide) (by decide))
theorem se52n (b : Bool) (d i j : Nat) (v : Int32) (M : zM) (h : j < 11) : zgo b d 170 0 [zr 52 i, zi (nI j), zi v] [] M = some (none, zsI M 52 i j v) := by
  rw [se52, if_pos (zin_nI h (by decide)), nI_clamp (by omega)]
theorem at54 (b : Bool) (d i : Nat) (x : Int32) (M : zM) : zgo b d 169 0 [zr 54 i, zi x] [] M = some (some (zi (if zin x 8 = true then zgI M 54 i x.toNatClampNeg else 0)), M) := S_at b d 54 i x M (by decide) rfl (zlen_lt (by decide) (by decide))
theorem at54n (b : Bool) (d i j : Nat) (M : zM) (h : j < 8) : zgo b d 169 0 [zr 54 i, zi (nI j)] [] M = some (some (zi (zgI M 54 i j)), M) := by
  rw [at54, if_pos (zin_nI h (by decide)), nI_clamp (by omega)]
theorem se54 (b : Bool) (d i : Nat) (x v : Int32) (M : zM) : zgo b d 170 0 [zr 54 i, zi x, zi v] [] M = some (none, if zin x 8 = true then zsI M 54 i x.toNatClampNeg v else M) := S_set b d 54 i x v M (by decide) rfl (zlen_lt (by decide) (by decide))
theorem se54n (b : Bool) (d i j : Nat) (v : Int32) (M : zM) (h : j < 8) : zgo b d 170 0 [zr 54 i, zi (nI j), zi v] [] M = some (none, zsI M 54 i j v) := by
  rw [se54, if_pos (zin_nI h (by decide)), nI_clamp (by omega)]
