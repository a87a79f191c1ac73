/-! ===== changes told: the rows are shifted by one ===== -/
/-- the four rows of the model, or three of the class, read -/
theorem R204 (d k : Nat) (x1 x2 x3 x4 : Int32) (M : zM) (h1 : 1 ≤ k) (h2 : k < 40) : ∃ M1, zgo false d 204 59 [zr 13 0, zi x1, zi x2, zi x3, zi x4, zi (nI k)] [] M = zgo false d 204 59 [zr 13 0, zi x1, zi x2, zi x3, zi x4, zi (nI (k + 1))] [] M1 ∧ zFr (Nat.beq 23) M M1 ∧ zgI M1 13 0 12 = zgI M 13 0 12 ∧ zgI M1 13 0 13 = zgI M 13 0 13 ∧ ∀ r, 58 ≤ r → r ≤ 61 → ∀ s, zgI M1 r 0 s = if s + 1 = k then zgI M r 0 k else zgI M r 0 s := by
  obtain ⟨j, rfl⟩ : ∃ j, k = j + 1 := ⟨k - 1, by omega⟩
  have e1 : nI (j + 1) - 1 = nI j := nI_pred j
  have c1 : (nI (j + 1)).toNatClampNeg = j + 1 := nI_clamp (by omega)
  have c0 : (nI j).toNatClampNeg = j := nI_clamp (by omega)
  have z1 : zin (nI (j + 1)) 40 = true := zin_nI (by omega) (by omega)
  have z0 : zin (nI j) 40 = true := zin_nI (by omega) (by omega)
  have n40 : ¬ (40 : Int32) ≤ nI (j + 1) := by
    rw [show (40 : Int32) = nI 40 from rfl, nI_leI (by omega) (by omega)]
    omega
  refine ⟨zsI (zsI (zsI (zsI M 58 0 j (zgI M 58 0 (j + 1))) 59 0 j (zgI M 59 0 (j + 1))) 60 0 j (zgI M 60 0 (j + 1))) 61 0 j (zgI M 61 0 (j + 1)), ?_, zFr_sI (zFr_sI (zFr_of2 rfl rfl) rfl) rfl, rfl, rfl, ?_⟩
  · rw [B204_59, if_neg n40, e1, c1, c0, if_pos z1, if_pos z0, B204_82, e1, c1, c0, if_pos z1, if_pos z0, if_pos z1, if_pos z0, B204_114, e1, c1, c0, if_pos z1, if_pos z0, nI_1 (j + 1)]
    rfl
  · intro r hr1 hr2 s
    have hs : (s + 1 = j + 1) ↔ s = j := by omega
    rcases (by omega : r = 58 ∨ r = 59 ∨ r = 60 ∨ r = 61) with rfl | rfl | rfl | rfl
    · show (if 58 = 58 ∧ 0 = 0 ∧ s = j then _ else _) = _
      by_cases q : s = j
      · rw [if_pos ⟨rfl, rfl, q⟩, if_pos (hs.mpr q)]
      · rw [if_neg (fun t => q t.2.2), if_neg (fun t => q (hs.mp t))]
        rfl
    · show (if 59 = 59 ∧ 0 = 0 ∧ s = j then _ else _) = _
      by_cases q : s = j
      · rw [if_pos ⟨rfl, rfl, q⟩, if_pos (hs.mpr q)]
      · rw [if_neg (fun t => q t.2.2), if_neg (fun t => q (hs.mp t))]
        rfl
    · show (if 60 = 60 ∧ 0 = 0 ∧ s = j then _ else _) = _
      by_cases q : s = j
      · rw [if_pos ⟨rfl, rfl, q⟩, if_pos (hs.mpr q)]
      · rw [if_neg (fun t => q t.2.2), if_neg (fun t => q (hs.mp t))]
        rfl
    · show (if 61 = 61 ∧ 0 = 0 ∧ s = j then _ else _) = _
      by_cases q : s = j
      · rw [if_pos ⟨rfl, rfl, q⟩, if_pos (hs.mpr q)]
      · rw [if_neg (fun t => q t.2.2), if_neg (fun t => q (hs.mp t))]
        rfl
theorem L204 (d : Nat) (x1 x2 x3 x4 : Int32) : ∀ (j k : Nat) (M : zM), k + j = 40 → 1 ≤ k → ∃ M', zgo false d 204 59 [zr 13 0, zi x1, zi x2, zi x3, zi x4, zi (nI k)] [] M = zgo false d 204 146 [zr 13 0, zi x1, zi x2, zi x3, zi x4, zi 40] [] M' ∧ zFr (Nat.beq 23) M M' ∧ zgI M' 13 0 12 = zgI M 13 0 12 - 1 ∧ zgI M' 13 0 13 = zgI M 13 0 13 ∧ ∀ r, 58 ≤ r → r ≤ 61 → ∀ s, zgI M' r 0 s = if k ≤ s + 1 ∧ s < 39 then zgI M r 0 (s + 1) else zgI M r 0 s
  | 0, k, M, hk, h1 => by
    have hk : k = 40 := by omega
    subst hk
    refine ⟨zsI M 13 0 12 (zgI M 13 0 12 - 1), ?_, zFr_sI (zFr_refl _ M) rfl, rfl, rfl, fun r h1 h2 s => ?_⟩
    · rw [B204_59, if_pos (show (40 : Int32) ≤ nI 40 by decide)]
      rfl
    · rw [if_neg (by omega), zgI_sI, if_neg (by omega)]
  | j + 1, k, M, hk, h1 => by
    obtain ⟨M1, e1, f1, a1, b1, r1⟩ := R204 d k x1 x2 x3 x4 M h1 (by omega)
    obtain ⟨M', e2, f2, a2, b2, r2⟩ := L204 d x1 x2 x3 x4 j (k + 1) M1 (by omega) (by omega)
    refine ⟨M', e1.trans e2, zFr_trans f1 f2, by rw [a2, a1], by rw [b2, b1], fun r h1 h2 s => ?_⟩
    rw [r2 r h1 h2 s]
    by_cases q : k + 1 ≤ s + 1 ∧ s < 39
    · rw [if_pos q, if_pos ⟨by omega, q.2⟩, r1 r h1 h2, if_neg (by omega)]
    · rw [if_neg q, r1 r h1 h2]
      by_cases t : s + 1 = k
      · rw [if_pos t, if_pos ⟨by omega, by omega⟩, t]
      · rw [if_neg t, if_neg (by omega)]
/-- the class's round: one row's value is put one place down -/
theorem S_down (d r k : Nat) (M : zM) (h0 : 17 ≤ r) (ht : zat r = 1) (hl : zlen M r = 40) (h1 : 1 ≤ k) (h2 : k < 40) : zgo false d 169 0 [zr r 0, zi (nI k)] [] M = some (some (zi (zld M r 0 k)), M) ∧ ∀ (M' : zM) (v : Int32), zlen M' r = 40 → zgo false d 170 0 [zr r 0, zi (nI k - 1), zi v] [] M' = some (none, zsI M' r 0 (k - 1) v) := by
  obtain ⟨j, rfl⟩ : ∃ j, k = j + 1 := ⟨k - 1, by omega⟩
  refine ⟨?_, fun M' v hl' => ?_⟩
  · rw [S_at false d r 0 (nI (j + 1)) M (by omega) ht (by rw [hl]; decide), hl, if_pos (zin_nI (by omega) (by omega)), nI_clamp (by omega)]
  · rw [nI_pred, S_set false d r 0 (nI j) v M' h0 ht (by rw [hl']; decide), hl', if_pos (zin_nI (by omega) (by omega)), nI_clamp (by omega)]
    rfl
theorem R19 (d k : Nat) (M : zM) (h1 : 1 ≤ k) (h2 : k < 40) : ∃ M1, zgo false (d + 1) 19 2 [zr 3 0, zi (nI k)] [] M = zgo false (d + 1) 19 2 [zr 3 0, zi (nI (k + 1))] [] M1 ∧ zFr (Nat.beq 3) M M1 ∧ zgI M1 3 0 3 = zgI M 3 0 3 ∧ ∀ r, 21 ≤ r → r ≤ 23 → ∀ s, zgI M1 r 0 s = if s + 1 = k then zgI M r 0 k else zgI M r 0 s := by
  have n40 : ¬ (40 : Int32) ≤ nI k := by
    rw [show (40 : Int32) = nI 40 from rfl, nI_leI (by omega) (by omega)]
    omega
  obtain ⟨a1, b1⟩ := S_down d 21 k M (by decide) rfl rfl h1 h2
  obtain ⟨a2, b2⟩ := S_down d 22 k (zsI M 21 0 (k - 1) (zgI M 21 0 k)) (by decide) rfl rfl h1 h2
  obtain ⟨a3, b3⟩ := S_down d 23 k (zsI (zsI M 21 0 (k - 1) (zgI M 21 0 k)) 22 0 (k - 1) (zgI M 22 0 k)) (by decide) rfl rfl h1 h2
  refine ⟨zsI (zsI (zsI M 21 0 (k - 1) (zgI M 21 0 k)) 22 0 (k - 1) (zgI M 22 0 k)) 23 0 (k - 1) (zgI M 23 0 k), ?_, zFr_sI (zFr_of2 rfl rfl) rfl, rfl, ?_⟩
  · rw [B19_2, if_neg n40]
    refine zbind_of a1 ((B19_23 d (nI k) _ _ M).trans (zbind_of (b1 M _ rfl) ((B19_26 d (nI k) _).trans (zbind_of a2 ((B19_41 d (nI k) _ _ _).trans (zbind_of (b2 _ _ rfl) ((B19_44 d (nI k) _).trans (zbind_of a3 ((B19_59 d (nI k) _ _ _).trans (zbind_of (b3 _ _ rfl) ((B19_62 (d + 1) (nI k) _).trans ?_)))))))))))
    rw [nI_1]
    rfl
  · intro r hr1 hr2 s
    have hs : (s + 1 = k) ↔ s = k - 1 := by omega
    rcases (by omega : r = 21 ∨ r = 22 ∨ r = 23) with rfl | rfl | rfl
    · show (if 21 = 21 ∧ 0 = 0 ∧ s = k - 1 then _ else _) = _
      by_cases q : s = k - 1
      · rw [if_pos ⟨rfl, rfl, q⟩, if_pos (hs.mpr q)]
      · rw [if_neg (fun t => q t.2.2), if_neg (fun t => q (hs.mp t))]
        rfl
    · show (if 22 = 22 ∧ 0 = 0 ∧ s = k - 1 then _ else _) = _
      by_cases q : s = k - 1
      · rw [if_pos ⟨rfl, rfl, q⟩, if_pos (hs.mpr q)]
      · rw [if_neg (fun t => q t.2.2), if_neg (fun t => q (hs.mp t))]
        rfl
    · show (if 23 = 23 ∧ 0 = 0 ∧ s = k - 1 then _ else _) = _
      by_cases q : s = k - 1
      · rw [if_pos ⟨rfl, rfl, q⟩, if_pos (hs.mpr q)]
      · rw [if_neg (fun t => q t.2.2), if_neg (fun t => q (hs.mp t))]
        rfl
theorem L19 (d : Nat) : ∀ (j k : Nat) (M : zM), k + j = 40 → 1 ≤ k → ∃ M', zgo false (d + 1) 19 2 [zr 3 0, zi (nI k)] [] M = some (none, M') ∧ zFr (Nat.beq 3) M M' ∧ zgI M' 3 0 3 = 39 ∧ ∀ r, 21 ≤ r → r ≤ 23 → ∀ s, zgI M' r 0 s = if k ≤ s + 1 ∧ s < 39 then zgI M r 0 (s + 1) else zgI M r 0 s
  | 0, k, M, hk, h1 => by
    have hk : k = 40 := by omega
    subst hk
    refine ⟨zsI M 3 0 3 39, ?_, zFr_sI (zFr_refl _ M) rfl, rfl, fun r h1 h2 s => ?_⟩
    · rw [B19_2, if_pos (show (40 : Int32) ≤ nI 40 by decide)]
    · rw [if_neg (by omega), zgI_sI, if_neg (by omega)]
  | j + 1, k, M, hk, h1 => by
    obtain ⟨M1, e1, f1, a1, r1⟩ := R19 d k M h1 (by omega)
    obtain ⟨M', e2, f2, a2, r2⟩ := L19 d j (k + 1) M1 (by omega) (by omega)
    refine ⟨M', e1.trans e2, zFr_trans f1 f2, a2, fun r h1 h2 s => ?_⟩
    rw [r2 r h1 h2 s]
    by_cases q : k + 1 ≤ s + 1 ∧ s < 39
    · rw [if_pos q, if_pos ⟨by omega, q.2⟩, r1 r h1 h2, if_neg (by omega)]
    · rw [if_neg q, r1 r h1 h2]
      by_cases t : s + 1 = k
      · rw [if_pos t, if_pos ⟨by omega, by omega⟩, t]
      · rw [if_neg t, if_neg (by omega)]
