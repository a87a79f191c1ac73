/-! ===== the model's change ===== -/
def zput (M : zM) (x1 x2 v : Int32) : zM := if x1 = 0 then zsI M 57 0 x2.toNatClampNeg v else if x1 = 1 then zsI M 13 0 11 v else zsI M 71 0 x2.toNatClampNeg v
def zcur (M : zM) (x1 x2 : Int32) : Int32 := if x1 = 0 then zgI M 57 0 x2.toNatClampNeg else if x1 = 1 then zgI M 13 0 11 else zgI M 71 0 x2.toNatClampNeg
def zokT (x1 x2 : Int32) : Prop := (x1 = 0 → zin x2 4 = true) ∧ (x1 ≠ 0 → x1 ≠ 1 → zin x2 10 = true)
theorem S_put (d : Nat) (x1 x2 v : Int32) (M : zM) (h : zokT x1 x2) : zgo false d 203 0 [zr 13 0, zi x1, zi x2, zi v] [] M = some (none, zput M x1 x2 v) := by
  unfold zput
  rw [B203_0]
  by_cases a : x1 = 0
  · rw [if_pos a, if_pos a, if_pos (h.1 a), B203_34]
  rw [if_neg a, if_neg a]
  by_cases b : x1 = 1
  · rw [if_pos b, if_pos b, B203_24, B203_34]
  rw [if_neg b, if_neg b, if_pos (h.2 a b), B203_34]
theorem S_chg146 (d n : Nat) (x1 x2 x3 x4 : Int32) (u5 : zV) (M : zM) (ht : zokT x1 x2) (hn : zgI M 13 0 12 = nI n) (h : n < 40) : ∃ M1, zgo false (d + 1) 204 146 [zr 13 0, zi x1, zi x2, zi x3, zi x4, u5] [] M = some (some (zi x4), zput M1 x1 x2 x3) ∧ zFr (Nat.beq 23) M M1 ∧ zgI M1 13 0 12 = nI (n + 1) ∧ zgI M1 13 0 13 = zgI M 13 0 13 ∧ (∀ s, zgI M1 58 0 s = if s = n then x1 else zgI M 58 0 s) ∧ (∀ s, zgI M1 59 0 s = if s = n then x2 else zgI M 59 0 s) ∧ (∀ s, zgI M1 60 0 s = if s = n then x4 else zgI M 60 0 s) ∧ ∀ s, zgI M1 61 0 s = if s = n then x3 else zgI M 61 0 s := by
  have z : zin (nI n) 40 = true := zin_nI h (by omega)
  have c : (nI n).toNatClampNeg = n := nI_clamp (by omega)
  refine ⟨zsI (zsI (zsI (zsI (zsI M 58 0 n x1) 59 0 n x2) 60 0 n x4) 61 0 n x3) 13 0 12 (nI n + 1), ?_, zFr_sI (zFr_sI (zFr_sI (zFr_of2 rfl rfl) rfl) rfl) rfl, (nI_1 n), rfl, fun s => ?_, fun s => ?_, fun s => ?_, fun s => ?_⟩
  · rw [B204_146, hn, c, if_pos z, show zgI (zsI M 58 0 n x1) 13 0 12 = nI n from hn, c, if_pos z, B204_166, show zgI (zsI (zsI M 58 0 n x1) 59 0 n x2) 13 0 12 = nI n from hn, c, if_pos z, show zgI (zsI (zsI (zsI M 58 0 n x1) 59 0 n x2) 60 0 n x4) 13 0 12 = nI n from hn, c, if_pos z, B204_187, show zgI (zsI (zsI (zsI (zsI M 58 0 n x1) 59 0 n x2) 60 0 n x4) 61 0 n x3) 13 0 12 = nI n from hn]
    refine zbind_of (S_put d x1 x2 x3 _ ht) ?_
    exact B204_204 (d + 1) x1 x2 x3 x4 u5 _
  · show (if 58 = 58 ∧ 0 = 0 ∧ s = n then x1 else zgI M 58 0 s) = _
    by_cases q : s = n
    · rw [if_pos ⟨rfl, rfl, q⟩, if_pos q]
    · rw [if_neg (fun t => q t.2.2), if_neg q]
  · show (if 59 = 59 ∧ 0 = 0 ∧ s = n then x2 else zgI M 59 0 s) = _
    by_cases q : s = n
    · rw [if_pos ⟨rfl, rfl, q⟩, if_pos q]
    · rw [if_neg (fun t => q t.2.2), if_neg q]
  · show (if 60 = 60 ∧ 0 = 0 ∧ s = n then x4 else zgI M 60 0 s) = _
    by_cases q : s = n
    · rw [if_pos ⟨rfl, rfl, q⟩, if_pos q]
    · rw [if_neg (fun t => q t.2.2), if_neg q]
  · show (if 61 = 61 ∧ 0 = 0 ∧ s = n then x3 else zgI M 61 0 s) = _
    by_cases q : s = n
    · rw [if_pos ⟨rfl, rfl, q⟩, if_pos q]
    · rw [if_neg (fun t => q t.2.2), if_neg q]
theorem B204_cur (d : Nat) (x1 x2 x3 : Int32) (u4 u5 : zV) (M : zM) (h : zokT x1 x2) : zgo false d 204 0 [zr 13 0, zi x1, zi x2, zi x3, u4, u5] [] M = zgo false d 204 31 [zr 13 0, zi x1, zi x2, zi x3, u4, u5] [zi (zcur M x1 x2)] M := by
  unfold zcur
  rw [B204_0]
  by_cases a : x1 = 0
  · rw [if_pos a, if_pos a, if_pos (h.1 a)]
  rw [if_neg a, if_neg a]
  by_cases b : x1 = 1
  · rw [if_pos b, if_pos b]
  rw [if_neg b, if_neg b, if_pos (h.2 a b)]
theorem S_chg_eq (d : Nat) (x1 x2 x3 : Int32) (u4 u5 : zV) (M : zM) (h : zokT x1 x2) (he : zcur M x1 x2 = x3) : zgo false d 204 0 [zr 13 0, zi x1, zi x2, zi x3, u4, u5] [] M = some (some (zi x3), M) := by
  rw [B204_cur d x1 x2 x3 u4 u5 M h, B204_31, if_pos he, he]
theorem S_chg_ne (d n : Nat) (x1 x2 x3 : Int32) (u4 u5 : zV) (M : zM) (h : zokT x1 x2) (he : zcur M x1 x2 ≠ x3) (hn : zgI M 13 0 12 = nI n) (hn40 : n ≤ 40) : ∃ M1, zgo false (d + 1) 204 0 [zr 13 0, zi x1, zi x2, zi x3, u4, u5] [] M = some (some (zi (zcur M x1 x2)), zput M1 x1 x2 x3) ∧ zFr (Nat.beq 23) M M1 ∧ zgI M1 13 0 12 = nI (znn n + 1) ∧ zgI M1 13 0 13 = 0 ∧ (∀ s, zgI M1 58 0 s = if s = znn n then x1 else zsh n (zgI M 58 0) s) ∧ (∀ s, zgI M1 59 0 s = if s = znn n then x2 else zsh n (zgI M 59 0) s) ∧ (∀ s, zgI M1 60 0 s = if s = znn n then zcur M x1 x2 else zsh n (zgI M 60 0) s) ∧ ∀ s, zgI M1 61 0 s = if s = znn n then x3 else zsh n (zgI M 61 0) s := by
  have f0 : zFr (Nat.beq 23) M (zsI M 13 0 13 0) := zFr_sI (zFr_refl _ M) rfl
  by_cases q : n = 40
  · subst q
    obtain ⟨M1, e1, f1, a1, b1, r1⟩ := L204 (d + 1) x1 x2 x3 (zcur M x1 x2) 39 1 (zsI M 13 0 13 0) (by omega) (by omega)
    have a1 : zgI M1 13 0 12 = nI 39 := by rw [a1, show zgI (zsI M 13 0 13 0) 13 0 12 = nI 40 from hn]; exact nI_pred 39
    obtain ⟨M2, e2, f2, a2, b2, c1, c2, c3, c4⟩ := S_chg146 d 39 x1 x2 x3 (zcur M x1 x2) (zi 40) M1 h a1 (by omega)
    have hr : ∀ r, 58 ≤ r → r ≤ 61 → ∀ s, zgI M1 r 0 s = zsh 40 (zgI M r 0) s := fun r h1 h2 s => by
      rw [r1 r h1 h2 s]
      unfold zsh
      by_cases t : s < 39
      · rw [if_pos ⟨by omega, t⟩, if_pos ⟨rfl, t⟩, zgI_sI, if_neg (by omega)]
      · rw [if_neg (fun u => t u.2), if_neg (fun u => t u.2), zgI_sI, if_neg (by omega)]
    refine ⟨M2, ?_, zFr_trans f0 (zFr_trans f1 f2), a2, by rw [b2, b1]; rfl, fun s => ?_, fun s => ?_, fun s => ?_, fun s => ?_⟩
    · rw [B204_cur (d + 1) x1 x2 x3 u4 u5 M h, B204_31, if_neg he, if_pos (show zgI (zsI M 13 0 13 0) 13 0 12 = 40 from hn)]
      exact e1.trans e2
    · rw [c1 s, hr 58 (by omega) (by omega)]; rfl
    · rw [c2 s, hr 59 (by omega) (by omega)]; rfl
    · rw [c3 s, hr 60 (by omega) (by omega)]; rfl
    · rw [c4 s, hr 61 (by omega) (by omega)]; rfl
  · obtain ⟨M2, e2, f2, a2, b2, c1, c2, c3, c4⟩ := S_chg146 d n x1 x2 x3 (zcur M x1 x2) u5 (zsI M 13 0 13 0) h hn (by omega)
    have hz : znn n = n := if_neg q
    have hs : ∀ f s, zsh n f s = f s := fun f s => if_neg (fun t => q t.1)
    refine ⟨M2, ?_, zFr_trans f0 f2, by rw [hz]; exact a2, b2, fun s => ?_, fun s => ?_, fun s => ?_, fun s => ?_⟩
    · rw [B204_cur (d + 1) x1 x2 x3 u4 u5 M h, B204_31, if_neg he, if_neg]
      · exact e2
      · rw [show zgI (zsI M 13 0 13 0) 13 0 12 = nI n from hn, show (40 : Int32) = nI 40 from rfl, nI_eq (by omega) (by omega)]
        exact q
    · rw [hz, hs]; exact c1 s
    · rw [hz, hs]; exact c2 s
    · rw [hz, hs]; exact c3 s
    · rw [hz, hs]; exact c4 s
