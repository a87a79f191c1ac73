/-! ===== a change comes ===== -/
def zsh (n : Nat) (f : Nat → Int32) (s : Nat) : Int32 := if n = 40 ∧ s < 39 then f (s + 1) else f s
def znn (n : Nat) : Nat := if n = 40 then 39 else n
theorem S_setN (b : Bool) (d k i n N : Nat) (v : Int32) (M : zM) (hk : 17 ≤ k) (ht : zat k = 1) (hl : zlen M k = N) (hN : N < 2 ^ 31) (h : n < N) : zgo b d 170 0 [zr k i, zi (nI n), zi v] [] M = some (none, zsI M k i n v) := by
  rw [S_set b d k i (nI n) v M hk ht (by rw [hl]; exact hN), hl, if_pos (zin_nI h hN), nI_clamp (by omega)]
theorem S_atN (b : Bool) (d k i n N : Nat) (M : zM) (hk : 17 ≤ k) (ht : zat k = 1) (hl : zlen M k = N) (hN : N < 2 ^ 31) (h : n < N) : zgo b d 169 0 [zr k i, zi (nI n)] [] M = some (some (zi (zgI M k i n)), M) := by
  rw [S_at b d k i (nI n) M (by omega) ht (by rw [hl]; exact hN), hl, if_pos (zin_nI h hN), nI_clamp (by omega)]
  unfold zld
  rw [zb_ne (by omega), zb_ne (by omega)]
  rfl
theorem zFr_st {m : Nat → Bool} {M M' : zM} (h : zFr m M M') (k i s : Nat) (v : Int32) : zFr m (zsI M k i s v) (zsI M' k i s v) := by
  intro k' i' s' q
  refine ⟨?_, (h k' i' s' q).2.1, (h k' i' s' q).2.2⟩
  rw [zgI_sI, zgI_sI, (h k' i' s' q).1]
theorem znn_le {n : Nat} (h : n ≤ 40) : znn n < 40 := by
  unfold znn
  by_cases q : n = 40
  · rw [if_pos q]; omega
  · rw [if_neg q]; omega
/-- 'come' from where there is room -/
theorem S_come13 (d n : Nat) (w b a : Int32) (M : zM) (hn : zgI M 3 0 3 = nI n) (h : n < 40) : ∃ M', zgo false (d + 1) 15 13 [zr 3 0, zi w, zi b, zi a] [] M = some (none, M') ∧ zFr (Nat.beq 3) M M' ∧ zgI M' 3 0 3 = nI (n + 1) ∧ zgI M' 3 0 4 = nI (n + 1) ∧ (∀ s, zgI M' 21 0 s = if s = n then w else zgI M 21 0 s) ∧ (∀ s, zgI M' 22 0 s = if s = n then b else zgI M 22 0 s) ∧ ∀ s, zgI M' 23 0 s = if s = n then a else zgI M 23 0 s := by
  have z : zin (nI n) 40 = true := zin_nI h (by omega)
  have c : (nI n).toNatClampNeg = n := nI_clamp (by omega)
  refine ⟨zsI (zsI (zsI (zsI (zsI M 21 0 n w) 22 0 n b) 23 0 n a) 3 0 3 (nI n + 1)) 3 0 4 (nI n + 1), ?_, zFr_sI (zFr_sI (zFr_sI (zFr_of2 rfl rfl) rfl) rfl) rfl, (nI_1 n), (nI_1 n), fun s => ?_, fun s => ?_, fun s => ?_⟩
  · rw [B15_13, hn]
    refine zbind_of (S_setN false d 21 0 n 40 w M (by decide) rfl rfl (by decide) h) ?_
    refine (B15_25 d w b a _).trans ?_
    rw [show zgI (none, zsI M 21 0 n w).2 3 0 3 = nI n from hn]
    refine zbind_of (S_setN false d 22 0 n 40 b _ (by decide) rfl rfl (by decide) h) ?_
    refine (B15_37 d w b a _).trans ?_
    rw [show zgI (none, zsI (zsI M 21 0 n w) 22 0 n b).2 3 0 3 = nI n from hn]
    refine zbind_of (S_setN false d 23 0 n 40 a _ (by decide) rfl rfl (by decide) h) ?_
    refine (B15_49 (d + 1) w b a _).trans ?_
    show some (none, zsI (zsI _ 3 0 3 (zgI M 3 0 3 + 1)) 3 0 4 (zgI M 3 0 3 + 1)) = _
    rw [hn]
  · show (if 21 = 21 ∧ 0 = 0 ∧ s = n then w else zgI M 21 0 s) = _
    by_cases q : s = n
    · rw [if_pos ⟨rfl, rfl, q⟩, if_pos q]
    · rw [if_neg (fun t => q t.2.2), if_neg q]
  · show (if 22 = 22 ∧ 0 = 0 ∧ s = n then b else zgI M 22 0 s) = _
    by_cases q : s = n
    · rw [if_pos ⟨rfl, rfl, q⟩, if_pos q]
    · rw [if_neg (fun t => q t.2.2), if_neg q]
  · show (if 23 = 23 ∧ 0 = 0 ∧ s = n then a else zgI M 23 0 s) = _
    by_cases q : s = n
    · rw [if_pos ⟨rfl, rfl, q⟩, if_pos q]
    · rw [if_neg (fun t => q t.2.2), if_neg q]
theorem S_come15 (d n : Nat) (w b a : Int32) (M : zM) (hn : zgI M 3 0 3 = nI n) (h : n ≤ 40) : ∃ M', zgo false (d + 2) 15 0 [zr 3 0, zi w, zi b, zi a] [] M = some (none, M') ∧ zFr (Nat.beq 3) M M' ∧ zgI M' 3 0 3 = nI (znn n + 1) ∧ zgI M' 3 0 4 = nI (znn n + 1) ∧ (∀ s, zgI M' 21 0 s = if s = znn n then w else zsh n (zgI M 21 0) s) ∧ (∀ s, zgI M' 22 0 s = if s = znn n then b else zsh n (zgI M 22 0) s) ∧ ∀ s, zgI M' 23 0 s = if s = znn n then a else zsh n (zgI M 23 0) s := by
  by_cases q : n = 40
  · subst q
    obtain ⟨M1, e1, f1, a1, r1⟩ := L19 d 39 1 M (by omega) (by omega)
    obtain ⟨M', e2, f2, a2, b2, c1, c2, c3⟩ := S_come13 (d + 1) 39 w b a M1 a1 (by omega)
    have hr : ∀ r, 21 ≤ r → r ≤ 23 → ∀ s, zgI M1 r 0 s = zsh 40 (zgI M r 0) s := fun r h1 h2 s => by
      rw [r1 r h1 h2 s]
      unfold zsh
      by_cases t : s < 39
      · rw [if_pos ⟨by omega, t⟩, if_pos ⟨rfl, t⟩]
      · rw [if_neg (fun u => t u.2), if_neg (fun u => t u.2)]
    refine ⟨M', ?_, zFr_trans f1 f2, a2, b2, fun s => ?_, fun s => ?_, fun s => ?_⟩
    · rw [B15_0, hn, if_neg (by decide)]
      refine zbind_of ((B19_0 (d + 1) zu M).trans e1) ?_
      exact e2
    · rw [c1 s, hr 21 (by omega) (by omega)]; rfl
    · rw [c2 s, hr 22 (by omega) (by omega)]; rfl
    · rw [c3 s, hr 23 (by omega) (by omega)]; rfl
  · obtain ⟨M', e2, f2, a2, b2, c1, c2, c3⟩ := S_come13 (d + 1) n w b a M hn (by omega)
    have hz : znn n = n := if_neg q
    have hs : ∀ f s, zsh n f s = f s := fun f s => if_neg (fun t => q t.1)
    refine ⟨M', ?_, f2, by rw [hz]; exact a2, by rw [hz]; exact b2, fun s => ?_, fun s => ?_, fun s => ?_⟩
    · rw [B15_0, hn, if_pos (by rw [show (40 : Int32) = nI 40 from rfl, nI_ltI (by omega) (by omega)]; omega)]
      exact e2
    · rw [hz, hs]; exact c1 s
    · rw [hz, hs]; exact c2 s
    · rw [hz, hs]; exact c3 s
