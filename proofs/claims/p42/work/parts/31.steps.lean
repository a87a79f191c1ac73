/-! ===== steps told ===== -/
abbrev zstp (x : Int32) : Prop := 1 ≤ x.toInt ∧ x.toInt ≤ 59 ∧ x.toInt ≠ 10
def Rstep (M : zM) : Prop := zgI M 6 0 1 = zgI M 13 0 83 ∧ (0 ≤ (zgI M 13 0 83).toInt ∧ (zgI M 13 0 83).toInt ≤ 12) ∧ ∀ s : Nat, (s : Int) < (zgI M 13 0 83).toInt → zgI M 32 0 s = zgI M 105 0 s ∧ zstp (zgI M 105 0 s)
theorem Rstep_fr {m : Nat → Bool} {M M' : zM} (h : zFr m M M') (hm : m 8 = false) (hm' : m 28 = false) (hR : Rstep M) : Rstep M' := by
  unfold Rstep at hR ⊢
  rw [(h 6 0 1 hm).1, (h 13 0 83 hm').1]
  refine ⟨hR.1, hR.2.1, fun s hs => ?_⟩
  rw [(h 32 0 s hm).1, (h 105 0 s hm').1]
  exact hR.2.2 s hs
theorem zstp_x {x : Int32} (h : zstp x) : ¬ x < 1 ∧ ¬ 59 < x ∧ ¬ x = 10 := by
  obtain ⟨h1, h2, h3⟩ := h
  refine ⟨fun q => ?_, fun q => ?_, fun q => h3 (by rw [q]; rfl)⟩
  · rw [zI_lt] at q
    have : (1 : Int32).toInt = 1 := rfl
    omega
  · rw [zI_lt] at q
    have : (59 : Int32).toInt = 59 := rfl
    omega
theorem S_come (d : Nat) (x : Int32) (M : zM) (h0 : 0 ≤ (zgI M 6 0 1).toInt) : zgo false (d + 1) 53 0 [zr 6 0, zi x] [] M = some (if zgI M 6 0 1 < 12 then (some (zi 1), zsI (zsI M 32 0 (zgI M 6 0 1).toNatClampNeg x) 6 0 1 (zgI M 6 0 1 + 1)) else (some (zi 0), M)) := by
  rw [B53_0]
  by_cases h : zgI M 6 0 1 < 12
  · rw [if_pos h, if_pos h]
    refine zbind_of (S_set false d 32 0 _ x M (by decide) rfl (zlen_lt (by decide) (by decide))) ?_
    rw [if_pos (zin_iff.mpr ⟨h0, by rw [zI_lt] at h; exact h⟩)]
    exact B53_26 (d + 1) x _
  · rw [if_neg h, if_neg h]
theorem Z151 (d : Nat) (x : Int32) (M : zM) (h0 : 0 ≤ (zgI M 6 0 1).toInt) : zgo false (d + 2) 151 0 [zr 12 0, zi x] [] M = some (if zstp x then (if zgI M 6 0 1 < 12 then (some (zi (zgI M 6 0 1 + 1)), zsI (zsI M 32 0 (zgI M 6 0 1).toNatClampNeg x) 6 0 1 (zgI M 6 0 1 + 1)) else (some (zi (-3)), M)) else (some (zi (-1)), M)) := by
  rw [B151_0]
  by_cases hx : zstp x
  · obtain ⟨h1, h2, h3⟩ := zstp_x hx
    rw [if_neg h1, if_neg h2, if_neg h3, if_pos hx]
    refine zbind_of (S_come d x M h0) ?_
    by_cases h : zgI M 6 0 1 < 12
    · rw [if_pos h, if_pos h]
      refine (B151_27 (d + 2) x 1 _).trans ?_
      rw [if_neg (by decide), B151_42]
      rfl
    · rw [if_neg h, if_neg h]
      refine (B151_27 (d + 2) x 0 _).trans ?_
      rw [if_pos rfl, B151_42]
  · rw [if_neg hx]
    by_cases h1 : x < 1
    · rw [if_pos h1, B151_17]
    rw [if_neg h1]
    by_cases h2 : 59 < x
    · rw [if_pos h2, B151_17]
    rw [if_neg h2]
    by_cases h3 : x = 10
    · rw [if_pos h3, B151_17]
    · exfalso
      apply hx
      rw [zI_lt] at h1 h2
      have e1 : (1 : Int32).toInt = 1 := rfl
      have e2 : (59 : Int32).toInt = 59 := rfl
      refine ⟨by omega, by omega, fun q => h3 ?_⟩
      exact Int32.toInt_inj.mp (q.trans rfl)
theorem Z282 (d : Nat) (x : Int32) (M : zM) (h0 : 0 ≤ (zgI M 13 0 83).toInt ∧ (zgI M 13 0 83).toInt ≤ 12) : zgo false (d + 1) 282 0 [zr 13 0, zi x] [] M = some (if zstp x then (if zgI M 13 0 83 < 12 then (some (zi (zgI M 13 0 83 + 1)), zsI (zsI M 105 0 (zgI M 13 0 83).toNatClampNeg x) 13 0 83 (zgI M 13 0 83 + 1)) else (some (zi (-3)), M)) else (some (zi (-1)), M)) := by
  have e1 : (1 : Int32).toInt = 1 := rfl
  have e9 : (9 : Int32).toInt = 9 := rfl
  have e11 : (11 : Int32).toInt = 11 := rfl
  have e59 : (59 : Int32).toInt = 59 := rfl
  have e12 : (12 : Int32).toInt = 12 := rfl
  have fin : zstp x → zgo false (d + 1) 282 23 [zr 13 0, zi x] [] M = some (if zstp x then (if zgI M 13 0 83 < 12 then (some (zi (zgI M 13 0 83 + 1)), zsI (zsI M 105 0 (zgI M 13 0 83).toNatClampNeg x) 13 0 83 (zgI M 13 0 83 + 1)) else (some (zi (-3)), M)) else (some (zi (-1)), M)) := by
    intro hx
    rw [B282_23, if_pos hx]
    by_cases h : zgI M 13 0 83 = 12
    · rw [if_pos h, if_neg (by rw [h]; decide)]
    · have hlt : (zgI M 13 0 83).toInt < 12 := by
        have : (zgI M 13 0 83).toInt ≠ 12 := fun q => h (Int32.toInt_inj.mp (q.trans rfl))
        omega
      rw [if_neg h, if_pos (zin_iff.mpr ⟨h0.1, hlt⟩), if_pos (by rw [zI_lt, e12]; exact hlt), B282_45]
      rfl
  rw [B282_0]
  refine zbind_of (S_in false d x 1 9 M) ?_
  by_cases a : 1 ≤ x ∧ x ≤ 9
  · rw [if_pos a]
    refine (B282_7 d x 1 M).trans ?_
    rw [if_neg (by decide)]
    apply fin
    rw [zI_le, zI_le, e1, e9] at a
    exact ⟨by omega, by omega, by omega⟩
  · rw [if_neg a]
    refine (B282_7 d x 0 M).trans ?_
    rw [if_pos rfl]
    refine zbind_of (S_in false d x 11 59 M) ?_
    by_cases c : 11 ≤ x ∧ x ≤ 59
    · rw [if_pos c]
      refine (B282_18 (d + 1) x 1 M).trans ?_
      rw [if_neg (by decide)]
      apply fin
      rw [zI_le, zI_le, e11, e59] at c
      exact ⟨by omega, by omega, by omega⟩
    · rw [if_neg c]
      refine (B282_18 (d + 1) x 0 M).trans ?_
      rw [if_pos rfl, if_neg]
      rintro ⟨q1, q2, q3⟩
      rw [zI_le, zI_le, e1, e9] at a
      rw [zI_le, zI_le, e11, e59] at c
      omega
theorem zFr_of2 {m : Nat → Bool} {M : zM} {k i s k' i' s' : Nat} {v v' : Int32} (h : m (zown k i s) = true) (h' : m (zown k' i' s') = true) : zFr m M (zsI (zsI M k i s v) k' i' s' v') := zFr_sI (zFr_sI (zFr_refl m M) h) h'
/-- 'step' -/
theorem Q21 (d : Nat) (x : Int32) (M : zM) (h : Rstep M) : ∃ (y : Int32) (M1 M2 : zM), zgo false (d + 2) 151 0 [zr 12 0, zi x] [] M = some (some (zi y), M1) ∧ zgo false (d + 2) 282 0 [zr 13 0, zi x] [] M1 = some (some (zi y), M2) ∧ zFr (zo 8) M M2 ∧ Rstep M2 := by
  obtain ⟨h1, h2, h3⟩ := h
  have hc := Z151 d x M (by rw [h1]; exact h2.1)
  by_cases hx : zstp x
  · rw [if_pos hx] at hc
    rw [h1] at hc
    by_cases hl : zgI M 13 0 83 < 12
    · rw [if_pos hl] at hc
      have hm := Z282 (d + 1) x (zsI (zsI M 32 0 (zgI M 13 0 83).toNatClampNeg x) 6 0 1 (zgI M 13 0 83 + 1)) h2
      rw [if_pos hx, if_pos (show zgI (zsI (zsI M 32 0 (zgI M 13 0 83).toNatClampNeg x) 6 0 1 (zgI M 13 0 83 + 1)) 13 0 83 < 12 from hl)] at hm
      refine ⟨zgI M 13 0 83 + 1, _, zsI (zsI (zsI (zsI M 32 0 (zgI M 13 0 83).toNatClampNeg x) 6 0 1 (zgI M 13 0 83 + 1)) 105 0 (zgI M 13 0 83).toNatClampNeg x) 13 0 83 (zgI M 13 0 83 + 1), hc, hm, zFr_sI (zFr_sI (zFr_of2 rfl rfl) rfl) rfl, ?_⟩
      have hs : (zgI M 13 0 83 + 1).toInt = (zgI M 13 0 83).toInt + 1 := zI_succ h2.1 (by omega)
      rw [zI_lt, show (12 : Int32).toInt = 12 from rfl] at hl
      refine ⟨rfl, ⟨by show 0 ≤ (zgI M 13 0 83 + 1).toInt; omega, by show (zgI M 13 0 83 + 1).toInt ≤ 12; omega⟩, fun s hs' => ?_⟩
      have hs' : (s : Int) < (zgI M 13 0 83 + 1).toInt := hs'
      show (if 32 = 32 ∧ 0 = 0 ∧ s = (zgI M 13 0 83).toNatClampNeg then x else zgI M 32 0 s) = (if 105 = 105 ∧ 0 = 0 ∧ s = (zgI M 13 0 83).toNatClampNeg then x else zgI M 105 0 s) ∧ zstp (if 105 = 105 ∧ 0 = 0 ∧ s = (zgI M 13 0 83).toNatClampNeg then x else zgI M 105 0 s)
      by_cases e : s = (zgI M 13 0 83).toNatClampNeg
      · rw [if_pos ⟨rfl, rfl, e⟩, if_pos ⟨rfl, rfl, e⟩]
        exact ⟨rfl, hx⟩
      · rw [if_neg (fun q => e q.2.2), if_neg (fun q => e q.2.2)]
        have hz := zclamp h2.1
        exact h3 s (by omega)
    · rw [if_neg hl] at hc
      have hm := Z282 (d + 1) x M h2
      rw [if_pos hx, if_neg hl] at hm
      exact ⟨_, _, _, hc, hm, zFr_refl _ M, h1, h2, h3⟩
  · rw [if_neg hx] at hc
    have hm := Z282 (d + 1) x M h2
    rw [if_neg hx] at hm
    exact ⟨_, _, _, hc, hm, zFr_refl _ M, h1, h2, h3⟩
/-- 'unstep' -/
theorem Q22 (d : Nat) (u u' : zV) (M : zM) (h : Rstep M) : ∃ (y : Int32) (M1 M2 : zM), zgo false d 152 0 [zr 12 0, u] [] M = some (some (zi y), M1) ∧ zgo false d 283 0 [zr 13 0, u'] [] M1 = some (some (zi y), M2) ∧ zFr (zo 8) M M2 ∧ Rstep M2 := by
  obtain ⟨h1, h2, h3⟩ := h
  refine ⟨zgI M 6 0 1, zsI M 6 0 1 0, zsI (zsI M 6 0 1 0) 13 0 83 0, B152_0 d u M, ?_, zFr_of2 rfl rfl, rfl, ⟨(by decide : (0 : Int) ≤ (0 : Int32).toInt), (by decide : (0 : Int32).toInt ≤ (12 : Int))⟩, fun s hs => ?_⟩
  · rw [B283_0, h1]
    rfl
  · have hs : (s : Int) < (0 : Int32).toInt := hs
    have e0 : (0 : Int32).toInt = 0 := rfl
    omega
