/-! ===== bounds of words ===== -/
def Rbnd (M : zM) : Prop := zgI M 12 0 14 = zgI M 13 0 87 ∧ (0 ≤ (zgI M 13 0 87).toInt ∧ (zgI M 13 0 87).toInt ≤ 8) ∧ ∀ s : Nat, (s : Int) < (zgI M 13 0 87).toInt → zgI M 54 0 s = zgI M 108 0 s
theorem Rbnd_fr {m : Nat → Bool} {M M' : zM} (h : zFr m M M') (hm : m 9 = false) (hm' : m 29 = false) (hR : Rbnd M) : Rbnd M' := by
  unfold Rbnd at hR ⊢
  rw [(h 12 0 14 hm).1, (h 13 0 87 hm').1]
  refine ⟨hR.1, hR.2.1, fun s hs => ?_⟩
  rw [(h 54 0 s hm).1, (h 108 0 s hm').1]
  exact hR.2.2 s hs
theorem zI_pred {x : Int32} (h0 : 0 < x.toInt) : (x - 1).toInt = x.toInt - 1 := by
  have := Int32.toInt_lt x
  rw [Int32.toInt_sub, show (1 : Int32).toInt = 1 by rfl, Int.bmod_eq_of_le (by omega) (by omega)]
/-- what a bound that is told comes to: may it come, in words of the model -/
def zwrd (M : zM) (x : Int32) : Prop := ((-99) ≤ x ∧ x ≤ 99) ∧ (0 < (zgI M 13 0 87).toInt → zgI M 108 0 (zgI M 13 0 87 - 1).toNatClampNeg < x)
theorem Z155 (d : Nat) (x : Int32) (M : zM) (h : Rbnd M) : zgo false (d + 2) 155 0 [zr 12 0, zi x] [] M = some (@ite _ (zwrd M x) (Classical.propDecidable _) (if zgI M 13 0 87 < 8 then (some (zi (zgI M 13 0 87 + 1)), zsI (zsI M 54 0 (zgI M 13 0 87).toNatClampNeg x) 12 0 14 (zgI M 13 0 87 + 1)) else (some (zi (-3)), M)) (some (zi (-1)), M)) := by
  obtain ⟨h1, h2, h3⟩ := h
  have em : (-99 : Int32).toInt = -99 := rfl
  have e9 : (99 : Int32).toInt = 99 := rfl
  have e0 : (0 : Int32).toInt = 0 := rfl
  have e8 : (8 : Int32).toInt = 8 := rfl
  have fin : zwrd M x → zgo false (d + 2) 155 40 [zr 12 0, zi x] [] M = some (@ite _ (zwrd M x) (Classical.propDecidable _) (if zgI M 13 0 87 < 8 then (some (zi (zgI M 13 0 87 + 1)), zsI (zsI M 54 0 (zgI M 13 0 87).toNatClampNeg x) 12 0 14 (zgI M 13 0 87 + 1)) else (some (zi (-3)), M)) (some (zi (-1)), M)) := by
    intro hw
    rw [if_pos hw, B155_40, h1]
    by_cases hl : zgI M 13 0 87 < 8
    · rw [if_pos hl, if_pos hl]
      refine zbind_of (S_set false _ 54 0 _ x M (by decide) rfl (zlen_lt (by decide) (by decide))) ?_
      rw [if_pos (zin_iff.mpr ⟨h2.1, by rw [zI_lt, e8] at hl; exact hl⟩)]
      refine (B155_67 (d + 2) x _).trans ?_
      show some (some (zi (zgI M 12 0 14 + 1)), zsI _ 12 0 14 (zgI M 12 0 14 + 1)) = _
      rw [h1]
    · rw [if_neg hl, if_neg hl]
  rw [B155_0]
  by_cases a : x < -99
  · rw [if_pos a, B155_12, if_neg]
    intro q
    have := q.1.1
    rw [zI_le] at this
    rw [zI_lt] at a
    omega
  rw [if_neg a]
  by_cases b : ¬ x ≤ 99
  · rw [if_neg b, B155_12, if_neg (fun q => b q.1.2)]
  have b := Decidable.of_not_not b
  rw [if_pos b, h1]
  have ab : (-99) ≤ x ∧ x ≤ 99 := ⟨by rw [zI_lt] at a; rw [zI_le]; omega, b⟩
  by_cases c : zgI M 13 0 87 ≤ 0
  · rw [if_pos c]
    apply fin
    refine ⟨ab, fun q => ?_⟩
    rw [zI_le, e0] at c
    omega
  · rw [if_neg c]
    rw [zI_le, e0] at c
    have hp := zI_pred (x := zgI M 13 0 87) (by omega)
    refine zbind_of (S_at false _ 54 0 _ M (by decide) rfl (zlen_lt (by decide) (by decide))) ?_
    rw [if_pos (zin_iff.mpr ⟨by omega, by show (zgI M 13 0 87 - 1).toInt < 8; omega⟩)]
    have he : zld M 54 0 (zgI M 13 0 87 - 1).toNatClampNeg = zgI M 108 0 (zgI M 13 0 87 - 1).toNatClampNeg := h3 _ (by have := zclamp (x := zgI M 13 0 87 - 1) (by omega); omega)
    rw [he]
    refine (B155_35 (d + 2) x x _ M).trans ?_
    by_cases e : zgI M 108 0 (zgI M 13 0 87 - 1).toNatClampNeg < x
    · rw [if_pos e]
      exact fin ⟨ab, fun _ => e⟩
    · rw [if_neg e, if_neg (fun q => e (q.2 (by omega)))]
theorem Z288 (d : Nat) (x : Int32) (M : zM) (h2 : 0 ≤ (zgI M 13 0 87).toInt ∧ (zgI M 13 0 87).toInt ≤ 8) : zgo false (d + 1) 288 0 [zr 13 0, zi x] [] M = some (@ite _ (zwrd M x) (Classical.propDecidable _) (if zgI M 13 0 87 < 8 then (some (zi (zgI M 13 0 87 + 1)), zsI (zsI M 108 0 (zgI M 13 0 87).toNatClampNeg x) 13 0 87 (zgI M 13 0 87 + 1)) else (some (zi (-3)), M)) (some (zi (-1)), M)) := by
  have e0 : (0 : Int32).toInt = 0 := rfl
  have e8 : (8 : Int32).toInt = 8 := rfl
  have fin : zwrd M x → zgo false (d + 1) 288 35 [zr 13 0, zi x] [] M = some (@ite _ (zwrd M x) (Classical.propDecidable _) (if zgI M 13 0 87 < 8 then (some (zi (zgI M 13 0 87 + 1)), zsI (zsI M 108 0 (zgI M 13 0 87).toNatClampNeg x) 13 0 87 (zgI M 13 0 87 + 1)) else (some (zi (-3)), M)) (some (zi (-1)), M)) := by
    intro hw
    rw [if_pos hw, B288_35]
    by_cases hl : zgI M 13 0 87 = 8
    · rw [if_pos hl, if_neg (by rw [hl]; decide)]
    · have hlt : (zgI M 13 0 87).toInt < 8 := by
        have : (zgI M 13 0 87).toInt ≠ 8 := fun q => hl (Int32.toInt_inj.mp (q.trans rfl))
        omega
      rw [if_neg hl, if_pos (zin_iff.mpr ⟨h2.1, hlt⟩), if_pos (by rw [zI_lt, e8]; exact hlt), B288_57]
      rfl
  rw [B288_0]
  refine zbind_of (S_in false d x (-99) 99 M) ?_
  by_cases ab : ¬ ((-99) ≤ x ∧ x ≤ 99)
  · rw [if_neg ab]
    refine (B288_8 (d + 1) x 0 M).trans ?_
    rw [if_pos rfl, B288_33, if_neg (fun q => ab q.1)]
  have ab := Decidable.of_not_not ab
  rw [if_pos ab]
  refine (B288_8 (d + 1) x 1 M).trans ?_
  rw [if_neg (by decide)]
  by_cases c : zgI M 13 0 87 ≤ 0
  · rw [if_pos c]
    apply fin
    refine ⟨ab, fun q => ?_⟩
    rw [zI_le, e0] at c
    omega
  · rw [if_neg c]
    rw [zI_le, e0] at c
    have hp := zI_pred (x := zgI M 13 0 87) (by omega)
    rw [if_pos (zin_iff.mpr ⟨by omega, by omega⟩)]
    by_cases e : zgI M 108 0 (zgI M 13 0 87 - 1).toNatClampNeg < x
    · rw [if_pos e]
      exact fin ⟨ab, fun _ => e⟩
    · rw [if_neg e, B288_33, if_neg (fun q => e (q.2 (by omega)))]
/-- 'word' -/
theorem Q25 (d : Nat) (x : Int32) (M : zM) (h : Rbnd M) : ∃ (y : Int32) (M1 M2 : zM), zgo false (d + 2) 155 0 [zr 12 0, zi x] [] M = some (some (zi y), M1) ∧ zgo false (d + 2) 288 0 [zr 13 0, zi x] [] M1 = some (some (zi y), M2) ∧ zFr (zo 9) M M2 ∧ Rbnd M2 := by
  have hc := Z155 d x M h
  obtain ⟨h1, h2, h3⟩ := h
  by_cases hx : zwrd M x
  · rw [if_pos hx] at hc
    by_cases hl : zgI M 13 0 87 < 8
    · rw [if_pos hl] at hc
      have hm := Z288 (d + 1) x (zsI (zsI M 54 0 (zgI M 13 0 87).toNatClampNeg x) 12 0 14 (zgI M 13 0 87 + 1)) h2
      rw [if_pos (show zwrd (zsI (zsI M 54 0 (zgI M 13 0 87).toNatClampNeg x) 12 0 14 (zgI M 13 0 87 + 1)) x from hx), if_pos (show zgI (zsI (zsI M 54 0 (zgI M 13 0 87).toNatClampNeg x) 12 0 14 (zgI M 13 0 87 + 1)) 13 0 87 < 8 from hl)] at hm
      refine ⟨zgI M 13 0 87 + 1, _, zsI (zsI (zsI (zsI M 54 0 (zgI M 13 0 87).toNatClampNeg x) 12 0 14 (zgI M 13 0 87 + 1)) 108 0 (zgI M 13 0 87).toNatClampNeg x) 13 0 87 (zgI M 13 0 87 + 1), hc, hm, zFr_sI (zFr_sI (zFr_of2 rfl rfl) rfl) rfl, ?_⟩
      have hs : (zgI M 13 0 87 + 1).toInt = (zgI M 13 0 87).toInt + 1 := zI_succ h2.1 (by omega)
      rw [zI_lt, show (8 : Int32).toInt = 8 from rfl] at hl
      refine ⟨rfl, ⟨by show 0 ≤ (zgI M 13 0 87 + 1).toInt; omega, by show (zgI M 13 0 87 + 1).toInt ≤ 8; omega⟩, fun s hs' => ?_⟩
      have hs' : (s : Int) < (zgI M 13 0 87 + 1).toInt := hs'
      show (if 54 = 54 ∧ 0 = 0 ∧ s = (zgI M 13 0 87).toNatClampNeg then x else zgI M 54 0 s) = (if 108 = 108 ∧ 0 = 0 ∧ s = (zgI M 13 0 87).toNatClampNeg then x else zgI M 108 0 s)
      by_cases e : s = (zgI M 13 0 87).toNatClampNeg
      · rw [if_pos ⟨rfl, rfl, e⟩, if_pos ⟨rfl, rfl, e⟩]
      · rw [if_neg (fun q => e q.2.2), if_neg (fun q => e q.2.2)]
        have hz := zclamp h2.1
        exact h3 s (by omega)
    · rw [if_neg hl] at hc
      have hm := Z288 (d + 1) x M h2
      rw [if_pos hx, if_neg hl] at hm
      exact ⟨_, _, _, hc, hm, zFr_refl _ M, h1, h2, h3⟩
  · rw [if_neg hx] at hc
    have hm := Z288 (d + 1) x M h2
    rw [if_neg hx] at hm
    exact ⟨_, _, _, hc, hm, zFr_refl _ M, h1, h2, h3⟩
