/-! ===== players ===== -/
theorem zite_bind {c : Prop} [Decidable c] (a b : Option (Option zV × zM)) (f : Option zV × zM → Option (Option zV × zM)) : (if c then a else b).bind f = if c then a.bind f else b.bind f := by
  by_cases h : c
  · rw [if_pos h, if_pos h]
  · rw [if_neg h, if_neg h]
theorem zbsome (a : Option zV × zM) (f : Option zV × zM → Option (Option zV × zM)) : (some a).bind f = f a := rfl
theorem zpu1 (x : zV) (l : List zV) : zpush (some x) l = x :: l := rfl
theorem zpu0 (l : List zV) : zpush none l = l := rfl
theorem zq20 : Nat.beq 2 0 = false := rfl
theorem zq22 : Nat.beq 2 2 = true := rfl
theorem zq00 : Nat.beq 0 0 = true := rfl
theorem zib0 : zib 0 = true := rfl
theorem zib1 : zib 1 = true := rfl
def Rpl (M : zM) : Prop := zgI M 12 0 12 = zgI M 13 0 31 ∧ (0 ≤ (zgI M 13 0 31).toInt ∧ (zgI M 13 0 31).toInt ≤ 10) ∧ ∀ s : Nat, (s : Int) < (zgI M 13 0 31).toInt → (zgI M 2 s 0 = zgI M 70 0 s ∧ zgI M 2 s 1 = zgI M 71 0 s ∧ zgI M 2 s 2 = zgI M 72 0 s ∧ zgI M 2 s 3 = zgI M 73 0 s ∧ zgI M 2 s 4 = zgI M 74 0 s ∧ zgI M 2 s 5 = zgI M 75 0 s) ∧ (0 ≤ (zgI M 70 0 s).toInt ∧ (zgI M 70 0 s).toInt ≤ 7) ∧ (0 ≤ (zgI M 71 0 s).toInt ∧ (zgI M 71 0 s).toInt ≤ 9999900) ∧ (-99 ≤ (zgI M 72 0 s).toInt ∧ (zgI M 72 0 s).toInt ≤ 99)
theorem Rpl_fr {m : Nat → Bool} {M M' : zM} (h : zFr m M M') (hm : m 6 = false) (hm' : m 26 = false) (hR : Rpl M) : Rpl M' := by
  obtain ⟨h1, h2, h3⟩ := hR
  have e : zgI M' 13 0 31 = zgI M 13 0 31 := (h 13 0 31 hm').1
  refine ⟨by rw [(h 12 0 12 hm).1, e, h1], by rw [e]; exact h2, fun s hs => ?_⟩
  rw [e] at hs
  have o : ∀ t, m (zown 2 s t) = false := fun t => by
    rw [show zown 2 s t = if s < 10 then 6 else 12 from rfl, if_pos (by omega)]
    exact hm
  rw [(h 2 s 0 (o 0)).1, (h 2 s 1 (o 1)).1, (h 2 s 2 (o 2)).1, (h 2 s 3 (o 3)).1, (h 2 s 4 (o 4)).1, (h 2 s 5 (o 5)).1, (h 70 0 s hm').1, (h 71 0 s hm').1, (h 72 0 s hm').1, (h 73 0 s hm').1, (h 74 0 s hm').1, (h 75 0 s hm').1]
  exact h3 s hs
def zpl (M : zM) (x : Int32) : Prop := 0 ≤ x.toInt ∧ x.toInt < (zgI M 13 0 31).toInt
/-- 'bodyAt' and 'isPlayer' -/
theorem S_body (d : Nat) (x : Int32) (M : zM) (h : Rpl M) : zgo false d 181 0 [zr 12 0, zi x] [] M = some (some (@ite _ (zpl M x) (Classical.propDecidable _) (zr 2 x.toNatClampNeg) (zr 0 0)), M) := by
  obtain ⟨h1, h2, -⟩ := h
  have e10 : (10 : Int32).toInt = 10 := rfl
  rw [B181_0, h1]
  by_cases a : x < 0
  · rw [if_pos a, B181_30, B181_31, if_neg (fun q => by rw [zI_lt0] at a; have := q.1; omega)]
  rw [if_neg a]
  by_cases b : zgI M 13 0 31 ≤ x
  · rw [if_pos b, B181_30, B181_31, if_neg (fun q => by rw [zI_le] at b; have := q.2; omega)]
  rw [zI_lt0] at a
  rw [if_neg b]
  rw [zI_le] at b
  rw [if_neg (by rw [zI_le, e10]; omega), if_pos (zin_iff.mpr ⟨by omega, by omega⟩), B181_31, if_pos ⟨by omega, by omega⟩]
theorem S_isPl (d : Nat) (x : Int32) (M : zM) (h : 0 ≤ (zgI M 13 0 31).toInt ∧ (zgI M 13 0 31).toInt ≤ 10) : zgo false (d + 1) 231 0 [zr 13 0, zi x] [] M = some (some (zi (@ite _ (zpl M x) (Classical.propDecidable _) 1 0)), M) := by
  have e0 : (0 : Int32).toInt = 0 := rfl
  have e1 : (zgI M 13 0 31 - 1).toInt = (zgI M 13 0 31).toInt - 1 := by
    have := Int32.toInt_lt (zgI M 13 0 31)
    rw [Int32.toInt_sub, show (1 : Int32).toInt = 1 by rfl, Int.bmod_eq_of_le (by omega) (by omega)]
  rw [B231_0]
  refine zbind_of (S_in false d x 0 _ M) ?_
  have hc : ((0 : Int32) ≤ x ∧ x ≤ zgI M 13 0 31 - 1) ↔ zpl M x := by
    rw [zI_le, zI_le, e0, e1]
    exact ⟨fun q => ⟨q.1, by have := q.2; omega⟩, fun q => ⟨q.1, by have := q.2; omega⟩⟩
  by_cases q : zpl M x
  · rw [if_pos (hc.mpr q), if_pos q]
    exact B231_11 (d + 1) x 1 M
  · rw [if_neg (fun r => q (hc.mp r)), if_neg q]
    exact B231_11 (d + 1) x 0 M
def Rlim (M : zM) : Prop := zgI M 12 0 15 = zgI M 13 0 11 ∧ 1 ≤ (zgI M 13 0 11).toInt ∧ (zgI M 13 0 11).toInt ≤ 9999
/-- 'ofPlayer' -/
theorem Q7 (d : Nat) (x1 x2 : Int32) (u : zV) (M : zM) (h : Rpl M) (hl : Rlim M) : ∃ (y : Int32), zgo false (d + 2) 137 0 [zr 12 0, zi x1, zi x2, u] [] M = some (some (zi y), M) ∧ zgo false (d + 2) 236 0 [zr 13 0, zi x1, zi x2] [] M = some (some (zi y), M) := by
  have hp := S_isPl d x1 M h.2.1
  by_cases q : zpl M x1
  · rw [if_pos q] at hp
    have z : zin x1 10 = true := zin_iff.mpr ⟨q.1, by have := q.2; have := h.2.1.2; omega⟩
    obtain ⟨g0, g1, g2, g3, g4, g5⟩ := (h.2.2 x1.toNatClampNeg (by have := zclamp q.1; have := q.2; omega)).1
    have hb := S_body (d + 1) x1 M h
    rw [if_pos q] at hb
    have n1 : ¬ (1 : Int32) = 0 := by decide
    simp only [B137_0, hb, zbsome, zpu1, B137_5, B137_88, zq20, zq22, cond_true, cond_false, B236_0, hp, B236_5, if_neg n1, if_pos z, g0, g1, g2, g3, g4, hl.1, B235_0, B235_18, zib0, zib1, zite_bind, B236_85, B236_93, if_true]
    by_cases a0 : x2 = 0
    · exact ⟨_, if_pos a0, if_pos a0⟩
    rw [if_neg a0]
    by_cases a1 : x2 = 1
    · exact ⟨_, if_pos a1, if_pos a1⟩
    rw [if_neg a1]
    by_cases a2 : x2 = 2
    · exact ⟨_, if_pos a2, if_pos a2⟩
    rw [if_neg a2]
    by_cases a3 : x2 = 3
    · exact ⟨_, if_pos a3, if_pos a3⟩
    rw [if_neg a3]
    by_cases a4 : x2 = 4
    · by_cases c : zgI M 73 0 x1.toNatClampNeg < zgI M 13 0 11
      · exact ⟨0, by rw [if_pos a4, if_pos c], by rw [if_pos a4, if_pos c]⟩
      · exact ⟨1, by rw [if_pos a4, if_neg c], by rw [if_pos a4, if_neg c]⟩
    rw [if_neg a4]
    by_cases a5 : x2 = 5
    · exact ⟨_, if_pos a5, if_pos a5⟩
    exact ⟨_, if_neg a5, if_neg a5⟩
  · rw [if_neg q] at hp
    have hb := S_body (d + 1) x1 M h
    rw [if_neg q] at hb
    refine ⟨-2000000000, ?_, ?_⟩
    · simp only [B137_0, hb, zbsome, zpu1, B137_5, zq00, cond_true]
    · simp only [B236_0, hp, zbsome, zpu1, B236_5, if_true]
