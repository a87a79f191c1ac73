/-! ===== whose cell a place is: 1 shoe, 2 rules and limit, 3 changes, 4 tape, 5 texts, 6 players, 7 hands led, 8 steps, 9 bounds, 10 acts, 11 shelves, 0 never written again, 12 the rest ===== -/
def zow0 (k i s : Nat) : Nat :=
  if k = 12 then (if s = 15 then 2 else if s = 12 then 6 else if s = 13 then 7 else if s = 14 then 9 else 0)
  else if k = 13 then (if s = 11 then 2 else if s = 12 ∨ s = 13 then 3 else if s = 19 then 4 else if s = 31 then 6 else if s = 45 then 7 else if s = 83 then 8 else if s = 87 then 9 else if s = 89 then 10 else if s ≤ 8 ∨ s = 59 then 1 else 12)
  else if k = 1 then (if s = 1 then 10 else 12) else if k = 20 then 10 else if k = 109 then 10
  else if k = 6 then 8 else if k = 32 then 8 else if k = 105 then 8
  else if k = 54 then 9 else if k = 108 then 9
  else if k = 9 then 11 else if k = 45 then 11 else if k = 110 then 11 else if k = 111 then 11 else if k = 112 then 11
  else if k = 8 then (if s = 2 then 4 else 12) else if k = 43 then 4 else if k = 62 then 4
  else if k = 10 then (if i = 0 then 1 else 12) else if k = 46 then (if i = 0 then 1 else 12) else if k = 47 then (if i = 0 then 1 else 12) else if k = 55 then 1 else if k = 56 then 1
  else if k = 29 then 2 else if k = 57 then 2
  else if k = 3 then 3 else if k = 21 then 3 else if k = 22 then 3 else if k = 23 then 3 else if k = 58 then 3 else if k = 59 then 3 else if k = 60 then 3 else if k = 61 then 3
  else if k = 11 then (if s = 3 then 12 else 5) else if k = 48 then 5 else if k = 30 then 5
  else if k = 63 then (if s < 520 then 5 else 12) else if k = 64 then (if s < 520 then 5 else 12) else if k = 65 then (if s < 4 then 5 else 12) else if k = 66 then (if s < 244 then 5 else 12) else if k = 67 then (if s < 244 then 5 else 12)
  else if k = 2 then (if i < 10 then 6 else 12) else if k = 70 then 6 else if k = 71 then 6 else if k = 72 then 6 else if k = 73 then 6 else if k = 74 then 6 else if k = 75 then 6
  else if k = 4 then (if i < 60 ∧ s ≠ 16 then 7 else 12) else if k = 24 then (if i < 60 then 7 else 12) else if k = 25 then (if i < 60 then 7 else 12) else if k = 28 then (if i < 60 then 7 else 12)
  else if 83 ≤ k ∧ k ≤ 95 then 7
  else if k = 35 then 0 else 12
/-- the model's own cells have their owner's number and 20 -/
def zown (k i s : Nat) : Nat := if k = 13 ∨ 55 ≤ k then zow0 k i s + 20 else zow0 k i s
/-- an owner's cells of both -/
def zo (a n : Nat) : Bool := Nat.beq n a || Nat.beq n (a + 20)
/-- all but the cells of some owners is as it was -/
def zFr (m : Nat → Bool) (M M' : zM) : Prop := ∀ k i s, m (zown k i s) = false → zgI M' k i s = zgI M k i s ∧ zgL M' k i s = zgL M k i s ∧ zgR M' k i s = zgR M k i s
theorem zFr_refl (m : Nat → Bool) (M : zM) : zFr m M M := fun _ _ _ _ => ⟨rfl, rfl, rfl⟩
theorem zFr_trans {m : Nat → Bool} {M M1 M2 : zM} (h1 : zFr m M M1) (h2 : zFr m M1 M2) : zFr m M M2 := fun k i s h => ⟨(h2 k i s h).1.trans (h1 k i s h).1, (h2 k i s h).2.1.trans (h1 k i s h).2.1, (h2 k i s h).2.2.trans (h1 k i s h).2.2⟩
theorem zFr_mono {m m' : Nat → Bool} {M M' : zM} (h : zFr m M M') (hm : ∀ n, m' n = false → m n = false) : zFr m' M M' := fun k i s q => h k i s (hm _ q)
theorem zFr_sI {m : Nat → Bool} {M M' : zM} (h : zFr m M M') {k i s : Nat} {v : Int32} (ho : m (zown k i s) = true) : zFr m M (zsI M' k i s v) := by
  intro k' i' s' q
  refine ⟨?_, (h k' i' s' q).2.1, (h k' i' s' q).2.2⟩
  rw [zgI_sI, if_neg, (h k' i' s' q).1]
  rintro ⟨rfl, rfl, rfl⟩
  rw [ho] at q
  cases q
theorem zFr_sL {m : Nat → Bool} {M M' : zM} (h : zFr m M M') {k i s : Nat} {v : Int64} (ho : m (zown k i s) = true) : zFr m M (zsL M' k i s v) := by
  intro k' i' s' q
  refine ⟨(h k' i' s' q).1, ?_, (h k' i' s' q).2.2⟩
  rw [zgL_sL, if_neg, (h k' i' s' q).2.1]
  rintro ⟨rfl, rfl, rfl⟩
  rw [ho] at q
  cases q
theorem zFr_sR {m : Nat → Bool} {M M' : zM} (h : zFr m M M') {k i s : Nat} {v : Nat × Nat} (ho : m (zown k i s) = true) : zFr m M (zsR M' k i s v) := by
  intro k' i' s' q
  refine ⟨(h k' i' s' q).1, (h k' i' s' q).2.1, ?_⟩
  rw [zgR_sR, if_neg, (h k' i' s' q).2.2]
  rintro ⟨rfl, rfl, rfl⟩
  rw [ho] at q
  cases q
theorem zFr_sA {m : Nat → Bool} {M M' : zM} (h : zFr m M M') {k i : Nat} {f : Nat → Int32} (ho : ∀ s, m (zown k i s) = true) : zFr m M (zsA M' k i f) := by
  intro k' i' s' q
  refine ⟨?_, (h k' i' s' q).2.1, (h k' i' s' q).2.2⟩
  show (if k' = k ∧ i' = i then f s' else zgI M' k' i' s') = _
  rw [if_neg, (h k' i' s' q).1]
  rintro ⟨rfl, rfl⟩
  rw [ho s'] at q
  cases q
/-- the model's 'in' -/
theorem S_in (b : Bool) (d : Nat) (v l h : Int32) (M : zM) : zgo b d 193 0 [zi v, zi l, zi h] [] M = some (some (zi (if l ≤ v ∧ v ≤ h then 1 else 0)), M) := by
  rw [B193_0]
  by_cases h1 : v < l
  · rw [if_pos h1, B193_14, B193_15, if_neg (fun q => by have h2 := q.1; rw [zI_le] at h2; rw [zI_lt] at h1; omega)]
    rfl
  · rw [if_neg h1]
    by_cases h2 : h < v
    · rw [if_pos h2, B193_14, B193_15, if_neg (fun q => by have h3 := q.2; rw [zI_le] at h3; rw [zI_lt] at h2; omega)]
      rfl
    · rw [if_neg h2, B193_15, if_pos ⟨by rw [zI_lt] at h1; rw [zI_le]; omega, by rw [zI_lt] at h2; rw [zI_le]; omega⟩]
      rfl
/-- the model's 'held' -/
theorem S_held (b : Bool) (d : Nat) (v l h : Int32) (M : zM) : zgo b d 194 0 [zi v, zi l, zi h] [] M = some (some (zi (if v < l then l else if h < v then h else v)), M) := by
  rw [B194_0]
  by_cases h1 : v < l
  · rw [if_neg (fun q => by rw [zI_le] at q; rw [zI_lt] at h1; omega), B194_19, if_pos h1]
  · rw [if_pos (by rw [zI_lt] at h1; rw [zI_le]; omega), if_neg h1]
    by_cases h2 : h < v
    · rw [if_neg (fun q => by rw [zI_le] at q; rw [zI_lt] at h2; omega), B194_19, if_pos h2]
    · rw [if_pos (by rw [zI_lt] at h2; rw [zI_le]; omega), B194_19, if_neg h2]
theorem zclamp {x : Int32} (h : 0 ≤ x.toInt) : (x.toNatClampNeg : Int) = x.toInt := by
  show ((x.toInt.toNat : Nat) : Int) = x.toInt
  omega
theorem zI_succ {x : Int32} (h0 : 0 ≤ x.toInt) (h1 : x.toInt < 2 ^ 31 - 1) : (x + 1).toInt = x.toInt + 1 := by
  rw [Int32.toInt_add, show (1 : Int32).toInt = 1 by rfl, Int.bmod_eq_of_le (by omega) (by omega)]
