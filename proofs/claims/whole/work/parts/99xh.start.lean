/-! ===== the relation holds of what is built; what is owed ===== -/
def zRow (k i n : Nat) (v : Int32) : Bool := (List.range n).all fun s => zlIB k i s v
theorem zRow_at {L : Nat × (Nat → Int32)} {k i n s : Nat} {v : Int32} (h : zRow k i n v = true) (hk : k ≠ 35) (hs : s < n) : zgI (zMb L) k i s = v := zbI hk (List.all_eq_true.mp h s (List.mem_range.mpr hs))
set_option maxRecDepth 100000 in
theorem zsq1 : (zlIB 6 0 1 0 && zlIB 13 0 83 0 && zlIB 12 0 14 0 && zlIB 13 0 87 0 && zlIB 1 0 1 0 && zlIB 13 0 89 0 && zlIB 3 0 3 0 && zlIB 13 0 12 0 && zlIB 3 0 4 0 && zlIB 13 0 13 0) = true := by decide +kernel
set_option maxRecDepth 100000 in
theorem zsq2 : (zlIB 29 0 0 0 && zlIB 57 0 0 0 && zlIB 29 0 1 150 && zlIB 57 0 1 150 && zlIB 29 0 2 1 && zlIB 57 0 2 1 && zlIB 29 0 3 17 && zlIB 57 0 3 17 && zlIB 12 0 15 9999 && zlIB 13 0 11 9999 && zlIB 12 0 12 0 && zlIB 13 0 31 0) = true := by decide +kernel
set_option maxRecDepth 100000 in
theorem zsq3 : (zRow 73 0 10 0 && zRow 74 0 10 0 && zRow 75 0 10 0 && zlIB 8 0 2 0 && zlIB 13 0 19 0 && zRow 65 0 4 0 && zRow 30 0 11 0) = true := by decide +kernel
set_option maxRecDepth 100000 in
theorem zsq4 : ((List.range 10).all fun s => zlIB 2 s 3 0 && zlIB 2 s 4 0 && zlIB 2 s 5 0) = true := by decide +kernel
set_option maxRecDepth 100000 in
theorem zsq5 : (((List.range 4).all fun u => zlIB 11 u 2 0) && ((List.range 6).all fun s => zlIB 9 s 1 0) && zRow 110 0 6 (-1) && zRow 47 0 11 0 && zRow 56 0 11 0) = true := by decide +kernel
set_option maxRecDepth 100000 in
theorem zsq6 : (zlIB 10 0 2 6 && zlIB 13 0 1 6 && zlIB 10 0 3 75 && zlIB 13 0 2 75 && zlIB 10 0 4 0 && zlIB 13 0 3 0 && zlIB 10 0 5 0 && zlIB 13 0 4 0 && zlIB 10 0 6 0 && zlIB 13 0 7 0 && zlIB 10 0 8 0 && zlIB 13 0 8 0 && zlIB 10 0 7 0 && zlIB 10 0 9 1 && zlIB 13 0 5 0 && zlIB 13 0 59 0 && zlIB 12 0 13 0 && zlIB 13 0 45 0) = true := by decide +kernel
theorem zdo_sc : ∀ (l : List zOp) (M : zM), zsc (zdo l M) = zsc M
  | [], M => rfl
  | q :: l, M => by
    show zsc (zdo l (zdo1 M q)) = _
    rw [zdo_sc l (zdo1 M q)]
    obtain ⟨t, q⟩ := q
    match t with
    | 0 => rfl
    | 1 => rfl
    | 2 => rfl
    | t + 3 => rfl
theorem RA_0 (L : Nat × (Nat → Int32)) : RA L 0 (zMb L) := by
  have s1 := zsq1
  have s2 := zsq2
  have s3 := zsq3
  have s5 := zsq5
  have s6 := zsq6
  simp only [Bool.and_eq_true] at s1 s2 s3 s5 s6
  obtain ⟨⟨⟨⟨⟨⟨⟨⟨⟨a0, a1⟩, a2⟩, a3⟩, a4⟩, a5⟩, a6⟩, a7⟩, a8⟩, a9⟩ := s1
  obtain ⟨⟨⟨⟨⟨⟨⟨⟨⟨⟨⟨b0, b1⟩, b2⟩, b3⟩, b4⟩, b5⟩, b6⟩, b7⟩, b8⟩, b9⟩, b10⟩, b11⟩ := s2
  obtain ⟨⟨⟨⟨⟨⟨c0, c1⟩, c2⟩, c3⟩, c4⟩, c5⟩, c6⟩ := s3
  obtain ⟨⟨⟨⟨e0, e1⟩, e2⟩, e3⟩, e4⟩ := s5
  obtain ⟨⟨⟨⟨⟨⟨⟨⟨⟨⟨⟨⟨⟨⟨⟨⟨⟨f0, f1⟩, f2⟩, f3⟩, f4⟩, f5⟩, f6⟩, f7⟩, f8⟩, f9⟩, f10⟩, f11⟩, f12⟩, f13⟩, f14⟩, f15⟩, f16⟩, f17⟩ := s6
  have v : ∀ {k i s : Nat} {x : Int32}, k ≠ 35 → zlIB k i s x = true → zgI (zMb L) k i s = x := fun hk h => zbI hk h
  have i83 : zgI (zMb L) 13 0 83 = 0 := v (by decide) a1
  have i87 : zgI (zMb L) 13 0 87 = 0 := v (by decide) a3
  have i89 : zgI (zMb L) 13 0 89 = 0 := v (by decide) a5
  have i31 : zgI (zMb L) 13 0 31 = 0 := v (by decide) b11
  have i45 : zgI (zMb L) 13 0 45 = 0 := v (by decide) f17
  have t0 : (0 : Int32).toInt = 0 := rfl
  refine ⟨?_, fun k i s hk _ => ?_, ⟨by rw [v (by decide) f14]; rfl, by rw [v (by decide) f15]; rfl⟩, ?_, ?_, ?_, ?_, ?_, ?_, ?_, ?_, ?_, ?_, ?_, ?_, ?_, ?_, ?_, Raf_b L, RafJ_b L⟩
  · rw [zMb_do, zdo_sc]
    rfl
  · rw [zMb_do, OB_lit]
    exact zdo_J OL (zM0 L) zJo_all (fun _ _ _ _ => Or.inl rfl) k i s hk
  · refine ⟨by rw [i83]; exact v (by decide) a0, by rw [i83, t0]; omega, fun s hs => ?_⟩
    rw [i83, t0] at hs
    omega
  · refine ⟨by rw [i87]; exact v (by decide) a2, by rw [i87, t0]; omega, fun s hs => ?_⟩
    rw [i87, t0] at hs
    omega
  · refine ⟨by rw [i89]; exact v (by decide) a4, by rw [i89, t0]; omega, fun s hs => ?_⟩
    rw [i89, t0] at hs
    omega
  · exact ⟨0, 0, by omega, v (by decide) a6, v (by decide) a7, v (by decide) a8, v (by decide) a9, fun s hs => by omega⟩
  · intro w hw
    rcases (by omega : w = 0 ∨ w = 1 ∨ w = 2 ∨ w = 3) with rfl | rfl | rfl | rfl
    · rw [v (by decide) b0, v (by decide) b1]
      exact ⟨rfl, fun _ => by decide, fun q => absurd q (by decide), fun q => absurd q (by decide), fun q => absurd q (by decide)⟩
    · rw [v (by decide) b2, v (by decide) b3]
      exact ⟨rfl, fun q => absurd q (by decide), fun _ => by decide, fun q => absurd q (by decide), fun q => absurd q (by decide)⟩
    · rw [v (by decide) b4, v (by decide) b5]
      exact ⟨rfl, fun q => absurd q (by decide), fun q => absurd q (by decide), fun _ => by decide, fun q => absurd q (by decide)⟩
    · rw [v (by decide) b6, v (by decide) b7]
      exact ⟨rfl, fun q => absurd q (by decide), fun q => absurd q (by decide), fun q => absurd q (by decide), fun _ => by decide⟩
  · unfold Rlim
    rw [v (by decide) b8, v (by decide) b9]
    decide
  · refine ⟨by rw [i31]; exact v (by decide) b10, by rw [i31, t0]; omega, fun s hs => ?_⟩
    rw [i31, t0] at hs
    omega
  · intro s s1 _
    have h := List.all_eq_true.mp zsq4 s (List.mem_range.mpr s1)
    rw [Bool.and_eq_true, Bool.and_eq_true] at h
    exact ⟨v (by decide) h.1.1, v (by decide) h.1.2, v (by decide) h.2, zRow_at c0 (by decide) s1, zRow_at c1 (by decide) s1, zRow_at c2 (by decide) s1⟩
  · exact ⟨0, fun _ => 0, by omega, v (by decide) c3, v (by decide) c4, fun s hs => by omega⟩
  · refine ⟨fun _ => [], fun u hu => ⟨fun q hq => (by cases hq), fun q hq => (by cases hq), ⟨v (by decide) (List.all_eq_true.mp e0 u (List.mem_range.mpr hu)), Nat.zero_le _, trivial⟩, ⟨zRow_at c5 (by decide) hu, Nat.zero_le _, Nat.zero_le _, trivial⟩⟩, fun w w1 w2 => ?_⟩
    rw [zRow_at c6 (by decide) (show w < 11 by omega)]
    rfl
  · refine ⟨6, 75, 0, fun _ => 0, ⟨⟨by omega, by omega, by omega⟩, ⟨v (by decide) f0, v (by decide) f1⟩, ⟨v (by decide) f2, v (by decide) f3⟩, (v (by decide) f4).trans (v (by decide) f5).symm, (v (by decide) f6).trans (v (by decide) f7).symm, ⟨v (by decide) f8, v (by decide) f9⟩, (v (by decide) f10).trans (v (by decide) f11).symm, ⟨v (by decide) f12, zRow_at e4 (by decide) (by decide)⟩, fun w w1 w2 => ⟨zRow_at e3 (by decide) (by omega), zRow_at e4 (by decide) (by omega)⟩, rfl, fun w w1 w2 => Nat.zero_le _, by decide⟩, Or.inl ⟨v (by decide) f13, Or.inl (v (by decide) f14)⟩⟩
  · exact ⟨0, by omega, v (by decide) f16, i45, fun h hh => by omega⟩
  · intro n n1 n2 g hg
    rw [i45] at n2
    have e : n = 0 := ((nI_eq (a := n) (b := 0) (by omega) (by omega)).mp n2.symm)
    omega
  · intro s hs
    exact Or.inl ⟨v (by decide) (List.all_eq_true.mp e1 s (List.mem_range.mpr hs)), zRow_at e2 (by decide) hs⟩
  · intro s hs
    exact ⟨0, by omega, zRow_at c1 (by decide) hs⟩
theorem zowed (L : Nat × (Nat → Int32)) (h : L.1 ≤ 3072) : zOwed L := zowed_of (R := RA L) (D := 98) (by decide) h (RA_0 L) (fun t M H => H.1) (fun t ht => zCalls_all L t ht)
