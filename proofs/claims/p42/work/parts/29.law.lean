/-! ===== the law's walk: up to the three rows the machine builds, from there on it runs ===== -/
/-- plain instructions, one behind the other -/
noncomputable def zpls (b : Bool) (mm : Nat) : Nat → Nat → List zV → List zV → zM → Option (Nat × List zV × List zV × zM)
  | 0, pc, ls, st, M => some (pc, ls, st, M)
  | n + 1, pc, ls, st, M => match zins mm pc with
    | none => none
    | some E => match zS b pc ls st M E.1 with
      | some (.inl (pc', ls', st', M')) => zpls b mm n pc' ls' st' M'
      | _ => none
theorem zpls_nx {b : Bool} {mm : Nat} : ∀ (n pc : Nat) (ls st : List zV) (M : zM) (r : Nat × List zV × List zV × zM), zpls b mm n pc ls st M = some r → znx M ≤ znx r.2.2.2
  | 0, pc, ls, st, M, r, h => by cases h; exact Nat.le_refl _
  | n + 1, pc, ls, st, M, r, h => by
    unfold zpls at h
    cases hz : zins mm pc with
    | none => rw [hz] at h; cases h
    | some E =>
      rw [hz] at h
      simp only at h
      cases hs : zS b pc ls st M E.1 with
      | none => rw [hs] at h; cases h
      | some q =>
        rw [hs] at h
        obtain q | q := q
        · obtain ⟨q1, q2, q3, q4⟩ := q
          have h1 : znx M ≤ znx q4 := zS_nx hs
          exact Nat.le_trans h1 (zpls_nx n _ _ _ _ _ h)
        · cases h
section ZSIM
variable {p : Program} {l : Launch} {e : Env} {R : Room} {s : State} {mi : MethodId} {args : Array Value} {below : List Frame} {meth : Method} {c : Code} {Q : State → Prop}
variable {Z : zZ} {D : va_G} {cy : Nat → ClassId} {H0 : Heap} {bl : Bool} {L : Nat × (Nat → Int32)} {n0 mm : Nat}
theorem zplT (cx : zCx p s mi args meth c R mm) (ev : zEv Z D cy H0 L s) {pc1 : Nat} {al1 st1 : List zV} {M1 : zM} (hE : znx M1 ≤ n0 + R.cells ∧ zsl (znx M1) ≤ zsl n0 + R.slots) (hT : zT p l e R s mi args below meth c Q Z D cy H0 bl L n0 mm M1 al1 st1 pc1) : ∀ (n pc : Nat) (al st : List zV) (M : zM), zpls bl mm n pc al st M = some (pc1, al1, st1, M1) → zT p l e R s mi args below meth c Q Z D cy H0 bl L n0 mm M al st pc
  | 0, pc, al, st, M, h => by cases h; exact hT
  | n + 1, pc, al, st, M, h => by
    have h' := h
    unfold zpls at h
    cases hz : zins mm pc with
    | none => rw [hz] at h; cases h
    | some E =>
      obtain ⟨E, cut⟩ := E
      rw [hz] at h
      simp only at h
      cases hs : zS bl pc al st M E with
      | none => rw [hs] at h; cases h
      | some q =>
        rw [hs] at h
        obtain q | q := q
        · obtain ⟨q1, q2, q3, q4⟩ := q
          have h2 : zpls bl mm n q1 q2 q3 q4 = some (pc1, al1, st1, M1) := h
          have h3 := zpls_nx _ _ _ _ _ _ h2
          have h3 : znx q4 ≤ znx M1 := h3
          have h4 := zsl_le h3
          exact zstepN cx ev hz hs ⟨by omega, by omega⟩ (zplT cx ev hE hT n _ _ _ _ h2)
        · cases h
end ZSIM
/-- what the law reads of the script -/
def zcell (L : Nat × (Nat → Int32)) (x : Int32) : Int32 := if Int32.ofNat L.1 ≤ x then x * 7703 else L.2 x.toNatClampNeg &&& 16777215
theorem Zcell (b : Bool) (d : Nat) (x : Int32) (M : zM) (hL : (zsc M).1 ≤ 260) (hx : 0 ≤ x.toInt) : zgo b d 324 0 [zr 16 0, zi x] [] M = some (some (zi (zcell (zsc M) x)), M) := by
  unfold zcell
  rw [B324_0]
  by_cases h : Int32.ofNat (zsc M).1 ≤ x
  · rw [if_pos h, if_pos h, B324_20]
  · rw [if_neg h, if_neg h, if_pos, B324_20]
    rw [zin_iff]
    rw [zI_le, zI_ofNat (by omega)] at h
    omega
def zlS (x2 x3 x4 x5 : Int32) : List zV := [zr 16 0, zr 12 0, zi x2, zi x3, zi x4, zi x5, zr 114 0, zr 115 0, zr 116 0, zu, zu, zu, zu, zu, zu, zu, zu, zu, zu, zu, zu, zu, zu, zu, zu, zu, zu, zu]
set_option maxRecDepth 1000000 in
set_option maxHeartbeats 4000000 in
theorem zg1 (f1 : Nat → Nat → Nat → Int32) (f2 : Nat → Nat → Nat → Int64) (f3 : Nat → Nat → Nat → Nat × Nat) (n : Nat) (L : Nat × (Nat → Int32)) : zpls true 326 3 7 [zr 16 0, zu, zu, zu, zu, zu, zu, zu, zu, zu, zu, zu, zu, zu, zu, zu, zu, zu, zu, zu, zu, zu, zu, zu, zu, zu, zu, zu] [zr 12 0] (f1, f2, f3, n, L) = some (10, [zr 16 0, zr 12 0, zu, zu, zu, zu, zu, zu, zu, zu, zu, zu, zu, zu, zu, zu, zu, zu, zu, zu, zu, zu, zu, zu, zu, zu, zu, zu], [zi 0, zr 16 0], (f1, f2, f3, n, L)) := rfl
set_option maxRecDepth 1000000 in
set_option maxHeartbeats 4000000 in
theorem zg2 (v : Int32) (f1 : Nat → Nat → Nat → Int32) (f2 : Nat → Nat → Nat → Int64) (f3 : Nat → Nat → Nat → Nat × Nat) (n : Nat) (L : Nat × (Nat → Int32)) : zpls true 326 5 13 [zr 16 0, zr 12 0, zu, zu, zu, zu, zu, zu, zu, zu, zu, zu, zu, zu, zu, zu, zu, zu, zu, zu, zu, zu, zu, zu, zu, zu, zu, zu] [zi v] (f1, f2, f3, n, L) = some (19, [zr 16 0, zr 12 0, zi (v - v / 8 * 8), zu, zu, zu, zu, zu, zu, zu, zu, zu, zu, zu, zu, zu, zu, zu, zu, zu, zu, zu, zu, zu, zu, zu, zu, zu], [zi 1, zr 16 0], (f1, f2, f3, n, L)) := rfl
set_option maxRecDepth 1000000 in
set_option maxHeartbeats 4000000 in
theorem zg3 (x2 v : Int32) (f1 : Nat → Nat → Nat → Int32) (f2 : Nat → Nat → Nat → Int64) (f3 : Nat → Nat → Nat → Nat × Nat) (n : Nat) (L : Nat × (Nat → Int32)) : zpls true 326 8 22 [zr 16 0, zr 12 0, zi x2, zu, zu, zu, zu, zu, zu, zu, zu, zu, zu, zu, zu, zu, zu, zu, zu, zu, zu, zu, zu, zu, zu, zu, zu, zu] [zi v] (f1, f2, f3, n, L) = some (31, [zr 16 0, zr 12 0, zi x2, zi (v - v / 7 * 7 - 3), zu, zu, zu, zu, zu, zu, zu, zu, zu, zu, zu, zu, zu, zu, zu, zu, zu, zu, zu, zu, zu, zu, zu, zu], [zi 2, zr 16 0, zi 1], (f1, f2, f3, n, L)) := rfl
set_option maxRecDepth 1000000 in
set_option maxHeartbeats 4000000 in
theorem zg4 (x2 x3 v : Int32) (f1 : Nat → Nat → Nat → Int32) (f2 : Nat → Nat → Nat → Int64) (f3 : Nat → Nat → Nat → Nat × Nat) (n : Nat) (L : Nat × (Nat → Int32)) : zpls true 326 7 34 [zr 16 0, zr 12 0, zi x2, zi x3, zu, zu, zu, zu, zu, zu, zu, zu, zu, zu, zu, zu, zu, zu, zu, zu, zu, zu, zu, zu, zu, zu, zu, zu] [zi v, zi 1] (f1, f2, f3, n, L) = some (43, [zr 16 0, zr 12 0, zi x2, zi x3, zi (1 + (v - v / 60 * 60)), zu, zu, zu, zu, zu, zu, zu, zu, zu, zu, zu, zu, zu, zu, zu, zu, zu, zu, zu, zu, zu, zu, zu], [zi 3, zr 16 0, zi 5], (f1, f2, f3, n, L)) := rfl
set_option maxRecDepth 1000000 in
set_option maxHeartbeats 4000000 in
theorem zg5 (x2 x3 x4 v : Int32) (f1 : Nat → Nat → Nat → Int32) (f2 : Nat → Nat → Nat → Int64) (f3 : Nat → Nat → Nat → Nat × Nat) (n : Nat) (L : Nat × (Nat → Int32)) : zpls true 326 5 46 [zr 16 0, zr 12 0, zi x2, zi x3, zi x4, zu, zu, zu, zu, zu, zu, zu, zu, zu, zu, zu, zu, zu, zu, zu, zu, zu, zu, zu, zu, zu, zu, zu] [zi v, zi 5] (f1, f2, f3, n, L) = some (55, [zr 16 0, zr 12 0, zi x2, zi x3, zi x4, zi (5 + (v - v / 200 * 200)), zu, zu, zu, zu, zu, zu, zu, zu, zu, zu, zu, zu, zu, zu, zu, zu, zu, zu, zu, zu, zu, zu], [zi 17], (f1, f2, f3, n, L)) := rfl
set_option maxRecDepth 1000000 in
set_option maxHeartbeats 8000000 in
theorem zg6 (x2 x3 x4 x5 : Int32) (f1 : Nat → Nat → Nat → Int32) (f2 : Nat → Nat → Nat → Int64) (f3 : Nat → Nat → Nat → Nat × Nat) (L : Nat × (Nat → Int32)) : zpls true 326 70 55 [zr 16 0, zr 12 0, zi x2, zi x3, zi x4, zi x5, zu, zu, zu, zu, zu, zu, zu, zu, zu, zu, zu, zu, zu, zu, zu, zu, zu, zu, zu, zu, zu, zu] [zi 17] (f1, f2, f3, 450, L) = some (155, [zr 16 0, zr 12 0, zi x2, zi x3, zi x4, zi x5, zr 114 0, zu, zu, zu, zu, zu, zu, zu, zu, zu, zu, zu, zu, zu, zu, zu, zu, zu, zu, zu, zu, zu], [], zdo [(0, 114, 0, 0, (0, 0), 0), (2, 114, 0, 0, (0, 0), 118), (2, 114, 0, 1, (0, 0), 62), (2, 114, 0, 2, (0, 0), 57), (2, 114, 0, 3, (0, 0), 63), (2, 114, 0, 4, (0, 0), 45), (2, 114, 0, 5, (0, 0), 49), (2, 114, 0, 6, (0, 0), 59), (2, 114, 0, 7, (0, 0), 118), (2, 114, 0, 8, (0, 0), 61), (2, 114, 0, 9, (0, 0), 49), (2, 114, 0, 10, (0, 0), 63), (2, 114, 0, 11, (0, 0), 45), (2, 114, 0, 12, (0, 0), 49), (2, 114, 0, 13, (0, 0), 59), (2, 114, 0, 14, (0, 0), 118), (2, 114, 0, 15, (0, 0), 60), (2, 114, 0, 16, (0, 0), 55)] (f1, f2, f3, 450, L)) := rfl
set_option maxRecDepth 1000000 in
set_option maxHeartbeats 8000000 in
theorem zg7 (x2 x3 x4 x5 : Int32) (f1 : Nat → Nat → Nat → Int32) (f2 : Nat → Nat → Nat → Int64) (f3 : Nat → Nat → Nat → Nat × Nat) (L : Nat × (Nat → Int32)) : zpls true 326 59 155 [zr 16 0, zr 12 0, zi x2, zi x3, zi x4, zi x5, zr 114 0, zu, zu, zu, zu, zu, zu, zu, zu, zu, zu, zu, zu, zu, zu, zu, zu, zu, zu, zu, zu, zu] [] (f1, f2, f3, 451, L) = some (239, [zr 16 0, zr 12 0, zi x2, zi x3, zi x4, zi x5, zr 114 0, zr 115 0, zu, zu, zu, zu, zu, zu, zu, zu, zu, zu, zu, zu, zu, zu, zu, zu, zu, zu, zu, zu], [], zdo [(0, 115, 0, 0, (0, 0), 0), (2, 115, 0, 0, (0, 0), 49), (2, 115, 0, 1, (0, 0), 43), (2, 115, 0, 2, (0, 0), 116), (2, 115, 0, 3, (0, 0), 42), (2, 115, 0, 4, (0, 0), 116), (2, 115, 0, 5, (0, 0), 43), (2, 115, 0, 6, (0, 0), 115), (2, 115, 0, 7, (0, 0), 47), (2, 115, 0, 8, (0, 0), 57), (2, 115, 0, 9, (0, 0), 43), (2, 115, 0, 10, (0, 0), 98), (2, 115, 0, 11, (0, 0), 47), (2, 115, 0, 12, (0, 0), 53), (2, 115, 0, 13, (0, 0), 48)] (f1, f2, f3, 451, L)) := rfl
set_option maxRecDepth 1000000 in
set_option maxHeartbeats 8000000 in
theorem zg8 (x2 x3 x4 x5 : Int32) (f1 : Nat → Nat → Nat → Int32) (f2 : Nat → Nat → Nat → Int64) (f3 : Nat → Nat → Nat → Nat × Nat) (L : Nat × (Nat → Int32)) : zpls true 326 103 239 [zr 16 0, zr 12 0, zi x2, zi x3, zi x4, zi x5, zr 114 0, zr 115 0, zu, zu, zu, zu, zu, zu, zu, zu, zu, zu, zu, zu, zu, zu, zu, zu, zu, zu, zu, zu] [] (f1, f2, f3, 452, L) = some (389, (zlS x2 x3 x4 x5), [], zdo [(0, 116, 0, 0, (0, 0), 0), (2, 116, 0, 0, (0, 0), 98), (2, 116, 0, 1, (0, 0), 43), (2, 116, 0, 2, (0, 0), 108), (2, 116, 0, 3, (0, 0), 42), (2, 116, 0, 4, (0, 0), 50), (2, 116, 0, 5, (0, 0), 43), (2, 116, 0, 6, (0, 0), 119), (2, 116, 0, 7, (0, 0), 42), (2, 116, 0, 8, (0, 0), 51), (2, 116, 0, 9, (0, 0), 43), (2, 116, 0, 10, (0, 0), 40), (2, 116, 0, 11, (0, 0), 114), (2, 116, 0, 12, (0, 0), 60), (2, 116, 0, 13, (0, 0), 48), (2, 116, 0, 14, (0, 0), 41), (2, 116, 0, 15, (0, 0), 42), (2, 116, 0, 16, (0, 0), 52), (2, 116, 0, 17, (0, 0), 43), (2, 116, 0, 18, (0, 0), 40), (2, 116, 0, 19, (0, 0), 116), (2, 116, 0, 20, (0, 0), 62), (2, 116, 0, 21, (0, 0), 48), (2, 116, 0, 22, (0, 0), 41), (2, 116, 0, 23, (0, 0), 42), (2, 116, 0, 24, (0, 0), 53)] (f1, f2, f3, 452, L)) := rfl
def LO1 : List zOp := [(0, 114, 0, 0, (0, 0), 0), (2, 114, 0, 0, (0, 0), 118), (2, 114, 0, 1, (0, 0), 62), (2, 114, 0, 2, (0, 0), 57), (2, 114, 0, 3, (0, 0), 63), (2, 114, 0, 4, (0, 0), 45), (2, 114, 0, 5, (0, 0), 49), (2, 114, 0, 6, (0, 0), 59), (2, 114, 0, 7, (0, 0), 118), (2, 114, 0, 8, (0, 0), 61), (2, 114, 0, 9, (0, 0), 49), (2, 114, 0, 10, (0, 0), 63), (2, 114, 0, 11, (0, 0), 45), (2, 114, 0, 12, (0, 0), 49), (2, 114, 0, 13, (0, 0), 59), (2, 114, 0, 14, (0, 0), 118), (2, 114, 0, 15, (0, 0), 60), (2, 114, 0, 16, (0, 0), 55)]
theorem zg6M (x2 x3 x4 x5 : Int32) (M : zM) (h : znx M = 450) : zpls true 326 70 55 [zr 16 0, zr 12 0, zi x2, zi x3, zi x4, zi x5, zu, zu, zu, zu, zu, zu, zu, zu, zu, zu, zu, zu, zu, zu, zu, zu, zu, zu, zu, zu, zu, zu] [zi 17] M = some (155, [zr 16 0, zr 12 0, zi x2, zi x3, zi x4, zi x5, zr 114 0, zu, zu, zu, zu, zu, zu, zu, zu, zu, zu, zu, zu, zu, zu, zu, zu, zu, zu, zu, zu, zu], [], zdo LO1 M) := by
  obtain ⟨f1, f2, f3, n, L⟩ := M
  have h : n = 450 := h
  subst h
  exact zg6 x2 x3 x4 x5 f1 f2 f3 L
def LO2 : List zOp := [(0, 115, 0, 0, (0, 0), 0), (2, 115, 0, 0, (0, 0), 49), (2, 115, 0, 1, (0, 0), 43), (2, 115, 0, 2, (0, 0), 116), (2, 115, 0, 3, (0, 0), 42), (2, 115, 0, 4, (0, 0), 116), (2, 115, 0, 5, (0, 0), 43), (2, 115, 0, 6, (0, 0), 115), (2, 115, 0, 7, (0, 0), 47), (2, 115, 0, 8, (0, 0), 57), (2, 115, 0, 9, (0, 0), 43), (2, 115, 0, 10, (0, 0), 98), (2, 115, 0, 11, (0, 0), 47), (2, 115, 0, 12, (0, 0), 53), (2, 115, 0, 13, (0, 0), 48)]
theorem zg7M (x2 x3 x4 x5 : Int32) (M : zM) (h : znx M = 451) : zpls true 326 59 155 [zr 16 0, zr 12 0, zi x2, zi x3, zi x4, zi x5, zr 114 0, zu, zu, zu, zu, zu, zu, zu, zu, zu, zu, zu, zu, zu, zu, zu, zu, zu, zu, zu, zu, zu] [] M = some (239, [zr 16 0, zr 12 0, zi x2, zi x3, zi x4, zi x5, zr 114 0, zr 115 0, zu, zu, zu, zu, zu, zu, zu, zu, zu, zu, zu, zu, zu, zu, zu, zu, zu, zu, zu, zu], [], zdo LO2 M) := by
  obtain ⟨f1, f2, f3, n, L⟩ := M
  have h : n = 451 := h
  subst h
  exact zg7 x2 x3 x4 x5 f1 f2 f3 L
def LO3 : List zOp := [(0, 116, 0, 0, (0, 0), 0), (2, 116, 0, 0, (0, 0), 98), (2, 116, 0, 1, (0, 0), 43), (2, 116, 0, 2, (0, 0), 108), (2, 116, 0, 3, (0, 0), 42), (2, 116, 0, 4, (0, 0), 50), (2, 116, 0, 5, (0, 0), 43), (2, 116, 0, 6, (0, 0), 119), (2, 116, 0, 7, (0, 0), 42), (2, 116, 0, 8, (0, 0), 51), (2, 116, 0, 9, (0, 0), 43), (2, 116, 0, 10, (0, 0), 40), (2, 116, 0, 11, (0, 0), 114), (2, 116, 0, 12, (0, 0), 60), (2, 116, 0, 13, (0, 0), 48), (2, 116, 0, 14, (0, 0), 41), (2, 116, 0, 15, (0, 0), 42), (2, 116, 0, 16, (0, 0), 52), (2, 116, 0, 17, (0, 0), 43), (2, 116, 0, 18, (0, 0), 40), (2, 116, 0, 19, (0, 0), 116), (2, 116, 0, 20, (0, 0), 62), (2, 116, 0, 21, (0, 0), 48), (2, 116, 0, 22, (0, 0), 41), (2, 116, 0, 23, (0, 0), 42), (2, 116, 0, 24, (0, 0), 53)]
theorem zg8M (x2 x3 x4 x5 : Int32) (M : zM) (h : znx M = 452) : zpls true 326 103 239 [zr 16 0, zr 12 0, zi x2, zi x3, zi x4, zi x5, zr 114 0, zr 115 0, zu, zu, zu, zu, zu, zu, zu, zu, zu, zu, zu, zu, zu, zu, zu, zu, zu, zu, zu, zu] [] M = some (389, (zlS x2 x3 x4 x5), [], zdo LO3 M) := by
  obtain ⟨f1, f2, f3, n, L⟩ := M
  have h : n = 452 := h
  subst h
  exact zg8 x2 x3 x4 x5 f1 f2 f3 L
theorem LO_all (M : zM) : zdo LO3 (zdo LO2 (zdo LO1 M)) = zdo LOPS M := by
  rw [zdo_app, zdo_app]
  rfl
def zk2 (L : Nat × (Nat → Int32)) : Int32 := zcell L 0 - zcell L 0 / 8 * 8
def zk3 (L : Nat × (Nat → Int32)) : Int32 := zcell L 1 - zcell L 1 / 7 * 7 - 3
def zk4 (L : Nat × (Nat → Int32)) : Int32 := 1 + (zcell L 2 - zcell L 2 / 60 * 60)
def zk5 (L : Nat × (Nat → Int32)) : Int32 := 5 + (zcell L 3 - zcell L 3 / 200 * 200)
/-- all that is owed: runs of the abstract machine -/
def zOwed (L : Nat × (Nat → Int32)) : Prop := ∃ (d n : Nat) (M1 M3 : zM), d ≤ 1000 ∧ zrun true n d 129 0 (zpad (zml 129) (zargs [zr 12 0])) [] (znew (zM0 L) 12 0) = some (none, M1) ∧ znx M1 = 450 ∧ zsc M1 = L ∧ zfnl (zdo LOPS M1) ∧
  zrun false n d 326 389 (zlS (zk2 L) (zk3 L) (zk4 L) (zk5 L)) [] (zdo LOPS M1) = some (some (zi 1), M3) ∧ znx M3 = 453
theorem zsl453 : zsl 453 ≤ 7302250 := by decide +kernel
set_option maxHeartbeats 4000000 in
theorem zlaw {p : Program} {e : Env} {s : State} {m : MethodId} {below : List Frame} {meth : Method} {c : Code} (l : Launch) {b Ln : Nat} {xs : Nat → Int32} (hL : Ln ≤ 260) (C0 : lw_At p s m meth c b Ln xs) (hO : zOwed (Ln, xs)) : W p l e room_1 s m #[Value.ref b] below meth c s.heap [] 0 0 (lw_Z below #[Value.ref b] s) (entryFrame m ([Value.ref b] : List Value).toArray 28) := by
  obtain ⟨c1, c2, c3, c4, c5, c6, c7, c8, c9, c10⟩ := C0
  obtain ⟨Z, D, cy, hZ1, hZ2, ev⟩ := zEv_start c6 c7 c10
  obtain ⟨d, n, M1, M3, hd, r1, x1, hsc, hf, r3, x3⟩ := hO
  have x2 : znx (zdo LOPS M1) = 453 := by
    rw [zdo_nx, x1]
    rfl
  have hts : ∀ w ∈ zTs, w.before #[Value.ref b] s = true := fun w hw => c6 w (List.mem_filter.mp hw).1
  have cx : zCx p s m #[Value.ref b] meth c room_1 326 := ⟨c1, c2, c4, c5, hts, c3, c9, fun h => absurd h (by decide +kernel), by decide, by decide, Or.inr rfl⟩
  have hb : ∀ k, k ≤ 453 → k ≤ 0 + room_1.cells ∧ zsl k ≤ zsl 0 + room_1.slots := by
    intro k hk
    have h1 := zsl_le hk
    have h2 := zsl453
    show k ≤ 0 + 600000 ∧ zsl k ≤ 0 + 7302250
    omega
  have hroom : d + 2 ≤ room_1.frames ∧ 40 * (d + 2) ≤ room_1.locals := by
    show d + 2 ≤ 2048 ∧ 40 * (d + 2) ≤ 84000
    omega
  have t9 : zT p l e room_1 s m #[Value.ref b] below meth c (lw_Z below #[Value.ref b] s) Z D cy s.heap false (Ln, xs) 0 326 (zdo LOPS M1) (zlS (zk2 (Ln, xs)) (zk3 (Ln, xs)) (zk4 (Ln, xs)) (zk5 (Ln, xs))) [] 389 := by
    refine zwalk (d := d) (res := (some (zi 1), M3)) cx ev ⟨by omega, by omega⟩ (hb _ (Nat.le_of_eq x3)) (fun pc al st hs => ?_) n (fun k _ d' y as M r M' hrun ok sv wt vm hl => zmet k d' y as M r M' hrun ok sv wt vm hl) 389 _ _ _ r3
    intro H locs cells slots ls hI
    obtain ⟨i1, i2, i3, i4, i5, i6, i7, i8, i9⟩ := hI
    rcases hs with ⟨x, ty, hv, rfl, hdg, h1, h2⟩ | ⟨x, hv, -⟩ | ⟨q, nm, hv, -⟩ | ⟨hv, -⟩
    · cases hv
      have i7 : cells + 0 = znx M3 := i7
      have i8 : slots + 0 = zsl (znx M3) := i8
      rw [x3] at i7 i8
      have h453 := zsl453
      refine va_forget (fun q hq => by have h := i6 q hq; rw [hZ1] at h; exact h) ?_
      exact W.widen (k := 600000) (n := 7302250) (by omega) (by omega) (lw_ret c1 c2 c3 c9 hdg)
    · cases hv
    · cases hv
    · cases hv
  have t9b : zT p l e room_1 s m #[Value.ref b] below meth c (lw_Z below #[Value.ref b] s) Z D cy s.heap true (Ln, xs) 0 326 (zdo LOPS M1) (zlS (zk2 (Ln, xs)) (zk3 (Ln, xs)) (zk4 (Ln, xs)) (zk5 (Ln, xs))) [] 389 := by
    intro H locs cells slots ls hI
    obtain ⟨i1, i2, i3⟩ := hI
    exact t9 H locs cells slots ls ⟨zW_fin x2 hf i1, ⟨i2.1, i2.2.1, fun _ => x2⟩, i3⟩
  have n1 : znx (znew (zM0 (Ln, xs)) 12 0) ≤ znx M1 := zrun_nx true n _ _ _ _ _ _ _ r1
  have y1 : znx (zdo LO1 M1) = 451 := by rw [zdo_nx, x1]; rfl
  have y2 : znx (zdo LO2 (zdo LO1 M1)) = 452 := by rw [zdo_nx, y1]; rfl
  have y3 : znx (zdo LO3 (zdo LO2 (zdo LO1 M1))) = 453 := by rw [zdo_nx, y2]; rfl
  rw [← LO_all] at t9b
  have s8 : zT p l e room_1 s m #[Value.ref b] below meth c (lw_Z below #[Value.ref b] s) Z D cy s.heap true (Ln, xs) 0 326 (zdo LO2 (zdo LO1 M1)) [zr 16 0, zr 12 0, zi (zk2 (Ln, xs)), zi (zk3 (Ln, xs)), zi (zk4 (Ln, xs)), zi (zk5 (Ln, xs)), zr 114 0, zr 115 0, zu, zu, zu, zu, zu, zu, zu, zu, zu, zu, zu, zu, zu, zu, zu, zu, zu, zu, zu, zu] [] 239 := zplT cx ev (hb _ (Nat.le_of_eq y3)) t9b 103 _ _ _ _ (zg8M _ _ _ _ _ y2)
  have s7 : zT p l e room_1 s m #[Value.ref b] below meth c (lw_Z below #[Value.ref b] s) Z D cy s.heap true (Ln, xs) 0 326 (zdo LO1 M1) [zr 16 0, zr 12 0, zi (zk2 (Ln, xs)), zi (zk3 (Ln, xs)), zi (zk4 (Ln, xs)), zi (zk5 (Ln, xs)), zr 114 0, zu, zu, zu, zu, zu, zu, zu, zu, zu, zu, zu, zu, zu, zu, zu, zu, zu, zu, zu, zu, zu] [] 155 := zplT cx ev (hb _ (by rw [y2]; decide)) s8 59 _ _ _ _ (zg7M _ _ _ _ _ y1)
  have s6 : zT p l e room_1 s m #[Value.ref b] below meth c (lw_Z below #[Value.ref b] s) Z D cy s.heap true (Ln, xs) 0 326 M1 [zr 16 0, zr 12 0, zi (zk2 (Ln, xs)), zi (zk3 (Ln, xs)), zi (zk4 (Ln, xs)), zi (zk5 (Ln, xs)), zu, zu, zu, zu, zu, zu, zu, zu, zu, zu, zu, zu, zu, zu, zu, zu, zu, zu, zu, zu, zu, zu] [zi 17] 55 := zplT cx ev (hb _ (by rw [y1]; decide)) s7 70 _ _ _ _ (zg6M _ _ _ _ _ x1)
  have s5 : zT p l e room_1 s m #[Value.ref b] below meth c (lw_Z below #[Value.ref b] s) Z D cy s.heap true (Ln, xs) 0 326 M1 [zr 16 0, zr 12 0, zi (zk2 (Ln, xs)), zi (zk3 (Ln, xs)), zi (zk4 (Ln, xs)), zu, zu, zu, zu, zu, zu, zu, zu, zu, zu, zu, zu, zu, zu, zu, zu, zu, zu, zu, zu, zu, zu, zu] [zi (zcell (Ln, xs) 3), zi 5] 46 := zplT cx ev (hb _ (by rw [x1]; decide)) s6 5 _ _ _ _ (zg5 _ _ _ _ _ _ _ _ _)
  have q5 : zT p l e room_1 s m #[Value.ref b] below meth c (lw_Z below #[Value.ref b] s) Z D cy s.heap true (Ln, xs) 0 326 M1 [zr 16 0, zr 12 0, zi (zk2 (Ln, xs)), zi (zk3 (Ln, xs)), zi (zk4 (Ln, xs)), zu, zu, zu, zu, zu, zu, zu, zu, zu, zu, zu, zu, zu, zu, zu, zu, zu, zu, zu, zu, zu, zu, zu] [zi 3, zr 16 0, zi 5] 43 := by
    obtain ⟨n', hr⟩ := zgo_iff.mp (Zcell true d 3 M1 (by rw [hsc]; exact hL) (by decide))
    rw [hsc] at hr
    exact zstepC cx ev (E := (.invokestatic 24, 46, (324, 2, 0), 0, 0, [])) (y := 324) (d' := d) (as := [zr 16 0, zi 3]) (st1 := [zi 5]) (r := some (zi (zcell (Ln, xs) 3))) (M' := M1) rfl rfl (fun h1 h2 h3 => zmet n' d 324 _ _ _ _ hr zM324 h2 (by decide) h1 h3) hroom (by decide) (Nat.le_refl _) (hb _ (by rw [x1]; decide)) s5
  have s4 : zT p l e room_1 s m #[Value.ref b] below meth c (lw_Z below #[Value.ref b] s) Z D cy s.heap true (Ln, xs) 0 326 M1 [zr 16 0, zr 12 0, zi (zk2 (Ln, xs)), zi (zk3 (Ln, xs)), zu, zu, zu, zu, zu, zu, zu, zu, zu, zu, zu, zu, zu, zu, zu, zu, zu, zu, zu, zu, zu, zu, zu, zu] [zi (zcell (Ln, xs) 2), zi 1] 34 := zplT cx ev (hb _ (by rw [x1]; decide)) q5 7 _ _ _ _ (zg4 _ _ _ _ _ _ _ _)
  have q4 : zT p l e room_1 s m #[Value.ref b] below meth c (lw_Z below #[Value.ref b] s) Z D cy s.heap true (Ln, xs) 0 326 M1 [zr 16 0, zr 12 0, zi (zk2 (Ln, xs)), zi (zk3 (Ln, xs)), zu, zu, zu, zu, zu, zu, zu, zu, zu, zu, zu, zu, zu, zu, zu, zu, zu, zu, zu, zu, zu, zu, zu, zu] [zi 2, zr 16 0, zi 1] 31 := by
    obtain ⟨n', hr⟩ := zgo_iff.mp (Zcell true d 2 M1 (by rw [hsc]; exact hL) (by decide))
    rw [hsc] at hr
    exact zstepC cx ev (E := (.invokestatic 24, 34, (324, 2, 0), 0, 0, [])) (y := 324) (d' := d) (as := [zr 16 0, zi 2]) (st1 := [zi 1]) (r := some (zi (zcell (Ln, xs) 2))) (M' := M1) rfl rfl (fun h1 h2 h3 => zmet n' d 324 _ _ _ _ hr zM324 h2 (by decide) h1 h3) hroom (by decide) (Nat.le_refl _) (hb _ (by rw [x1]; decide)) s4
  have s3 : zT p l e room_1 s m #[Value.ref b] below meth c (lw_Z below #[Value.ref b] s) Z D cy s.heap true (Ln, xs) 0 326 M1 [zr 16 0, zr 12 0, zi (zk2 (Ln, xs)), zu, zu, zu, zu, zu, zu, zu, zu, zu, zu, zu, zu, zu, zu, zu, zu, zu, zu, zu, zu, zu, zu, zu, zu, zu] [zi (zcell (Ln, xs) 1)] 22 := zplT cx ev (hb _ (by rw [x1]; decide)) q4 8 _ _ _ _ (zg3 _ _ _ _ _ _ _)
  have q3 : zT p l e room_1 s m #[Value.ref b] below meth c (lw_Z below #[Value.ref b] s) Z D cy s.heap true (Ln, xs) 0 326 M1 [zr 16 0, zr 12 0, zi (zk2 (Ln, xs)), zu, zu, zu, zu, zu, zu, zu, zu, zu, zu, zu, zu, zu, zu, zu, zu, zu, zu, zu, zu, zu, zu, zu, zu, zu] [zi 1, zr 16 0] 19 := by
    obtain ⟨n', hr⟩ := zgo_iff.mp (Zcell true d 1 M1 (by rw [hsc]; exact hL) (by decide))
    rw [hsc] at hr
    exact zstepC cx ev (E := (.invokestatic 24, 22, (324, 2, 0), 0, 0, [])) (y := 324) (d' := d) (as := [zr 16 0, zi 1]) (st1 := []) (r := some (zi (zcell (Ln, xs) 1))) (M' := M1) rfl rfl (fun h1 h2 h3 => zmet n' d 324 _ _ _ _ hr zM324 h2 (by decide) h1 h3) hroom (by decide) (Nat.le_refl _) (hb _ (by rw [x1]; decide)) s3
  have s2 : zT p l e room_1 s m #[Value.ref b] below meth c (lw_Z below #[Value.ref b] s) Z D cy s.heap true (Ln, xs) 0 326 M1 [zr 16 0, zr 12 0, zu, zu, zu, zu, zu, zu, zu, zu, zu, zu, zu, zu, zu, zu, zu, zu, zu, zu, zu, zu, zu, zu, zu, zu, zu, zu] [zi (zcell (Ln, xs) 0)] 13 := zplT cx ev (hb _ (by rw [x1]; decide)) q3 5 _ _ _ _ (zg2 _ _ _ _ _ _)
  have q2 : zT p l e room_1 s m #[Value.ref b] below meth c (lw_Z below #[Value.ref b] s) Z D cy s.heap true (Ln, xs) 0 326 M1 [zr 16 0, zr 12 0, zu, zu, zu, zu, zu, zu, zu, zu, zu, zu, zu, zu, zu, zu, zu, zu, zu, zu, zu, zu, zu, zu, zu, zu, zu, zu] [zi 0, zr 16 0] 10 := by
    obtain ⟨n', hr⟩ := zgo_iff.mp (Zcell true d 0 M1 (by rw [hsc]; exact hL) (by decide))
    rw [hsc] at hr
    exact zstepC cx ev (E := (.invokestatic 24, 13, (324, 2, 0), 0, 0, [])) (y := 324) (d' := d) (as := [zr 16 0, zi 0]) (st1 := []) (r := some (zi (zcell (Ln, xs) 0))) (M' := M1) rfl rfl (fun h1 h2 h3 => zmet n' d 324 _ _ _ _ hr zM324 h2 (by decide) h1 h3) hroom (by decide) (Nat.le_refl _) (hb _ (by rw [x1]; decide)) s2
  have s1 : zT p l e room_1 s m #[Value.ref b] below meth c (lw_Z below #[Value.ref b] s) Z D cy s.heap true (Ln, xs) 0 326 M1 [zr 16 0, zu, zu, zu, zu, zu, zu, zu, zu, zu, zu, zu, zu, zu, zu, zu, zu, zu, zu, zu, zu, zu, zu, zu, zu, zu, zu, zu] [zr 12 0] 7 := zplT cx ev (hb _ (by rw [x1]; decide)) q2 3 _ _ _ _ (zg1 _ _ _ _ _)
  have t0 : zT p l e room_1 s m #[Value.ref b] below meth c (lw_Z below #[Value.ref b] s) Z D cy s.heap true (Ln, xs) 0 326 (zM0 (Ln, xs)) [zr 16 0, zu, zu, zu, zu, zu, zu, zu, zu, zu, zu, zu, zu, zu, zu, zu, zu, zu, zu, zu, zu, zu, zu, zu, zu, zu, zu, zu] [] 0 := by
    refine zstepN cx ev (E := (.new 15, 3, (12, 0, 0), 0, 0, [])) (pc1 := 3) (al1 := [zr 16 0, zu, zu, zu, zu, zu, zu, zu, zu, zu, zu, zu, zu, zu, zu, zu, zu, zu, zu, zu, zu, zu, zu, zu, zu, zu, zu, zu]) (st1 := [zr 12 0]) (M1 := znew (zM0 (Ln, xs)) 12 0) rfl rfl (hb _ (by show 0 + 1 ≤ 453; omega)) ?_
    refine zstepN cx ev (E := (.dup, 4, (0, 0, 0), 0, 0, [])) (pc1 := 4) (al1 := [zr 16 0, zu, zu, zu, zu, zu, zu, zu, zu, zu, zu, zu, zu, zu, zu, zu, zu, zu, zu, zu, zu, zu, zu, zu, zu, zu, zu, zu]) (st1 := [zr 12 0, zr 12 0]) (M1 := znew (zM0 (Ln, xs)) 12 0) rfl rfl (hb _ (by show 0 + 1 ≤ 453; omega)) ?_
    exact zstepC cx ev (E := (.invokespecial 23, 7, (129, 1, 12), 0, 0, [])) (y := 129) (d' := d) (as := [zr 12 0]) (st1 := [zr 12 0]) (r := none) (M' := M1) rfl rfl (fun h1 h2 h3 => zmet n d 129 _ _ _ _ r1 zM129 h2 (by decide) h1 h3) hroom (by decide) n1 (hb _ (by rw [x1]; decide)) s1
  have hcv : zcv Z (zr 16 0) = .ref b := by
    rw [← hZ2]
    exact zcv_ref Z (q := (16, 0)) (by decide)
  have hLR := zLR_entry Z (as := [zr 16 0]) (n := 28) (by decide)
  have hfr := lg_entry_eq m ([zr 16 0].map (zcv Z)) 28
  rw [show [zr 16 0].map (zcv Z) = [Value.ref b] by rw [List.map_cons, hcv]; rfl] at hLR hfr
  rw [hfr]
  refine t0 s.heap [] 0 0 _ ⟨⟨fun k hk => absurd hk (Nat.not_lt_zero k), by show s.heap.size = Z.1 + 0; rw [hZ1]; rfl, fun _ _ => rfl⟩, ⟨fun _ _ _ => Or.inl rfl, Nat.zero_le _, fun h => by cases h⟩, hLR, ⟨Or.inr (Or.inl ⟨by decide, by decide, rfl⟩), ?_⟩, trivial, (fun q h => by cases h), rfl, rfl, rfl⟩
  repeat' (first | trivial | refine ⟨trivial, ?_⟩)
