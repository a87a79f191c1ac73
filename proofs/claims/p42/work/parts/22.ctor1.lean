/-! the constructors' runs, activation by activation -/
def N129_1 (M : zM) : zM := zdo [(0, 10, 0, 0, (0, 0), 0)] (M)
set_option maxRecDepth 100000 in
theorem T129_0 (d : Nat) (M : zM) (hn : znx M = 1) : zgo true (d + 3) 129 0 [zr 12 0, zu] [] (M) = zgo true (d + 3) 129 8 [zr 12 0, zu] [zr 10 0, zr 12 0] (N129_1 M) := by
  have hX : znx (M) = 1 := hn
  generalize hN : M = X at hX ⊢
  refine (B129_0 (d + 3) zu X).trans ?_
  have hz : znx X = 1 := hX
  rw [hz]
  clear hz
  show zgo true (d + 3) 129 8 [zr 12 0, zu] [zr 10 0, zr 12 0] (znew X 10 0) = _
  rw [show znew X 10 0 = zdo [(0, 10, 0, 0, (0, 0), 0)] X from rfl]
  subst hN
  rfl
theorem H129_1 (M : zM) (hn : znx M = 1) : znx (N129_1 M) = 2 := by
  show znx (zdo [(0, 10, 0, 0, (0, 0), 0)] (M)) = _
  rw [zdo_nx, hn]
  rfl
def D107_0 : List zOp := [(0, 46, 0, 0, (0, 0), 0), (1, 10, 0, 0, (46, 0), 0), (0, 47, 0, 0, (0, 0), 0), (1, 10, 0, 1, (47, 0), 0), (2, 10, 0, 2, (0, 0), 6), (2, 10, 0, 3, (0, 0), 75), (2, 10, 0, 9, (0, 0), 1)]
set_option maxRecDepth 100000 in
set_option maxHeartbeats 4000000 in
theorem C107_0 (d : Nat) (M : zM) (hn : znx M = 2) : zgo true d 107 0 [zr 10 0] [] M = some (none, zdo D107_0 M) := by
  refine (B107_0 d 0 M).trans ?_
  have hz : znx M = 2 := hn
  rw [hz]
  clear hz
  show zgo true d 107 10 [zr 10 0] [zr 46 0, zr 10 0] (znew M 46 0) = _
  generalize hM1 : znew M 46 0 = M1
  have hn1 : znx M1 = 3 := by rw [← hM1]; exact congrArg (· + 1) hn
  refine (B107_10 d 0 0 46 0 M1).trans ?_
  have hz : znx (zsR M1 10 0 0 (46, 0)) = 3 := hn1
  rw [hz]
  clear hz
  show zgo true d 107 18 [zr 10 0] [zr 47 0, zr 10 0] (znew (zsR M1 10 0 0 (46, 0)) 47 0) = _
  generalize hM2 : znew (zsR M1 10 0 0 (46, 0)) 47 0 = M2
  have hn2 : znx M2 = 4 := by rw [← hM2]; exact congrArg (· + 1) hn1
  clear hn1
  refine (B107_18 d 0 0 47 0 M2).trans ?_
  show zgo true d 107 27 [zr 10 0] [] (zsI (zsR M2 10 0 1 (47, 0)) 10 0 2 6) = _
  generalize hM3 : zsI (zsR M2 10 0 1 (47, 0)) 10 0 2 6 = M3
  have hn3 : znx M3 = 4 := by rw [← hM3]; exact hn2
  clear hn2
  refine (B107_27 d 0 M3).trans ?_
  generalize hM4 : zsI (zsI M3 10 0 3 75) 10 0 9 1 = M4
  have hn4 : znx M4 = 4 := by rw [← hM4]; exact hn3
  clear hn3
  subst hM4 hM3 hM2 hM1
  rfl
def N129_2 (M : zM) : zM := zdo D107_0 (N129_1 M)
set_option maxRecDepth 100000 in
theorem T129_1 (d : Nat) (M : zM) (hn : znx M = 1) : zgo true (d + 3) 129 8 [zr 12 0, zu] [zr 10 0, zr 12 0] (N129_1 M) = zgo true (d + 3) 129 12 [zr 12 0, zu] [zr 10 0, zr 12 0] (N129_2 M) := by
  have hX : znx (N129_1 M) = 2 := H129_1 M hn
  generalize hN : N129_1 M = X at hX ⊢
  refine (B129_8 (d + 2) zu 0 X).trans ?_
  show Option.bind (zgo true (d + 2) 107 0 [zr 10 0] [] (X)) _ = _
  refine zbind_of (C107_0 (d + 2) _ hX) ?_
  show zgo true (d + 3) 129 12 [zr 12 0, zu] [zr 10 0, zr 12 0] (zdo D107_0 (X)) = _
  subst hN
  rfl
theorem H129_2 (M : zM) (hn : znx M = 1) : znx (N129_2 M) = 4 := by
  show znx (zdo D107_0 (N129_1 M)) = _
  rw [zdo_nx, H129_1 M hn]
  rfl
def N129_3 (M : zM) : zM := zdo [(1, 12, 0, 0, (10, 0), 0), (0, 5, 0, 0, (0, 0), 0)] (N129_2 M)
set_option maxRecDepth 100000 in
theorem T129_2 (d : Nat) (M : zM) (hn : znx M = 1) : zgo true (d + 3) 129 12 [zr 12 0, zu] [zr 10 0, zr 12 0] (N129_2 M) = zgo true (d + 3) 129 19 [zr 12 0, zu] [zr 5 0, zr 12 0] (N129_3 M) := by
  have hX : znx (N129_2 M) = 4 := H129_2 M hn
  generalize hN : N129_2 M = X at hX ⊢
  refine (B129_12 (d + 3) zu 0 X).trans ?_
  have hz : znx (zsR X 12 0 0 (10, 0)) = 4 := hX
  rw [hz]
  clear hz
  show zgo true (d + 3) 129 19 [zr 12 0, zu] [zr 5 0, zr 12 0] (znew (zsR X 12 0 0 (10, 0)) 5 0) = _
  rw [show znew (zsR X 12 0 0 (10, 0)) 5 0 = zdo [(1, 12, 0, 0, (10, 0), 0), (0, 5, 0, 0, (0, 0), 0)] X from rfl]
  subst hN
  rfl
theorem H129_3 (M : zM) (hn : znx M = 1) : znx (N129_3 M) = 5 := by
  show znx (zdo [(1, 12, 0, 0, (10, 0), 0), (0, 5, 0, 0, (0, 0), 0)] (N129_2 M)) = _
  rw [zdo_nx, H129_2 M hn]
  rfl
def N31_1 (M : zM) : zM := zdo [(0, 29, 0, 0, (0, 0), 0)] (M)
set_option maxRecDepth 100000 in
theorem T31_0 (d : Nat) (M : zM) (hn : znx M = 5) : zgo true (d + 2) 31 0 [zr 5 0, zu] [] (M) = zgo true (d + 2) 31 8 [zr 5 0, zu] [zr 29 0, zr 5 0] (N31_1 M) := by
  have hX : znx (M) = 5 := hn
  generalize hN : M = X at hX ⊢
  refine (B31_0 (d + 2) zu X).trans ?_
  have hz : znx X = 5 := hX
  rw [hz]
  clear hz
  show zgo true (d + 2) 31 8 [zr 5 0, zu] [zr 29 0, zr 5 0] (znew X 29 0) = _
  rw [show znew X 29 0 = zdo [(0, 29, 0, 0, (0, 0), 0)] X from rfl]
  subst hN
  rfl
theorem H31_1 (M : zM) (hn : znx M = 5) : znx (N31_1 M) = 6 := by
  show znx (zdo [(0, 29, 0, 0, (0, 0), 0)] (M)) = _
  rw [zdo_nx, hn]
  rfl
def N31_2 (M : zM) : zM := zdo [(1, 5, 0, 0, (29, 0), 0), (0, 30, 0, 0, (0, 0), 0)] (N31_1 M)
set_option maxRecDepth 100000 in
theorem T31_1 (d : Nat) (M : zM) (hn : znx M = 5) : zgo true (d + 2) 31 8 [zr 5 0, zu] [zr 29 0, zr 5 0] (N31_1 M) = zgo true (d + 2) 31 16 [zr 5 0, zu] [zr 30 0, zr 5 0] (N31_2 M) := by
  have hX : znx (N31_1 M) = 6 := H31_1 M hn
  generalize hN : N31_1 M = X at hX ⊢
  refine (B31_8 (d + 2) zu 29 0 X).trans ?_
  have hz : znx (zsR X 5 0 0 (29, 0)) = 6 := hX
  rw [hz]
  clear hz
  show zgo true (d + 2) 31 16 [zr 5 0, zu] [zr 30 0, zr 5 0] (znew (zsR X 5 0 0 (29, 0)) 30 0) = _
  rw [show znew (zsR X 5 0 0 (29, 0)) 30 0 = zdo [(1, 5, 0, 0, (29, 0), 0), (0, 30, 0, 0, (0, 0), 0)] X from rfl]
  subst hN
  rfl
theorem H31_2 (M : zM) (hn : znx M = 5) : znx (N31_2 M) = 7 := by
  show znx (zdo [(1, 5, 0, 0, (29, 0), 0), (0, 30, 0, 0, (0, 0), 0)] (N31_1 M)) = _
  rw [zdo_nx, H31_1 M hn]
  rfl
set_option maxRecDepth 100000 in
theorem G31_2_0 (M : zM) : zgR (N31_2 M) 5 0 0 = (29, 0) := by
  show zgR (zdo [(1, 5, 0, 0, (29, 0), 0), (0, 30, 0, 0, (0, 0), 0)] (N31_1 M)) 5 0 0 = _
  generalize N31_1 M = X
  rfl
def N31_3 (M : zM) : zM := zdo [(1, 5, 0, 1, (30, 0), 0), (0, 11, 0, 0, (0, 0), 0)] (N31_2 M)
set_option maxRecDepth 100000 in
theorem T31_2 (d : Nat) (M : zM) (hn : znx M = 5) : zgo true (d + 2) 31 16 [zr 5 0, zu] [zr 30 0, zr 5 0] (N31_2 M) = zgo true (d + 2) 31 23 [zr 5 0, zu] [zr 11 0, zr 5 0] (N31_3 M) := by
  have hX : znx (N31_2 M) = 7 := H31_2 M hn
  have hf0 : zgR (N31_2 M) 5 0 0 = (29, 0) := G31_2_0 M
  generalize hN : N31_2 M = X at hX hf0 ⊢
  refine (B31_16 (d + 2) zu 30 0 X).trans ?_
  have hz : znx (zsR X 5 0 1 (30, 0)) = 7 := hX
  rw [hz]
  clear hz
  show zgo true (d + 2) 31 23 [zr 5 0, zu] [zr 11 0, zr 5 0] (znew (zsR X 5 0 1 (30, 0)) 11 0) = _
  rw [show znew (zsR X 5 0 1 (30, 0)) 11 0 = zdo [(1, 5, 0, 1, (30, 0), 0), (0, 11, 0, 0, (0, 0), 0)] X from rfl]
  subst hN
  rfl
theorem H31_3 (M : zM) (hn : znx M = 5) : znx (N31_3 M) = 8 := by
  show znx (zdo [(1, 5, 0, 1, (30, 0), 0), (0, 11, 0, 0, (0, 0), 0)] (N31_2 M)) = _
  rw [zdo_nx, H31_2 M hn]
  rfl
set_option maxRecDepth 100000 in
theorem G31_3_0 (M : zM) : zgR (N31_3 M) 5 0 0 = (29, 0) := by
  show zgR (zdo [(1, 5, 0, 1, (30, 0), 0), (0, 11, 0, 0, (0, 0), 0)] (N31_2 M)) 5 0 0 = _
  rw [zdo_R _ _ (by decide), G31_2_0 M]
def D120_0 : List zOp := [(0, 48, 0, 0, (0, 0), 0), (1, 11, 0, 0, (48, 0), 0), (0, 49, 0, 0, (0, 0), 0), (1, 11, 0, 1, (49, 0), 0)]
set_option maxRecDepth 100000 in
set_option maxHeartbeats 4000000 in
theorem C120_0 (d : Nat) (M : zM) (hn : znx M = 8) : zgo true d 120 0 [zr 11 0] [] M = some (none, zdo D120_0 M) := by
  refine (B120_0 d 0 M).trans ?_
  have hz : znx M = 8 := hn
  rw [hz]
  clear hz
  show zgo true d 120 10 [zr 11 0] [zr 48 0, zr 11 0] (znew M 48 0) = _
  generalize hM1 : znew M 48 0 = M1
  have hn1 : znx M1 = 9 := by rw [← hM1]; exact congrArg (· + 1) hn
  refine (B120_10 d 0 0 48 0 M1).trans ?_
  have hz : znx (zsR M1 11 0 0 (48, 0)) = 9 := hn1
  rw [hz]
  clear hz
  show zgo true d 120 19 [zr 11 0] [zr 49 0, zr 11 0] (znew (zsR M1 11 0 0 (48, 0)) 49 0) = _
  generalize hM2 : znew (zsR M1 11 0 0 (48, 0)) 49 0 = M2
  have hn2 : znx M2 = 10 := by rw [← hM2]; exact congrArg (· + 1) hn1
  clear hn1
  refine (B120_19 d 0 0 49 0 M2).trans ?_
  generalize hM3 : zsR M2 11 0 1 (49, 0) = M3
  have hn3 : znx M3 = 10 := by rw [← hM3]; exact hn2
  clear hn2
  subst hM3 hM2 hM1
  rfl
def N31_4 (M : zM) : zM := zdo D120_0 (N31_3 M)
set_option maxRecDepth 100000 in
theorem T31_3 (d : Nat) (M : zM) (hn : znx M = 5) : zgo true (d + 2) 31 23 [zr 5 0, zu] [zr 11 0, zr 5 0] (N31_3 M) = zgo true (d + 2) 31 27 [zr 5 0, zu] [zr 11 0, zr 5 0] (N31_4 M) := by
  have hX : znx (N31_3 M) = 8 := H31_3 M hn
  have hf0 : zgR (N31_3 M) 5 0 0 = (29, 0) := G31_3_0 M
  generalize hN : N31_3 M = X at hX hf0 ⊢
  refine (B31_23 (d + 1) zu 0 X).trans ?_
  show Option.bind (zgo true (d + 1) 120 0 [zr 11 0] [] (X)) _ = _
  refine zbind_of (C120_0 (d + 1) _ hX) ?_
  show zgo true (d + 2) 31 27 [zr 5 0, zu] [zr 11 0, zr 5 0] (zdo D120_0 (X)) = _
  subst hN
  rfl
theorem H31_4 (M : zM) (hn : znx M = 5) : znx (N31_4 M) = 10 := by
  show znx (zdo D120_0 (N31_3 M)) = _
  rw [zdo_nx, H31_3 M hn]
  rfl
set_option maxRecDepth 100000 in
theorem G31_4_0 (M : zM) : zgR (N31_4 M) 5 0 0 = (29, 0) := by
  show zgR (zdo D120_0 (N31_3 M)) 5 0 0 = _
  rw [zdo_R _ _ (by decide), G31_3_0 M]
def N31_5 (M : zM) : zM := zdo [(1, 5, 0, 2, (11, 0), 0), (0, 11, 1, 0, (0, 0), 0)] (N31_4 M)
set_option maxRecDepth 100000 in
theorem T31_4 (d : Nat) (M : zM) (hn : znx M = 5) : zgo true (d + 2) 31 27 [zr 5 0, zu] [zr 11 0, zr 5 0] (N31_4 M) = zgo true (d + 2) 31 34 [zr 5 0, zu] [zr 11 1, zr 5 0] (N31_5 M) := by
  have hX : znx (N31_4 M) = 10 := H31_4 M hn
  have hf0 : zgR (N31_4 M) 5 0 0 = (29, 0) := G31_4_0 M
  generalize hN : N31_4 M = X at hX hf0 ⊢
  refine (B31_27 (d + 2) zu 0 X).trans ?_
  have hz : znx (zsR X 5 0 2 (11, 0)) = 10 := hX
  rw [hz]
  clear hz
  show zgo true (d + 2) 31 34 [zr 5 0, zu] [zr 11 1, zr 5 0] (znew (zsR X 5 0 2 (11, 0)) 11 1) = _
  rw [show znew (zsR X 5 0 2 (11, 0)) 11 1 = zdo [(1, 5, 0, 2, (11, 0), 0), (0, 11, 1, 0, (0, 0), 0)] X from rfl]
  subst hN
  rfl
theorem H31_5 (M : zM) (hn : znx M = 5) : znx (N31_5 M) = 11 := by
  show znx (zdo [(1, 5, 0, 2, (11, 0), 0), (0, 11, 1, 0, (0, 0), 0)] (N31_4 M)) = _
  rw [zdo_nx, H31_4 M hn]
  rfl
set_option maxRecDepth 100000 in
theorem G31_5_0 (M : zM) : zgR (N31_5 M) 5 0 0 = (29, 0) := by
  show zgR (zdo [(1, 5, 0, 2, (11, 0), 0), (0, 11, 1, 0, (0, 0), 0)] (N31_4 M)) 5 0 0 = _
  rw [zdo_R _ _ (by decide), G31_4_0 M]
def D120_1 : List zOp := [(0, 48, 1, 0, (0, 0), 0), (1, 11, 1, 0, (48, 1), 0), (0, 49, 1, 0, (0, 0), 0), (1, 11, 1, 1, (49, 1), 0)]
set_option maxRecDepth 100000 in
set_option maxHeartbeats 4000000 in
theorem C120_1 (d : Nat) (M : zM) (hn : znx M = 11) : zgo true d 120 0 [zr 11 1] [] M = some (none, zdo D120_1 M) := by
  refine (B120_0 d 1 M).trans ?_
  have hz : znx M = 11 := hn
  rw [hz]
  clear hz
  show zgo true d 120 10 [zr 11 1] [zr 48 1, zr 11 1] (znew M 48 1) = _
  generalize hM1 : znew M 48 1 = M1
  have hn1 : znx M1 = 12 := by rw [← hM1]; exact congrArg (· + 1) hn
  refine (B120_10 d 1 1 48 1 M1).trans ?_
  have hz : znx (zsR M1 11 1 0 (48, 1)) = 12 := hn1
  rw [hz]
  clear hz
  show zgo true d 120 19 [zr 11 1] [zr 49 1, zr 11 1] (znew (zsR M1 11 1 0 (48, 1)) 49 1) = _
  generalize hM2 : znew (zsR M1 11 1 0 (48, 1)) 49 1 = M2
  have hn2 : znx M2 = 13 := by rw [← hM2]; exact congrArg (· + 1) hn1
  clear hn1
  refine (B120_19 d 1 1 49 1 M2).trans ?_
  generalize hM3 : zsR M2 11 1 1 (49, 1) = M3
  have hn3 : znx M3 = 13 := by rw [← hM3]; exact hn2
  clear hn2
  subst hM3 hM2 hM1
  rfl
def N31_6 (M : zM) : zM := zdo D120_1 (N31_5 M)
set_option maxRecDepth 100000 in
theorem T31_5 (d : Nat) (M : zM) (hn : znx M = 5) : zgo true (d + 2) 31 34 [zr 5 0, zu] [zr 11 1, zr 5 0] (N31_5 M) = zgo true (d + 2) 31 38 [zr 5 0, zu] [zr 11 1, zr 5 0] (N31_6 M) := by
  have hX : znx (N31_5 M) = 11 := H31_5 M hn
  have hf0 : zgR (N31_5 M) 5 0 0 = (29, 0) := G31_5_0 M
  generalize hN : N31_5 M = X at hX hf0 ⊢
  refine (B31_34 (d + 1) zu 1 X).trans ?_
  show Option.bind (zgo true (d + 1) 120 0 [zr 11 1] [] (X)) _ = _
  refine zbind_of (C120_1 (d + 1) _ hX) ?_
  show zgo true (d + 2) 31 38 [zr 5 0, zu] [zr 11 1, zr 5 0] (zdo D120_1 (X)) = _
  subst hN
  rfl
theorem H31_6 (M : zM) (hn : znx M = 5) : znx (N31_6 M) = 13 := by
  show znx (zdo D120_1 (N31_5 M)) = _
  rw [zdo_nx, H31_5 M hn]
  rfl
set_option maxRecDepth 100000 in
theorem G31_6_0 (M : zM) : zgR (N31_6 M) 5 0 0 = (29, 0) := by
  show zgR (zdo D120_1 (N31_5 M)) 5 0 0 = _
  rw [zdo_R _ _ (by decide), G31_5_0 M]
def N31_7 (M : zM) : zM := zdo [(1, 5, 0, 3, (11, 1), 0), (0, 11, 2, 0, (0, 0), 0)] (N31_6 M)
set_option maxRecDepth 100000 in
theorem T31_6 (d : Nat) (M : zM) (hn : znx M = 5) : zgo true (d + 2) 31 38 [zr 5 0, zu] [zr 11 1, zr 5 0] (N31_6 M) = zgo true (d + 2) 31 45 [zr 5 0, zu] [zr 11 2, zr 5 0] (N31_7 M) := by
  have hX : znx (N31_6 M) = 13 := H31_6 M hn
  have hf0 : zgR (N31_6 M) 5 0 0 = (29, 0) := G31_6_0 M
  generalize hN : N31_6 M = X at hX hf0 ⊢
  refine (B31_38 (d + 2) zu 1 X).trans ?_
  have hz : znx (zsR X 5 0 3 (11, 1)) = 13 := hX
  rw [hz]
  clear hz
  show zgo true (d + 2) 31 45 [zr 5 0, zu] [zr 11 2, zr 5 0] (znew (zsR X 5 0 3 (11, 1)) 11 2) = _
  rw [show znew (zsR X 5 0 3 (11, 1)) 11 2 = zdo [(1, 5, 0, 3, (11, 1), 0), (0, 11, 2, 0, (0, 0), 0)] X from rfl]
  subst hN
  rfl
theorem H31_7 (M : zM) (hn : znx M = 5) : znx (N31_7 M) = 14 := by
  show znx (zdo [(1, 5, 0, 3, (11, 1), 0), (0, 11, 2, 0, (0, 0), 0)] (N31_6 M)) = _
  rw [zdo_nx, H31_6 M hn]
  rfl
set_option maxRecDepth 100000 in
theorem G31_7_0 (M : zM) : zgR (N31_7 M) 5 0 0 = (29, 0) := by
  show zgR (zdo [(1, 5, 0, 3, (11, 1), 0), (0, 11, 2, 0, (0, 0), 0)] (N31_6 M)) 5 0 0 = _
  rw [zdo_R _ _ (by decide), G31_6_0 M]
def D120_2 : List zOp := [(0, 48, 2, 0, (0, 0), 0), (1, 11, 2, 0, (48, 2), 0), (0, 49, 2, 0, (0, 0), 0), (1, 11, 2, 1, (49, 2), 0)]
set_option maxRecDepth 100000 in
set_option maxHeartbeats 4000000 in
theorem C120_2 (d : Nat) (M : zM) (hn : znx M = 14) : zgo true d 120 0 [zr 11 2] [] M = some (none, zdo D120_2 M) := by
  refine (B120_0 d 2 M).trans ?_
  have hz : znx M = 14 := hn
  rw [hz]
  clear hz
  show zgo true d 120 10 [zr 11 2] [zr 48 2, zr 11 2] (znew M 48 2) = _
  generalize hM1 : znew M 48 2 = M1
  have hn1 : znx M1 = 15 := by rw [← hM1]; exact congrArg (· + 1) hn
  refine (B120_10 d 2 2 48 2 M1).trans ?_
  have hz : znx (zsR M1 11 2 0 (48, 2)) = 15 := hn1
  rw [hz]
  clear hz
  show zgo true d 120 19 [zr 11 2] [zr 49 2, zr 11 2] (znew (zsR M1 11 2 0 (48, 2)) 49 2) = _
  generalize hM2 : znew (zsR M1 11 2 0 (48, 2)) 49 2 = M2
  have hn2 : znx M2 = 16 := by rw [← hM2]; exact congrArg (· + 1) hn1
  clear hn1
  refine (B120_19 d 2 2 49 2 M2).trans ?_
  generalize hM3 : zsR M2 11 2 1 (49, 2) = M3
  have hn3 : znx M3 = 16 := by rw [← hM3]; exact hn2
  clear hn2
  subst hM3 hM2 hM1
  rfl
def N31_8 (M : zM) : zM := zdo D120_2 (N31_7 M)
set_option maxRecDepth 100000 in
theorem T31_7 (d : Nat) (M : zM) (hn : znx M = 5) : zgo true (d + 2) 31 45 [zr 5 0, zu] [zr 11 2, zr 5 0] (N31_7 M) = zgo true (d + 2) 31 49 [zr 5 0, zu] [zr 11 2, zr 5 0] (N31_8 M) := by
  have hX : znx (N31_7 M) = 14 := H31_7 M hn
  have hf0 : zgR (N31_7 M) 5 0 0 = (29, 0) := G31_7_0 M
  generalize hN : N31_7 M = X at hX hf0 ⊢
  refine (B31_45 (d + 1) zu 2 X).trans ?_
  show Option.bind (zgo true (d + 1) 120 0 [zr 11 2] [] (X)) _ = _
  refine zbind_of (C120_2 (d + 1) _ hX) ?_
  show zgo true (d + 2) 31 49 [zr 5 0, zu] [zr 11 2, zr 5 0] (zdo D120_2 (X)) = _
  subst hN
  rfl
theorem H31_8 (M : zM) (hn : znx M = 5) : znx (N31_8 M) = 16 := by
  show znx (zdo D120_2 (N31_7 M)) = _
  rw [zdo_nx, H31_7 M hn]
  rfl
set_option maxRecDepth 100000 in
theorem G31_8_0 (M : zM) : zgR (N31_8 M) 5 0 0 = (29, 0) := by
  show zgR (zdo D120_2 (N31_7 M)) 5 0 0 = _
  rw [zdo_R _ _ (by decide), G31_7_0 M]
def N31_9 (M : zM) : zM := zdo [(1, 5, 0, 4, (11, 2), 0), (0, 11, 3, 0, (0, 0), 0)] (N31_8 M)
set_option maxRecDepth 100000 in
theorem T31_8 (d : Nat) (M : zM) (hn : znx M = 5) : zgo true (d + 2) 31 49 [zr 5 0, zu] [zr 11 2, zr 5 0] (N31_8 M) = zgo true (d + 2) 31 56 [zr 5 0, zu] [zr 11 3, zr 5 0] (N31_9 M) := by
  have hX : znx (N31_8 M) = 16 := H31_8 M hn
  have hf0 : zgR (N31_8 M) 5 0 0 = (29, 0) := G31_8_0 M
  generalize hN : N31_8 M = X at hX hf0 ⊢
  refine (B31_49 (d + 2) zu 2 X).trans ?_
  have hz : znx (zsR X 5 0 4 (11, 2)) = 16 := hX
  rw [hz]
  clear hz
  show zgo true (d + 2) 31 56 [zr 5 0, zu] [zr 11 3, zr 5 0] (znew (zsR X 5 0 4 (11, 2)) 11 3) = _
  rw [show znew (zsR X 5 0 4 (11, 2)) 11 3 = zdo [(1, 5, 0, 4, (11, 2), 0), (0, 11, 3, 0, (0, 0), 0)] X from rfl]
  subst hN
  rfl
theorem H31_9 (M : zM) (hn : znx M = 5) : znx (N31_9 M) = 17 := by
  show znx (zdo [(1, 5, 0, 4, (11, 2), 0), (0, 11, 3, 0, (0, 0), 0)] (N31_8 M)) = _
  rw [zdo_nx, H31_8 M hn]
  rfl
set_option maxRecDepth 100000 in
theorem G31_9_0 (M : zM) : zgR (N31_9 M) 5 0 0 = (29, 0) := by
  show zgR (zdo [(1, 5, 0, 4, (11, 2), 0), (0, 11, 3, 0, (0, 0), 0)] (N31_8 M)) 5 0 0 = _
  rw [zdo_R _ _ (by decide), G31_8_0 M]
def D120_3 : List zOp := [(0, 48, 3, 0, (0, 0), 0), (1, 11, 3, 0, (48, 3), 0), (0, 49, 3, 0, (0, 0), 0), (1, 11, 3, 1, (49, 3), 0)]
set_option maxRecDepth 100000 in
set_option maxHeartbeats 4000000 in
theorem C120_3 (d : Nat) (M : zM) (hn : znx M = 17) : zgo true d 120 0 [zr 11 3] [] M = some (none, zdo D120_3 M) := by
  refine (B120_0 d 3 M).trans ?_
  have hz : znx M = 17 := hn
  rw [hz]
  clear hz
  show zgo true d 120 10 [zr 11 3] [zr 48 3, zr 11 3] (znew M 48 3) = _
  generalize hM1 : znew M 48 3 = M1
  have hn1 : znx M1 = 18 := by rw [← hM1]; exact congrArg (· + 1) hn
  refine (B120_10 d 3 3 48 3 M1).trans ?_
  have hz : znx (zsR M1 11 3 0 (48, 3)) = 18 := hn1
  rw [hz]
  clear hz
  show zgo true d 120 19 [zr 11 3] [zr 49 3, zr 11 3] (znew (zsR M1 11 3 0 (48, 3)) 49 3) = _
  generalize hM2 : znew (zsR M1 11 3 0 (48, 3)) 49 3 = M2
  have hn2 : znx M2 = 19 := by rw [← hM2]; exact congrArg (· + 1) hn1
  clear hn1
  refine (B120_19 d 3 3 49 3 M2).trans ?_
  generalize hM3 : zsR M2 11 3 1 (49, 3) = M3
  have hn3 : znx M3 = 19 := by rw [← hM3]; exact hn2
  clear hn2
  subst hM3 hM2 hM1
  rfl
def N31_10 (M : zM) : zM := zdo D120_3 (N31_9 M)
set_option maxRecDepth 100000 in
theorem T31_9 (d : Nat) (M : zM) (hn : znx M = 5) : zgo true (d + 2) 31 56 [zr 5 0, zu] [zr 11 3, zr 5 0] (N31_9 M) = zgo true (d + 2) 31 60 [zr 5 0, zu] [zr 11 3, zr 5 0] (N31_10 M) := by
  have hX : znx (N31_9 M) = 17 := H31_9 M hn
  have hf0 : zgR (N31_9 M) 5 0 0 = (29, 0) := G31_9_0 M
  generalize hN : N31_9 M = X at hX hf0 ⊢
  refine (B31_56 (d + 1) zu 3 X).trans ?_
  show Option.bind (zgo true (d + 1) 120 0 [zr 11 3] [] (X)) _ = _
  refine zbind_of (C120_3 (d + 1) _ hX) ?_
  show zgo true (d + 2) 31 60 [zr 5 0, zu] [zr 11 3, zr 5 0] (zdo D120_3 (X)) = _
  subst hN
  rfl
theorem H31_10 (M : zM) (hn : znx M = 5) : znx (N31_10 M) = 19 := by
  show znx (zdo D120_3 (N31_9 M)) = _
  rw [zdo_nx, H31_9 M hn]
  rfl
set_option maxRecDepth 100000 in
theorem G31_10_0 (M : zM) : zgR (N31_10 M) 5 0 0 = (29, 0) := by
  show zgR (zdo D120_3 (N31_9 M)) 5 0 0 = _
  rw [zdo_R _ _ (by decide), G31_9_0 M]
def N31_11 (M : zM) : zM := zdo [(1, 5, 0, 5, (11, 3), 0), (0, 31, 0, 0, (0, 0), 0)] (N31_10 M)
set_option maxRecDepth 100000 in
theorem T31_10 (d : Nat) (M : zM) (hn : znx M = 5) : zgo true (d + 2) 31 60 [zr 5 0, zu] [zr 11 3, zr 5 0] (N31_10 M) = zgo true (d + 2) 31 68 [zr 5 0, zu] [zr 31 0, zr 5 0] (N31_11 M) := by
  have hX : znx (N31_10 M) = 19 := H31_10 M hn
  have hf0 : zgR (N31_10 M) 5 0 0 = (29, 0) := G31_10_0 M
  generalize hN : N31_10 M = X at hX hf0 ⊢
  refine (B31_60 (d + 2) zu 3 X).trans ?_
  have hz : znx (zsR X 5 0 5 (11, 3)) = 19 := hX
  rw [hz]
  clear hz
  show zgo true (d + 2) 31 68 [zr 5 0, zu] [zr 31 0, zr 5 0] (znew (zsR X 5 0 5 (11, 3)) 31 0) = _
  rw [show znew (zsR X 5 0 5 (11, 3)) 31 0 = zdo [(1, 5, 0, 5, (11, 3), 0), (0, 31, 0, 0, (0, 0), 0)] X from rfl]
  subst hN
  rfl
theorem H31_11 (M : zM) (hn : znx M = 5) : znx (N31_11 M) = 20 := by
  show znx (zdo [(1, 5, 0, 5, (11, 3), 0), (0, 31, 0, 0, (0, 0), 0)] (N31_10 M)) = _
  rw [zdo_nx, H31_10 M hn]
  rfl
set_option maxRecDepth 100000 in
theorem G31_11_0 (M : zM) : zgR (N31_11 M) 5 0 0 = (29, 0) := by
  show zgR (zdo [(1, 5, 0, 5, (11, 3), 0), (0, 31, 0, 0, (0, 0), 0)] (N31_10 M)) 5 0 0 = _
  rw [zdo_R _ _ (by decide), G31_10_0 M]
def N31_12 (M : zM) : zM := zdo [(1, 5, 0, 6, (31, 0), 0), (0, 7, 0, 0, (0, 0), 0)] (N31_11 M)
set_option maxRecDepth 100000 in
theorem T31_11 (d : Nat) (M : zM) (hn : znx M = 5) : zgo true (d + 2) 31 68 [zr 5 0, zu] [zr 31 0, zr 5 0] (N31_11 M) = zgo true (d + 2) 31 75 [zr 5 0, zu] [zr 7 0, zr 5 0] (N31_12 M) := by
  have hX : znx (N31_11 M) = 20 := H31_11 M hn
  have hf0 : zgR (N31_11 M) 5 0 0 = (29, 0) := G31_11_0 M
  generalize hN : N31_11 M = X at hX hf0 ⊢
  refine (B31_68 (d + 2) zu 31 0 X).trans ?_
  have hz : znx (zsR X 5 0 6 (31, 0)) = 20 := hX
  rw [hz]
  clear hz
  show zgo true (d + 2) 31 75 [zr 5 0, zu] [zr 7 0, zr 5 0] (znew (zsR X 5 0 6 (31, 0)) 7 0) = _
  rw [show znew (zsR X 5 0 6 (31, 0)) 7 0 = zdo [(1, 5, 0, 6, (31, 0), 0), (0, 7, 0, 0, (0, 0), 0)] X from rfl]
  subst hN
  rfl
theorem H31_12 (M : zM) (hn : znx M = 5) : znx (N31_12 M) = 21 := by
  show znx (zdo [(1, 5, 0, 6, (31, 0), 0), (0, 7, 0, 0, (0, 0), 0)] (N31_11 M)) = _
  rw [zdo_nx, H31_11 M hn]
  rfl
set_option maxRecDepth 100000 in
theorem G31_12_0 (M : zM) : zgR (N31_12 M) 5 0 0 = (29, 0) := by
  show zgR (zdo [(1, 5, 0, 6, (31, 0), 0), (0, 7, 0, 0, (0, 0), 0)] (N31_11 M)) 5 0 0 = _
  rw [zdo_R _ _ (by decide), G31_11_0 M]
def D58_0 : List zOp := [(0, 33, 0, 0, (0, 0), 0), (1, 7, 0, 0, (33, 0), 0), (0, 34, 0, 0, (0, 0), 0), (1, 7, 0, 1, (34, 0), 0), (0, 35, 0, 0, (0, 0), 0), (1, 7, 0, 2, (35, 0), 0), (0, 36, 0, 0, (0, 0), 0), (1, 7, 0, 3, (36, 0), 0), (0, 37, 0, 0, (0, 0), 0), (1, 7, 0, 4, (37, 0), 0), (0, 38, 0, 0, (0, 0), 0), (1, 7, 0, 5, (38, 0), 0), (0, 39, 0, 0, (0, 0), 0), (1, 7, 0, 6, (39, 0), 0), (0, 40, 0, 0, (0, 0), 0), (1, 7, 0, 7, (40, 0), 0), (0, 41, 0, 0, (0, 0), 0), (1, 7, 0, 8, (41, 0), 0), (0, 42, 0, 0, (0, 0), 0), (1, 7, 0, 9, (42, 0), 0), (3, 35, 0, 0, (0, 0), 0)]
set_option maxRecDepth 100000 in
set_option maxHeartbeats 4000000 in
theorem C58_0 (d : Nat) (M : zM) (hn : znx M = 21) : zgo true (d + 1) 58 0 [zr 7 0, zu, zu, zu] [] M = some (none, zdo D58_0 M) := by
  refine (B58_0 (d + 1) 0 zu zu zu M).trans ?_
  have hz : znx (M) = 21 := hn
  rw [hz]
  clear hz
  show zgo true (d + 1) 58 9 [zr 7 0, zu, zu, zu] [zr 33 0, zr 7 0] (znew (M) 33 0) = _
  generalize hM1 : znew (M) 33 0 = M1
  have hn1 : znx M1 = 22 := by rw [← hM1]; exact congrArg (· + 1) hn
  refine (B58_9 (d + 1) 0 zu zu zu 0 33 0 M1).trans ?_
  have hz : znx (zsR M1 7 0 0 (33, 0)) = 22 := hn1
  rw [hz]
  clear hz
  show zgo true (d + 1) 58 16 [zr 7 0, zu, zu, zu] [zr 34 0, zr 7 0] (znew (zsR M1 7 0 0 (33, 0)) 34 0) = _
  generalize hM2 : znew (zsR M1 7 0 0 (33, 0)) 34 0 = M2
  have hn2 : znx M2 = 23 := by rw [← hM2]; exact congrArg (· + 1) hn1
  refine (B58_16 (d + 1) 0 zu zu zu 0 34 0 M2).trans ?_
  have hz : znx (zsR M2 7 0 1 (34, 0)) = 23 := hn2
  rw [hz]
  clear hz
  show zgo true (d + 1) 58 25 [zr 7 0, zu, zu, zu] [zr 35 0, zr 7 0] (znew (zsR M2 7 0 1 (34, 0)) 35 0) = _
  generalize hM3 : znew (zsR M2 7 0 1 (34, 0)) 35 0 = M3
  have hn3 : znx M3 = 24 := by rw [← hM3]; exact congrArg (· + 1) hn2
  refine (B58_25 (d + 1) 0 zu zu zu 0 35 0 M3).trans ?_
  show zgo true (d + 1) 58 28 [zr 7 0, zu, zu, zu] [] (zsR M3 7 0 2 (35, 0)) = _
  generalize hM4 : zsR M3 7 0 2 (35, 0) = M4
  have hn4 : znx M4 = 24 := by rw [← hM4]; exact hn3
  refine (B58_28 (d + 1) 0 zu zu zu M4).trans ?_
  have hz : znx (M4) = 24 := hn4
  rw [hz]
  clear hz
  show zgo true (d + 1) 58 34 [zr 7 0, zu, zu, zu] [zr 36 0, zr 7 0] (znew (M4) 36 0) = _
  generalize hM5 : znew (M4) 36 0 = M5
  have hn5 : znx M5 = 25 := by rw [← hM5]; exact congrArg (· + 1) hn4
  refine (B58_34 (d + 1) 0 zu zu zu 0 36 0 M5).trans ?_
  have hz : znx (zsR M5 7 0 3 (36, 0)) = 25 := hn5
  rw [hz]
  clear hz
  show zgo true (d + 1) 58 42 [zr 7 0, zu, zu, zu] [zr 37 0, zr 7 0] (znew (zsR M5 7 0 3 (36, 0)) 37 0) = _
  generalize hM6 : znew (zsR M5 7 0 3 (36, 0)) 37 0 = M6
  have hn6 : znx M6 = 26 := by rw [← hM6]; exact congrArg (· + 1) hn5
  refine (B58_42 (d + 1) 0 zu zu zu 0 37 0 M6).trans ?_
  have hz : znx (zsR M6 7 0 4 (37, 0)) = 26 := hn6
  rw [hz]
  clear hz
  show zgo true (d + 1) 58 50 [zr 7 0, zu, zu, zu] [zr 38 0, zr 7 0] (znew (zsR M6 7 0 4 (37, 0)) 38 0) = _
  generalize hM7 : znew (zsR M6 7 0 4 (37, 0)) 38 0 = M7
  have hn7 : znx M7 = 27 := by rw [← hM7]; exact congrArg (· + 1) hn6
  refine (B58_50 (d + 1) 0 zu zu zu 0 38 0 M7).trans ?_
  show zgo true (d + 1) 58 53 [zr 7 0, zu, zu, zu] [] (zsR M7 7 0 5 (38, 0)) = _
  generalize hM8 : zsR M7 7 0 5 (38, 0) = M8
  have hn8 : znx M8 = 27 := by rw [← hM8]; exact hn7
  refine (B58_53 (d + 1) 0 zu zu zu M8).trans ?_
  have hz : znx (M8) = 27 := hn8
  rw [hz]
  clear hz
  show zgo true (d + 1) 58 58 [zr 7 0, zu, zu, zu] [zr 39 0, zr 7 0] (znew (M8) 39 0) = _
  generalize hM9 : znew (M8) 39 0 = M9
  have hn9 : znx M9 = 28 := by rw [← hM9]; exact congrArg (· + 1) hn8
  refine (B58_58 (d + 1) 0 zu zu zu 0 39 0 M9).trans ?_
  have hz : znx (zsR M9 7 0 6 (39, 0)) = 28 := hn9
  rw [hz]
  clear hz
  show zgo true (d + 1) 58 66 [zr 7 0, zu, zu, zu] [zr 40 0, zr 7 0] (znew (zsR M9 7 0 6 (39, 0)) 40 0) = _
  generalize hM10 : znew (zsR M9 7 0 6 (39, 0)) 40 0 = M10
  have hn10 : znx M10 = 29 := by rw [← hM10]; exact congrArg (· + 1) hn9
  refine (B58_66 (d + 1) 0 zu zu zu 0 40 0 M10).trans ?_
  have hz : znx (zsR M10 7 0 7 (40, 0)) = 29 := hn10
  rw [hz]
  clear hz
  show zgo true (d + 1) 58 75 [zr 7 0, zu, zu, zu] [zr 41 0, zr 7 0] (znew (zsR M10 7 0 7 (40, 0)) 41 0) = _
  generalize hM11 : znew (zsR M10 7 0 7 (40, 0)) 41 0 = M11
  have hn11 : znx M11 = 30 := by rw [← hM11]; exact congrArg (· + 1) hn10
  refine (B58_75 (d + 1) 0 zu zu zu 0 41 0 M11).trans ?_
  show zgo true (d + 1) 58 78 [zr 7 0, zu, zu, zu] [] (zsR M11 7 0 8 (41, 0)) = _
  generalize hM12 : zsR M11 7 0 8 (41, 0) = M12
  have hn12 : znx M12 = 30 := by rw [← hM12]; exact hn11
  refine (B58_78 (d + 1) 0 zu zu zu M12).trans ?_
  have hz : znx (M12) = 30 := hn12
  rw [hz]
  clear hz
  show zgo true (d + 1) 58 83 [zr 7 0, zu, zu, zu] [zr 42 0, zr 7 0] (znew (M12) 42 0) = _
  generalize hM13 : znew (M12) 42 0 = M13
  have hn13 : znx M13 = 31 := by rw [← hM13]; exact congrArg (· + 1) hn12
  refine (B58_83 (d + 1) 0 zu zu zu 0 42 0 M13).trans ?_
  show zgo true (d + 1) 58 88 [zr 7 0, zi 0, zu, zu] [] (zsR M13 7 0 9 (42, 0)) = _
  generalize hM14 : zsR M13 7 0 9 (42, 0) = M14
  have hn14 : znx M14 = 31 := by rw [← hM14]; exact hn13
  refine (O_loop d 0 M14 (by subst hM14 hM13 hM12 hM11 hM10 hM9 hM8 hM7 hM6 hM5 hM4 hM3 hM2 hM1; rfl)).trans ?_
  subst hM14 hM13 hM12 hM11 hM10 hM9 hM8 hM7 hM6 hM5 hM4 hM3 hM2 hM1
  rfl
def N31_13 (M : zM) : zM := zdo D58_0 (N31_12 M)
set_option maxRecDepth 100000 in
theorem T31_12 (d : Nat) (M : zM) (hn : znx M = 5) : zgo true (d + 2) 31 75 [zr 5 0, zu] [zr 7 0, zr 5 0] (N31_12 M) = zgo true (d + 2) 31 79 [zr 5 0, zu] [zr 7 0, zr 5 0] (N31_13 M) := by
  have hX : znx (N31_12 M) = 21 := H31_12 M hn
  have hf0 : zgR (N31_12 M) 5 0 0 = (29, 0) := G31_12_0 M
  generalize hN : N31_12 M = X at hX hf0 ⊢
  refine (B31_75 (d + 1) zu 0 X).trans ?_
  show Option.bind (zgo true (d + 1) 58 0 [zr 7 0, zu, zu, zu] [] (X)) _ = _
  refine zbind_of (C58_0 d _ hX) ?_
  show zgo true (d + 2) 31 79 [zr 5 0, zu] [zr 7 0, zr 5 0] (zdo D58_0 (X)) = _
  subst hN
  rfl
theorem H31_13 (M : zM) (hn : znx M = 5) : znx (N31_13 M) = 31 := by
  show znx (zdo D58_0 (N31_12 M)) = _
  rw [zdo_nx, H31_12 M hn]
  rfl
set_option maxRecDepth 100000 in
theorem G31_13_0 (M : zM) : zgR (N31_13 M) 5 0 0 = (29, 0) := by
  show zgR (zdo D58_0 (N31_12 M)) 5 0 0 = _
  rw [zdo_R _ _ (by decide), G31_12_0 M]
def N31_14 (M : zM) : zM := zdo [(1, 5, 0, 7, (7, 0), 0), (0, 10, 1, 0, (0, 0), 0)] (N31_13 M)
set_option maxRecDepth 100000 in
theorem T31_13 (d : Nat) (M : zM) (hn : znx M = 5) : zgo true (d + 2) 31 79 [zr 5 0, zu] [zr 7 0, zr 5 0] (N31_13 M) = zgo true (d + 2) 31 86 [zr 5 0, zu] [zr 10 1, zr 5 0] (N31_14 M) := by
  have hX : znx (N31_13 M) = 31 := H31_13 M hn
  have hf0 : zgR (N31_13 M) 5 0 0 = (29, 0) := G31_13_0 M
  generalize hN : N31_13 M = X at hX hf0 ⊢
  refine (B31_79 (d + 2) zu 0 X).trans ?_
  have hz : znx (zsR X 5 0 7 (7, 0)) = 31 := hX
  rw [hz]
  clear hz
  show zgo true (d + 2) 31 86 [zr 5 0, zu] [zr 10 1, zr 5 0] (znew (zsR X 5 0 7 (7, 0)) 10 1) = _
  rw [show znew (zsR X 5 0 7 (7, 0)) 10 1 = zdo [(1, 5, 0, 7, (7, 0), 0), (0, 10, 1, 0, (0, 0), 0)] X from rfl]
  subst hN
  rfl
theorem H31_14 (M : zM) (hn : znx M = 5) : znx (N31_14 M) = 32 := by
  show znx (zdo [(1, 5, 0, 7, (7, 0), 0), (0, 10, 1, 0, (0, 0), 0)] (N31_13 M)) = _
  rw [zdo_nx, H31_13 M hn]
  rfl
set_option maxRecDepth 100000 in
theorem G31_14_0 (M : zM) : zgR (N31_14 M) 5 0 0 = (29, 0) := by
  show zgR (zdo [(1, 5, 0, 7, (7, 0), 0), (0, 10, 1, 0, (0, 0), 0)] (N31_13 M)) 5 0 0 = _
  rw [zdo_R _ _ (by decide), G31_13_0 M]
def D107_1 : List zOp := [(0, 46, 1, 0, (0, 0), 0), (1, 10, 1, 0, (46, 1), 0), (0, 47, 1, 0, (0, 0), 0), (1, 10, 1, 1, (47, 1), 0), (2, 10, 1, 2, (0, 0), 6), (2, 10, 1, 3, (0, 0), 75), (2, 10, 1, 9, (0, 0), 1)]
set_option maxRecDepth 100000 in
set_option maxHeartbeats 4000000 in
theorem C107_1 (d : Nat) (M : zM) (hn : znx M = 32) : zgo true d 107 0 [zr 10 1] [] M = some (none, zdo D107_1 M) := by
  refine (B107_0 d 1 M).trans ?_
  have hz : znx M = 32 := hn
  rw [hz]
  clear hz
  show zgo true d 107 10 [zr 10 1] [zr 46 1, zr 10 1] (znew M 46 1) = _
  generalize hM1 : znew M 46 1 = M1
  have hn1 : znx M1 = 33 := by rw [← hM1]; exact congrArg (· + 1) hn
  refine (B107_10 d 1 1 46 1 M1).trans ?_
  have hz : znx (zsR M1 10 1 0 (46, 1)) = 33 := hn1
  rw [hz]
  clear hz
  show zgo true d 107 18 [zr 10 1] [zr 47 1, zr 10 1] (znew (zsR M1 10 1 0 (46, 1)) 47 1) = _
  generalize hM2 : znew (zsR M1 10 1 0 (46, 1)) 47 1 = M2
  have hn2 : znx M2 = 34 := by rw [← hM2]; exact congrArg (· + 1) hn1
  clear hn1
  refine (B107_18 d 1 1 47 1 M2).trans ?_
  show zgo true d 107 27 [zr 10 1] [] (zsI (zsR M2 10 1 1 (47, 1)) 10 1 2 6) = _
  generalize hM3 : zsI (zsR M2 10 1 1 (47, 1)) 10 1 2 6 = M3
  have hn3 : znx M3 = 34 := by rw [← hM3]; exact hn2
  clear hn2
  refine (B107_27 d 1 M3).trans ?_
  generalize hM4 : zsI (zsI M3 10 1 3 75) 10 1 9 1 = M4
  have hn4 : znx M4 = 34 := by rw [← hM4]; exact hn3
  clear hn3
  subst hM4 hM3 hM2 hM1
  rfl
def N31_15 (M : zM) : zM := zdo D107_1 (N31_14 M)
set_option maxRecDepth 100000 in
theorem T31_14 (d : Nat) (M : zM) (hn : znx M = 5) : zgo true (d + 2) 31 86 [zr 5 0, zu] [zr 10 1, zr 5 0] (N31_14 M) = zgo true (d + 2) 31 90 [zr 5 0, zu] [zr 10 1, zr 5 0] (N31_15 M) := by
  have hX : znx (N31_14 M) = 32 := H31_14 M hn
  have hf0 : zgR (N31_14 M) 5 0 0 = (29, 0) := G31_14_0 M
  generalize hN : N31_14 M = X at hX hf0 ⊢
  refine (B31_86 (d + 1) zu 1 X).trans ?_
  show Option.bind (zgo true (d + 1) 107 0 [zr 10 1] [] (X)) _ = _
  refine zbind_of (C107_1 (d + 1) _ hX) ?_
  show zgo true (d + 2) 31 90 [zr 5 0, zu] [zr 10 1, zr 5 0] (zdo D107_1 (X)) = _
  subst hN
  rfl
theorem H31_15 (M : zM) (hn : znx M = 5) : znx (N31_15 M) = 34 := by
  show znx (zdo D107_1 (N31_14 M)) = _
  rw [zdo_nx, H31_14 M hn]
  rfl
set_option maxRecDepth 100000 in
theorem G31_15_0 (M : zM) : zgR (N31_15 M) 5 0 0 = (29, 0) := by
  show zgR (zdo D107_1 (N31_14 M)) 5 0 0 = _
  rw [zdo_R _ _ (by decide), G31_14_0 M]
def N31_16 (M : zM) : zM := zdo [(1, 5, 0, 8, (10, 1), 0), (0, 2, 10, 0, (0, 0), 0)] (N31_15 M)
set_option maxRecDepth 100000 in
theorem T31_15 (d : Nat) (M : zM) (hn : znx M = 5) : zgo true (d + 2) 31 90 [zr 5 0, zu] [zr 10 1, zr 5 0] (N31_15 M) = zgo true (d + 2) 31 97 [zr 5 0, zu] [zr 2 10, zr 5 0] (N31_16 M) := by
  have hX : znx (N31_15 M) = 34 := H31_15 M hn
  have hf0 : zgR (N31_15 M) 5 0 0 = (29, 0) := G31_15_0 M
  generalize hN : N31_15 M = X at hX hf0 ⊢
  refine (B31_90 (d + 2) zu 1 X).trans ?_
  have hz : znx (zsR X 5 0 8 (10, 1)) = 34 := hX
  rw [hz]
  clear hz
  show zgo true (d + 2) 31 97 [zr 5 0, zu] [zr 2 10, zr 5 0] (znew (zsR X 5 0 8 (10, 1)) 2 10) = _
  rw [show znew (zsR X 5 0 8 (10, 1)) 2 10 = zdo [(1, 5, 0, 8, (10, 1), 0), (0, 2, 10, 0, (0, 0), 0)] X from rfl]
  subst hN
  rfl
theorem H31_16 (M : zM) (hn : znx M = 5) : znx (N31_16 M) = 35 := by
  show znx (zdo [(1, 5, 0, 8, (10, 1), 0), (0, 2, 10, 0, (0, 0), 0)] (N31_15 M)) = _
  rw [zdo_nx, H31_15 M hn]
  rfl
set_option maxRecDepth 100000 in
theorem G31_16_0 (M : zM) : zgR (N31_16 M) 5 0 0 = (29, 0) := by
  show zgR (zdo [(1, 5, 0, 8, (10, 1), 0), (0, 2, 10, 0, (0, 0), 0)] (N31_15 M)) 5 0 0 = _
  rw [zdo_R _ _ (by decide), G31_15_0 M]
set_option maxRecDepth 100000 in
theorem G31_16_1 (M : zM) : zgR (N31_16 M) 5 0 8 = (10, 1) := by
  show zgR (zdo [(1, 5, 0, 8, (10, 1), 0), (0, 2, 10, 0, (0, 0), 0)] (N31_15 M)) 5 0 8 = _
  generalize N31_15 M = X
  rfl
def D9_10 : List zOp := []
set_option maxRecDepth 100000 in
set_option maxHeartbeats 4000000 in
theorem C9_10 (d : Nat) (M : zM) (hn : znx M = 35) : zgo true d 9 0 [zr 2 10] [] M = some (none, zdo D9_10 M) := by
  refine (B9_0 d 10 M).trans ?_
  rw [show zdo D9_10 M = M by unfold zdo D9_10; rw [List.foldl_nil]]
set_option maxRecDepth 100000 in
theorem T31_16 (d : Nat) (M : zM) (hn : znx M = 5) : zgo true (d + 2) 31 97 [zr 5 0, zu] [zr 2 10, zr 5 0] (N31_16 M) = zgo true (d + 2) 31 101 [zr 5 0, zu] [zr 2 10, zr 5 0] (N31_16 M) := by
  have hX : znx (N31_16 M) = 35 := H31_16 M hn
  have hf0 : zgR (N31_16 M) 5 0 0 = (29, 0) := G31_16_0 M
  have hf1 : zgR (N31_16 M) 5 0 8 = (10, 1) := G31_16_1 M
  generalize hN : N31_16 M = X at hX hf0 hf1 ⊢
  refine (B31_97 (d + 1) zu 10 X).trans ?_
  show Option.bind (zgo true (d + 1) 9 0 [zr 2 10] [] (X)) _ = _
  refine zbind_of (C9_10 (d + 1) _ hX) ?_
  show zgo true (d + 2) 31 101 [zr 5 0, zu] [zr 2 10, zr 5 0] (zdo D9_10 (X)) = _
  rw [show zdo D9_10 (X) = X by unfold zdo D9_10; rw [List.foldl_nil]]
  skip
def N31_17 (M : zM) : zM := zdo [(1, 5, 0, 9, (2, 10), 0), (0, 4, 60, 0, (0, 0), 0)] (N31_16 M)
set_option maxRecDepth 100000 in
theorem T31_17 (d : Nat) (M : zM) (hn : znx M = 5) : zgo true (d + 2) 31 101 [zr 5 0, zu] [zr 2 10, zr 5 0] (N31_16 M) = zgo true (d + 2) 31 108 [zr 5 0, zu] [zr 4 60, zr 5 0] (N31_17 M) := by
  have hX : znx (N31_16 M) = 35 := H31_16 M hn
  have hf0 : zgR (N31_16 M) 5 0 0 = (29, 0) := G31_16_0 M
  have hf1 : zgR (N31_16 M) 5 0 8 = (10, 1) := G31_16_1 M
  generalize hN : N31_16 M = X at hX hf0 hf1 ⊢
  refine (B31_101 (d + 2) zu 10 X).trans ?_
  have hz : znx (zsR X 5 0 9 (2, 10)) = 35 := hX
  rw [hz]
  clear hz
  show zgo true (d + 2) 31 108 [zr 5 0, zu] [zr 4 60, zr 5 0] (znew (zsR X 5 0 9 (2, 10)) 4 60) = _
  rw [show znew (zsR X 5 0 9 (2, 10)) 4 60 = zdo [(1, 5, 0, 9, (2, 10), 0), (0, 4, 60, 0, (0, 0), 0)] X from rfl]
  subst hN
  rfl
theorem H31_17 (M : zM) (hn : znx M = 5) : znx (N31_17 M) = 36 := by
  show znx (zdo [(1, 5, 0, 9, (2, 10), 0), (0, 4, 60, 0, (0, 0), 0)] (N31_16 M)) = _
  rw [zdo_nx, H31_16 M hn]
  rfl
set_option maxRecDepth 100000 in
theorem G31_17_0 (M : zM) : zgR (N31_17 M) 5 0 0 = (29, 0) := by
  show zgR (zdo [(1, 5, 0, 9, (2, 10), 0), (0, 4, 60, 0, (0, 0), 0)] (N31_16 M)) 5 0 0 = _
  rw [zdo_R _ _ (by decide), G31_16_0 M]
set_option maxRecDepth 100000 in
theorem G31_17_1 (M : zM) : zgR (N31_17 M) 5 0 8 = (10, 1) := by
  show zgR (zdo [(1, 5, 0, 9, (2, 10), 0), (0, 4, 60, 0, (0, 0), 0)] (N31_16 M)) 5 0 8 = _
  rw [zdo_R _ _ (by decide), G31_16_1 M]
set_option maxRecDepth 100000 in
theorem G31_17_2 (M : zM) : zgR (N31_17 M) 5 0 9 = (2, 10) := by
  show zgR (zdo [(1, 5, 0, 9, (2, 10), 0), (0, 4, 60, 0, (0, 0), 0)] (N31_16 M)) 5 0 9 = _
  generalize N31_16 M = X
  rfl
def D20_60 : List zOp := [(0, 24, 60, 0, (0, 0), 0), (1, 4, 60, 0, (24, 60), 0), (0, 25, 60, 0, (0, 0), 0), (1, 4, 60, 1, (25, 60), 0), (0, 26, 60, 0, (0, 0), 0), (1, 4, 60, 2, (26, 60), 0), (0, 27, 60, 0, (0, 0), 0), (1, 4, 60, 3, (27, 60), 0), (0, 28, 60, 0, (0, 0), 0), (1, 4, 60, 4, (28, 60), 0)]
set_option maxRecDepth 100000 in
set_option maxHeartbeats 4000000 in
theorem C20_60 (d : Nat) (M : zM) (hn : znx M = 36) : zgo true d 20 0 [zr 4 60] [] M = some (none, zdo D20_60 M) := by
  refine (B20_0 d 60 M).trans ?_
  have hz : znx M = 36 := hn
  rw [hz]
  clear hz
  show zgo true d 20 9 [zr 4 60] [zr 24 60, zr 4 60] (znew M 24 60) = _
  generalize hM1 : znew M 24 60 = M1
  have hn1 : znx M1 = 37 := by rw [← hM1]; exact congrArg (· + 1) hn
  refine (B20_9 d 60 60 24 60 M1).trans ?_
  have hz : znx (zsR M1 4 60 0 (24, 60)) = 37 := hn1
  rw [hz]
  clear hz
  show zgo true d 20 17 [zr 4 60] [zr 25 60, zr 4 60] (znew (zsR M1 4 60 0 (24, 60)) 25 60) = _
  generalize hM2 : znew (zsR M1 4 60 0 (24, 60)) 25 60 = M2
  have hn2 : znx M2 = 38 := by rw [← hM2]; exact congrArg (· + 1) hn1
  clear hn1
  refine (B20_17 d 60 60 25 60 M2).trans ?_
  have hz : znx (zsR M2 4 60 1 (25, 60)) = 38 := hn2
  rw [hz]
  clear hz
  show zgo true d 20 25 [zr 4 60] [zr 26 60, zr 4 60] (znew (zsR M2 4 60 1 (25, 60)) 26 60) = _
  generalize hM3 : znew (zsR M2 4 60 1 (25, 60)) 26 60 = M3
  have hn3 : znx M3 = 39 := by rw [← hM3]; exact congrArg (· + 1) hn2
  clear hn2
  refine (B20_25 d 60 60 26 60 M3).trans ?_
  show zgo true d 20 28 [zr 4 60] [] (zsR M3 4 60 2 (26, 60)) = _
  generalize hM4 : zsR M3 4 60 2 (26, 60) = M4
  have hn4 : znx M4 = 39 := by rw [← hM4]; exact hn3
  clear hn3
  refine (B20_28 d 60 M4).trans ?_
  have hz : znx M4 = 39 := hn4
  rw [hz]
  clear hz
  show zgo true d 20 33 [zr 4 60] [zr 27 60, zr 4 60] (znew M4 27 60) = _
  generalize hM5 : znew M4 27 60 = M5
  have hn5 : znx M5 = 40 := by rw [← hM5]; exact congrArg (· + 1) hn4
  clear hn4
  refine (B20_33 d 60 60 27 60 M5).trans ?_
  have hz : znx (zsR M5 4 60 3 (27, 60)) = 40 := hn5
  rw [hz]
  clear hz
  show zgo true d 20 41 [zr 4 60] [zr 28 60, zr 4 60] (znew (zsR M5 4 60 3 (27, 60)) 28 60) = _
  generalize hM6 : znew (zsR M5 4 60 3 (27, 60)) 28 60 = M6
  have hn6 : znx M6 = 41 := by rw [← hM6]; exact congrArg (· + 1) hn5
  clear hn5
  refine (B20_41 d 60 60 28 60 M6).trans ?_
  generalize hM7 : zsR M6 4 60 4 (28, 60) = M7
  have hn7 : znx M7 = 41 := by rw [← hM7]; exact hn6
  clear hn6
  subst hM7 hM6 hM5 hM4 hM3 hM2 hM1
  rfl
def N31_18 (M : zM) : zM := zdo D20_60 (N31_17 M)
set_option maxRecDepth 100000 in
theorem T31_18 (d : Nat) (M : zM) (hn : znx M = 5) : zgo true (d + 2) 31 108 [zr 5 0, zu] [zr 4 60, zr 5 0] (N31_17 M) = zgo true (d + 2) 31 112 [zr 5 0, zu] [zr 4 60, zr 5 0] (N31_18 M) := by
  have hX : znx (N31_17 M) = 36 := H31_17 M hn
  have hf0 : zgR (N31_17 M) 5 0 0 = (29, 0) := G31_17_0 M
  have hf1 : zgR (N31_17 M) 5 0 8 = (10, 1) := G31_17_1 M
  have hf2 : zgR (N31_17 M) 5 0 9 = (2, 10) := G31_17_2 M
  generalize hN : N31_17 M = X at hX hf0 hf1 hf2 ⊢
  refine (B31_108 (d + 1) zu 60 X).trans ?_
  show Option.bind (zgo true (d + 1) 20 0 [zr 4 60] [] (X)) _ = _
  refine zbind_of (C20_60 (d + 1) _ hX) ?_
  show zgo true (d + 2) 31 112 [zr 5 0, zu] [zr 4 60, zr 5 0] (zdo D20_60 (X)) = _
  subst hN
  rfl
theorem H31_18 (M : zM) (hn : znx M = 5) : znx (N31_18 M) = 41 := by
  show znx (zdo D20_60 (N31_17 M)) = _
  rw [zdo_nx, H31_17 M hn]
  rfl
set_option maxRecDepth 100000 in
theorem G31_18_0 (M : zM) : zgR (N31_18 M) 5 0 0 = (29, 0) := by
  show zgR (zdo D20_60 (N31_17 M)) 5 0 0 = _
  rw [zdo_R _ _ (by decide), G31_17_0 M]
set_option maxRecDepth 100000 in
theorem G31_18_1 (M : zM) : zgR (N31_18 M) 5 0 8 = (10, 1) := by
  show zgR (zdo D20_60 (N31_17 M)) 5 0 8 = _
  rw [zdo_R _ _ (by decide), G31_17_1 M]
set_option maxRecDepth 100000 in
theorem G31_18_2 (M : zM) : zgR (N31_18 M) 5 0 9 = (2, 10) := by
  show zgR (zdo D20_60 (N31_17 M)) 5 0 9 = _
  rw [zdo_R _ _ (by decide), G31_17_2 M]
def N31_19 (M : zM) : zM := zdo [(1, 5, 0, 10, (4, 60), 0), (1, 5, 0, 11, (10, 1), 0), (1, 5, 0, 12, (2, 10), 0), (1, 5, 0, 13, (4, 60), 0)] (N31_18 M)
set_option maxRecDepth 100000 in
theorem T31_19 (d : Nat) (M : zM) (hn : znx M = 5) : zgo true (d + 2) 31 112 [zr 5 0, zu] [zr 4 60, zr 5 0] (N31_18 M) = zgo true (d + 2) 31 139 [zr 5 0, zu] [] (N31_19 M) := by
  have hX : znx (N31_18 M) = 41 := H31_18 M hn
  have hf0 : zgR (N31_18 M) 5 0 0 = (29, 0) := G31_18_0 M
  have hf1 : zgR (N31_18 M) 5 0 8 = (10, 1) := G31_18_1 M
  have hf2 : zgR (N31_18 M) 5 0 9 = (2, 10) := G31_18_2 M
  generalize hN : N31_18 M = X at hX hf0 hf1 hf2 ⊢
  refine (B31_112 (d + 2) zu 60 X).trans ?_
  rw [show zgR (zsR X 5 0 10 (4, 60)) 5 0 8 = (10, 1) from hf1]
  rw [show zgR (zsR (zsR X 5 0 10 (4, 60)) 5 0 11 (10, 1)) 5 0 9 = (2, 10) from hf2]
  rw [show zgR (zsR (zsR (zsR X 5 0 10 (4, 60)) 5 0 11 (10, 1)) 5 0 12 (2, 10)) 5 0 10 = (4, 60) from rfl]
  show zgo true (d + 2) 31 139 [zr 5 0, zu] [] (zsR (zsR (zsR (zsR X 5 0 10 (4, 60)) 5 0 11 (10, 1)) 5 0 12 (2, 10)) 5 0 13 (4, 60)) = _
  rw [show zsR (zsR (zsR (zsR X 5 0 10 (4, 60)) 5 0 11 (10, 1)) 5 0 12 (2, 10)) 5 0 13 (4, 60) = zdo [(1, 5, 0, 10, (4, 60), 0), (1, 5, 0, 11, (10, 1), 0), (1, 5, 0, 12, (2, 10), 0), (1, 5, 0, 13, (4, 60), 0)] X from rfl]
  subst hN
  rfl
theorem H31_19 (M : zM) (hn : znx M = 5) : znx (N31_19 M) = 41 := by
  show znx (zdo [(1, 5, 0, 10, (4, 60), 0), (1, 5, 0, 11, (10, 1), 0), (1, 5, 0, 12, (2, 10), 0), (1, 5, 0, 13, (4, 60), 0)] (N31_18 M)) = _
  rw [zdo_nx, H31_18 M hn]
  rfl
set_option maxRecDepth 100000 in
theorem G31_19_0 (M : zM) : zgR (N31_19 M) 5 0 0 = (29, 0) := by
  show zgR (zdo [(1, 5, 0, 10, (4, 60), 0), (1, 5, 0, 11, (10, 1), 0), (1, 5, 0, 12, (2, 10), 0), (1, 5, 0, 13, (4, 60), 0)] (N31_18 M)) 5 0 0 = _
  rw [zdo_R _ _ (by decide), G31_18_0 M]
set_option maxRecDepth 100000 in
theorem G31_19_1 (M : zM) : zgR (N31_19 M) 5 0 8 = (10, 1) := by
  show zgR (zdo [(1, 5, 0, 10, (4, 60), 0), (1, 5, 0, 11, (10, 1), 0), (1, 5, 0, 12, (2, 10), 0), (1, 5, 0, 13, (4, 60), 0)] (N31_18 M)) 5 0 8 = _
  rw [zdo_R _ _ (by decide), G31_18_1 M]
set_option maxRecDepth 100000 in
theorem G31_19_2 (M : zM) : zgR (N31_19 M) 5 0 9 = (2, 10) := by
  show zgR (zdo [(1, 5, 0, 10, (4, 60), 0), (1, 5, 0, 11, (10, 1), 0), (1, 5, 0, 12, (2, 10), 0), (1, 5, 0, 13, (4, 60), 0)] (N31_18 M)) 5 0 9 = _
  rw [zdo_R _ _ (by decide), G31_18_2 M]
set_option maxRecDepth 100000 in
theorem G31_19_3 (M : zM) : zgR (N31_19 M) 5 0 10 = (4, 60) := by
  show zgR (zdo [(1, 5, 0, 10, (4, 60), 0), (1, 5, 0, 11, (10, 1), 0), (1, 5, 0, 12, (2, 10), 0), (1, 5, 0, 13, (4, 60), 0)] (N31_18 M)) 5 0 10 = _
  generalize N31_18 M = X
  rfl
set_option maxRecDepth 100000 in
theorem T31_20 (d : Nat) (M : zM) (hn : znx M = 5) : zgo true (d + 2) 31 139 [zr 5 0, zu] [] (N31_19 M) = zgo true (d + 2) 31 141 [zr 5 0, zi 0] [] (N31_19 M) := by
  have hX : znx (N31_19 M) = 41 := H31_19 M hn
  have hf0 : zgR (N31_19 M) 5 0 0 = (29, 0) := G31_19_0 M
  have hf1 : zgR (N31_19 M) 5 0 8 = (10, 1) := G31_19_1 M
  have hf2 : zgR (N31_19 M) 5 0 9 = (2, 10) := G31_19_2 M
  have hf3 : zgR (N31_19 M) 5 0 10 = (4, 60) := G31_19_3 M
  generalize hN : N31_19 M = X at hX hf0 hf1 hf2 hf3 ⊢
  refine (B31_139 (d + 2) zu X).trans ?_
  show zgo true (d + 2) 31 141 [zr 5 0, zi 0] [] (X) = _
  subst hN
  rfl
set_option maxRecDepth 100000 in
theorem T31_21 (d : Nat) (M : zM) (hn : znx M = 5) : zgo true (d + 2) 31 141 [zr 5 0, zi 0] [] (N31_19 M) = zgo true (d + 2) 31 155 [zr 5 0, zi 0] [zi 0, zi 0, zr 29 0] (N31_19 M) := by
  have hX : znx (N31_19 M) = 41 := H31_19 M hn
  have hf0 : zgR (N31_19 M) 5 0 0 = (29, 0) := G31_19_0 M
  have hf1 : zgR (N31_19 M) 5 0 8 = (10, 1) := G31_19_1 M
  have hf2 : zgR (N31_19 M) 5 0 9 = (2, 10) := G31_19_2 M
  have hf3 : zgR (N31_19 M) 5 0 10 = (4, 60) := G31_19_3 M
  generalize hN : N31_19 M = X at hX hf0 hf1 hf2 hf3 ⊢
  refine (B31_141 (d + 1) 0 X).trans ?_
  rw [show zgR (X) 5 0 0 = (29, 0) from hf0]
  show Option.bind (zgo true (d + 1) 176 0 [zi 0] [] (X)) _ = _
  refine zbind_of (S_first true (d + 1) 0 _) ?_
  show zgo true (d + 2) 31 155 [zr 5 0, zi 0] [zi 0, zi 0, zr 29 0] (X) = _
  subst hN
  rfl
def N31_20 (M : zM) : zM := zdo [(2, 29, 0, 0, (0, 0), 0)] (N31_19 M)
set_option maxRecDepth 100000 in
theorem T31_22 (d : Nat) (M : zM) (hn : znx M = 5) : zgo true (d + 2) 31 155 [zr 5 0, zi 0] [zi 0, zi 0, zr 29 0] (N31_19 M) = zgo true (d + 2) 31 158 [zr 5 0, zi 0] [] (N31_20 M) := by
  have hX : znx (N31_19 M) = 41 := H31_19 M hn
  have hf0 : zgR (N31_19 M) 5 0 0 = (29, 0) := G31_19_0 M
  have hf1 : zgR (N31_19 M) 5 0 8 = (10, 1) := G31_19_1 M
  have hf2 : zgR (N31_19 M) 5 0 9 = (2, 10) := G31_19_2 M
  have hf3 : zgR (N31_19 M) 5 0 10 = (4, 60) := G31_19_3 M
  generalize hN : N31_19 M = X at hX hf0 hf1 hf2 hf3 ⊢
  refine (B31_155 (d + 1) 0 0 0 X).trans ?_
  show Option.bind (zgo true (d + 1) 170 0 [zr 29 0, zi 0, zi 0] [] (X)) _ = _
  refine zbind_of (S_set true (d + 1) 29 0 0 0 _ (by decide) rfl (zlen_lt (by decide) (by decide))) ?_
  show zgo true (d + 2) 31 158 [zr 5 0, zi 0] [] (zsI (X) 29 0 0 0) = _
  rw [show zsI (X) 29 0 0 0 = zdo [(2, 29, 0, 0, (0, 0), 0)] X from rfl]
  subst hN
  rfl
theorem H31_20 (M : zM) (hn : znx M = 5) : znx (N31_20 M) = 41 := by
  show znx (zdo [(2, 29, 0, 0, (0, 0), 0)] (N31_19 M)) = _
  rw [zdo_nx, H31_19 M hn]
  rfl
set_option maxRecDepth 100000 in
theorem G31_20_0 (M : zM) : zgR (N31_20 M) 5 0 0 = (29, 0) := by
  show zgR (zdo [(2, 29, 0, 0, (0, 0), 0)] (N31_19 M)) 5 0 0 = _
  rw [zdo_R _ _ (by decide), G31_19_0 M]
set_option maxRecDepth 100000 in
theorem G31_20_1 (M : zM) : zgR (N31_20 M) 5 0 8 = (10, 1) := by
  show zgR (zdo [(2, 29, 0, 0, (0, 0), 0)] (N31_19 M)) 5 0 8 = _
  rw [zdo_R _ _ (by decide), G31_19_1 M]
set_option maxRecDepth 100000 in
theorem G31_20_2 (M : zM) : zgR (N31_20 M) 5 0 9 = (2, 10) := by
  show zgR (zdo [(2, 29, 0, 0, (0, 0), 0)] (N31_19 M)) 5 0 9 = _
  rw [zdo_R _ _ (by decide), G31_19_2 M]
set_option maxRecDepth 100000 in
theorem G31_20_3 (M : zM) : zgR (N31_20 M) 5 0 10 = (4, 60) := by
  show zgR (zdo [(2, 29, 0, 0, (0, 0), 0)] (N31_19 M)) 5 0 10 = _
  rw [zdo_R _ _ (by decide), G31_19_3 M]
set_option maxRecDepth 100000 in
theorem T31_23 (d : Nat) (M : zM) (hn : znx M = 5) : zgo true (d + 2) 31 158 [zr 5 0, zi 0] [] (N31_20 M) = zgo true (d + 2) 31 141 [zr 5 0, zi 1] [] (N31_20 M) := by
  have hX : znx (N31_20 M) = 41 := H31_20 M hn
  have hf0 : zgR (N31_20 M) 5 0 0 = (29, 0) := G31_20_0 M
  have hf1 : zgR (N31_20 M) 5 0 8 = (10, 1) := G31_20_1 M
  have hf2 : zgR (N31_20 M) 5 0 9 = (2, 10) := G31_20_2 M
  have hf3 : zgR (N31_20 M) 5 0 10 = (4, 60) := G31_20_3 M
  generalize hN : N31_20 M = X at hX hf0 hf1 hf2 hf3 ⊢
  refine (B31_158 (d + 2) 0 X).trans ?_
  show zgo true (d + 2) 31 141 [zr 5 0, zi 1] [] (X) = _
  subst hN
  rfl
set_option maxRecDepth 100000 in
theorem T31_24 (d : Nat) (M : zM) (hn : znx M = 5) : zgo true (d + 2) 31 141 [zr 5 0, zi 1] [] (N31_20 M) = zgo true (d + 2) 31 155 [zr 5 0, zi 1] [zi 150, zi 1, zr 29 0] (N31_20 M) := by
  have hX : znx (N31_20 M) = 41 := H31_20 M hn
  have hf0 : zgR (N31_20 M) 5 0 0 = (29, 0) := G31_20_0 M
  have hf1 : zgR (N31_20 M) 5 0 8 = (10, 1) := G31_20_1 M
  have hf2 : zgR (N31_20 M) 5 0 9 = (2, 10) := G31_20_2 M
  have hf3 : zgR (N31_20 M) 5 0 10 = (4, 60) := G31_20_3 M
  generalize hN : N31_20 M = X at hX hf0 hf1 hf2 hf3 ⊢
  refine (B31_141 (d + 1) 1 X).trans ?_
  rw [show zgR (X) 5 0 0 = (29, 0) from hf0]
  show Option.bind (zgo true (d + 1) 176 0 [zi 1] [] (X)) _ = _
  refine zbind_of (S_first true (d + 1) 1 _) ?_
  show zgo true (d + 2) 31 155 [zr 5 0, zi 1] [zi 150, zi 1, zr 29 0] (X) = _
  subst hN
  rfl
def N31_21 (M : zM) : zM := zdo [(2, 29, 0, 1, (0, 0), 150)] (N31_20 M)
set_option maxRecDepth 100000 in
theorem T31_25 (d : Nat) (M : zM) (hn : znx M = 5) : zgo true (d + 2) 31 155 [zr 5 0, zi 1] [zi 150, zi 1, zr 29 0] (N31_20 M) = zgo true (d + 2) 31 158 [zr 5 0, zi 1] [] (N31_21 M) := by
  have hX : znx (N31_20 M) = 41 := H31_20 M hn
  have hf0 : zgR (N31_20 M) 5 0 0 = (29, 0) := G31_20_0 M
  have hf1 : zgR (N31_20 M) 5 0 8 = (10, 1) := G31_20_1 M
  have hf2 : zgR (N31_20 M) 5 0 9 = (2, 10) := G31_20_2 M
  have hf3 : zgR (N31_20 M) 5 0 10 = (4, 60) := G31_20_3 M
  generalize hN : N31_20 M = X at hX hf0 hf1 hf2 hf3 ⊢
  refine (B31_155 (d + 1) 1 1 150 X).trans ?_
  show Option.bind (zgo true (d + 1) 170 0 [zr 29 0, zi 1, zi 150] [] (X)) _ = _
  refine zbind_of (S_set true (d + 1) 29 0 1 150 _ (by decide) rfl (zlen_lt (by decide) (by decide))) ?_
  show zgo true (d + 2) 31 158 [zr 5 0, zi 1] [] (zsI (X) 29 0 1 150) = _
  rw [show zsI (X) 29 0 1 150 = zdo [(2, 29, 0, 1, (0, 0), 150)] X from rfl]
  subst hN
  rfl
theorem H31_21 (M : zM) (hn : znx M = 5) : znx (N31_21 M) = 41 := by
  show znx (zdo [(2, 29, 0, 1, (0, 0), 150)] (N31_20 M)) = _
  rw [zdo_nx, H31_20 M hn]
  rfl
set_option maxRecDepth 100000 in
theorem G31_21_0 (M : zM) : zgR (N31_21 M) 5 0 0 = (29, 0) := by
  show zgR (zdo [(2, 29, 0, 1, (0, 0), 150)] (N31_20 M)) 5 0 0 = _
  rw [zdo_R _ _ (by decide), G31_20_0 M]
set_option maxRecDepth 100000 in
theorem G31_21_1 (M : zM) : zgR (N31_21 M) 5 0 8 = (10, 1) := by
  show zgR (zdo [(2, 29, 0, 1, (0, 0), 150)] (N31_20 M)) 5 0 8 = _
  rw [zdo_R _ _ (by decide), G31_20_1 M]
set_option maxRecDepth 100000 in
theorem G31_21_2 (M : zM) : zgR (N31_21 M) 5 0 9 = (2, 10) := by
  show zgR (zdo [(2, 29, 0, 1, (0, 0), 150)] (N31_20 M)) 5 0 9 = _
  rw [zdo_R _ _ (by decide), G31_20_2 M]
set_option maxRecDepth 100000 in
theorem G31_21_3 (M : zM) : zgR (N31_21 M) 5 0 10 = (4, 60) := by
  show zgR (zdo [(2, 29, 0, 1, (0, 0), 150)] (N31_20 M)) 5 0 10 = _
  rw [zdo_R _ _ (by decide), G31_20_3 M]
set_option maxRecDepth 100000 in
theorem T31_26 (d : Nat) (M : zM) (hn : znx M = 5) : zgo true (d + 2) 31 158 [zr 5 0, zi 1] [] (N31_21 M) = zgo true (d + 2) 31 141 [zr 5 0, zi 2] [] (N31_21 M) := by
  have hX : znx (N31_21 M) = 41 := H31_21 M hn
  have hf0 : zgR (N31_21 M) 5 0 0 = (29, 0) := G31_21_0 M
  have hf1 : zgR (N31_21 M) 5 0 8 = (10, 1) := G31_21_1 M
  have hf2 : zgR (N31_21 M) 5 0 9 = (2, 10) := G31_21_2 M
  have hf3 : zgR (N31_21 M) 5 0 10 = (4, 60) := G31_21_3 M
  generalize hN : N31_21 M = X at hX hf0 hf1 hf2 hf3 ⊢
  refine (B31_158 (d + 2) 1 X).trans ?_
  show zgo true (d + 2) 31 141 [zr 5 0, zi 2] [] (X) = _
  subst hN
  rfl
set_option maxRecDepth 100000 in
theorem T31_27 (d : Nat) (M : zM) (hn : znx M = 5) : zgo true (d + 2) 31 141 [zr 5 0, zi 2] [] (N31_21 M) = zgo true (d + 2) 31 155 [zr 5 0, zi 2] [zi 1, zi 2, zr 29 0] (N31_21 M) := by
  have hX : znx (N31_21 M) = 41 := H31_21 M hn
  have hf0 : zgR (N31_21 M) 5 0 0 = (29, 0) := G31_21_0 M
  have hf1 : zgR (N31_21 M) 5 0 8 = (10, 1) := G31_21_1 M
  have hf2 : zgR (N31_21 M) 5 0 9 = (2, 10) := G31_21_2 M
  have hf3 : zgR (N31_21 M) 5 0 10 = (4, 60) := G31_21_3 M
  generalize hN : N31_21 M = X at hX hf0 hf1 hf2 hf3 ⊢
  refine (B31_141 (d + 1) 2 X).trans ?_
  rw [show zgR (X) 5 0 0 = (29, 0) from hf0]
  show Option.bind (zgo true (d + 1) 176 0 [zi 2] [] (X)) _ = _
  refine zbind_of (S_first true (d + 1) 2 _) ?_
  show zgo true (d + 2) 31 155 [zr 5 0, zi 2] [zi 1, zi 2, zr 29 0] (X) = _
  subst hN
  rfl
def N31_22 (M : zM) : zM := zdo [(2, 29, 0, 2, (0, 0), 1)] (N31_21 M)
set_option maxRecDepth 100000 in
theorem T31_28 (d : Nat) (M : zM) (hn : znx M = 5) : zgo true (d + 2) 31 155 [zr 5 0, zi 2] [zi 1, zi 2, zr 29 0] (N31_21 M) = zgo true (d + 2) 31 158 [zr 5 0, zi 2] [] (N31_22 M) := by
  have hX : znx (N31_21 M) = 41 := H31_21 M hn
  have hf0 : zgR (N31_21 M) 5 0 0 = (29, 0) := G31_21_0 M
  have hf1 : zgR (N31_21 M) 5 0 8 = (10, 1) := G31_21_1 M
  have hf2 : zgR (N31_21 M) 5 0 9 = (2, 10) := G31_21_2 M
  have hf3 : zgR (N31_21 M) 5 0 10 = (4, 60) := G31_21_3 M
  generalize hN : N31_21 M = X at hX hf0 hf1 hf2 hf3 ⊢
  refine (B31_155 (d + 1) 2 2 1 X).trans ?_
  show Option.bind (zgo true (d + 1) 170 0 [zr 29 0, zi 2, zi 1] [] (X)) _ = _
  refine zbind_of (S_set true (d + 1) 29 0 2 1 _ (by decide) rfl (zlen_lt (by decide) (by decide))) ?_
  show zgo true (d + 2) 31 158 [zr 5 0, zi 2] [] (zsI (X) 29 0 2 1) = _
  rw [show zsI (X) 29 0 2 1 = zdo [(2, 29, 0, 2, (0, 0), 1)] X from rfl]
  subst hN
  rfl
theorem H31_22 (M : zM) (hn : znx M = 5) : znx (N31_22 M) = 41 := by
  show znx (zdo [(2, 29, 0, 2, (0, 0), 1)] (N31_21 M)) = _
  rw [zdo_nx, H31_21 M hn]
  rfl
set_option maxRecDepth 100000 in
theorem G31_22_0 (M : zM) : zgR (N31_22 M) 5 0 0 = (29, 0) := by
  show zgR (zdo [(2, 29, 0, 2, (0, 0), 1)] (N31_21 M)) 5 0 0 = _
  rw [zdo_R _ _ (by decide), G31_21_0 M]
set_option maxRecDepth 100000 in
theorem G31_22_1 (M : zM) : zgR (N31_22 M) 5 0 8 = (10, 1) := by
  show zgR (zdo [(2, 29, 0, 2, (0, 0), 1)] (N31_21 M)) 5 0 8 = _
  rw [zdo_R _ _ (by decide), G31_21_1 M]
set_option maxRecDepth 100000 in
theorem G31_22_2 (M : zM) : zgR (N31_22 M) 5 0 9 = (2, 10) := by
  show zgR (zdo [(2, 29, 0, 2, (0, 0), 1)] (N31_21 M)) 5 0 9 = _
  rw [zdo_R _ _ (by decide), G31_21_2 M]
set_option maxRecDepth 100000 in
theorem G31_22_3 (M : zM) : zgR (N31_22 M) 5 0 10 = (4, 60) := by
  show zgR (zdo [(2, 29, 0, 2, (0, 0), 1)] (N31_21 M)) 5 0 10 = _
  rw [zdo_R _ _ (by decide), G31_21_3 M]
set_option maxRecDepth 100000 in
theorem T31_29 (d : Nat) (M : zM) (hn : znx M = 5) : zgo true (d + 2) 31 158 [zr 5 0, zi 2] [] (N31_22 M) = zgo true (d + 2) 31 141 [zr 5 0, zi 3] [] (N31_22 M) := by
  have hX : znx (N31_22 M) = 41 := H31_22 M hn
  have hf0 : zgR (N31_22 M) 5 0 0 = (29, 0) := G31_22_0 M
  have hf1 : zgR (N31_22 M) 5 0 8 = (10, 1) := G31_22_1 M
  have hf2 : zgR (N31_22 M) 5 0 9 = (2, 10) := G31_22_2 M
  have hf3 : zgR (N31_22 M) 5 0 10 = (4, 60) := G31_22_3 M
  generalize hN : N31_22 M = X at hX hf0 hf1 hf2 hf3 ⊢
  refine (B31_158 (d + 2) 2 X).trans ?_
  show zgo true (d + 2) 31 141 [zr 5 0, zi 3] [] (X) = _
  subst hN
  rfl
set_option maxRecDepth 100000 in
theorem T31_30 (d : Nat) (M : zM) (hn : znx M = 5) : zgo true (d + 2) 31 141 [zr 5 0, zi 3] [] (N31_22 M) = zgo true (d + 2) 31 155 [zr 5 0, zi 3] [zi 17, zi 3, zr 29 0] (N31_22 M) := by
  have hX : znx (N31_22 M) = 41 := H31_22 M hn
  have hf0 : zgR (N31_22 M) 5 0 0 = (29, 0) := G31_22_0 M
  have hf1 : zgR (N31_22 M) 5 0 8 = (10, 1) := G31_22_1 M
  have hf2 : zgR (N31_22 M) 5 0 9 = (2, 10) := G31_22_2 M
  have hf3 : zgR (N31_22 M) 5 0 10 = (4, 60) := G31_22_3 M
  generalize hN : N31_22 M = X at hX hf0 hf1 hf2 hf3 ⊢
  refine (B31_141 (d + 1) 3 X).trans ?_
  rw [show zgR (X) 5 0 0 = (29, 0) from hf0]
  show Option.bind (zgo true (d + 1) 176 0 [zi 3] [] (X)) _ = _
  refine zbind_of (S_first true (d + 1) 3 _) ?_
  show zgo true (d + 2) 31 155 [zr 5 0, zi 3] [zi 17, zi 3, zr 29 0] (X) = _
  subst hN
  rfl
def N31_23 (M : zM) : zM := zdo [(2, 29, 0, 3, (0, 0), 17)] (N31_22 M)
set_option maxRecDepth 100000 in
theorem T31_31 (d : Nat) (M : zM) (hn : znx M = 5) : zgo true (d + 2) 31 155 [zr 5 0, zi 3] [zi 17, zi 3, zr 29 0] (N31_22 M) = zgo true (d + 2) 31 158 [zr 5 0, zi 3] [] (N31_23 M) := by
  have hX : znx (N31_22 M) = 41 := H31_22 M hn
  have hf0 : zgR (N31_22 M) 5 0 0 = (29, 0) := G31_22_0 M
  have hf1 : zgR (N31_22 M) 5 0 8 = (10, 1) := G31_22_1 M
  have hf2 : zgR (N31_22 M) 5 0 9 = (2, 10) := G31_22_2 M
  have hf3 : zgR (N31_22 M) 5 0 10 = (4, 60) := G31_22_3 M
  generalize hN : N31_22 M = X at hX hf0 hf1 hf2 hf3 ⊢
  refine (B31_155 (d + 1) 3 3 17 X).trans ?_
  show Option.bind (zgo true (d + 1) 170 0 [zr 29 0, zi 3, zi 17] [] (X)) _ = _
  refine zbind_of (S_set true (d + 1) 29 0 3 17 _ (by decide) rfl (zlen_lt (by decide) (by decide))) ?_
  show zgo true (d + 2) 31 158 [zr 5 0, zi 3] [] (zsI (X) 29 0 3 17) = _
  rw [show zsI (X) 29 0 3 17 = zdo [(2, 29, 0, 3, (0, 0), 17)] X from rfl]
  subst hN
  rfl
theorem H31_23 (M : zM) (hn : znx M = 5) : znx (N31_23 M) = 41 := by
  show znx (zdo [(2, 29, 0, 3, (0, 0), 17)] (N31_22 M)) = _
  rw [zdo_nx, H31_22 M hn]
  rfl
set_option maxRecDepth 100000 in
theorem G31_23_0 (M : zM) : zgR (N31_23 M) 5 0 0 = (29, 0) := by
  show zgR (zdo [(2, 29, 0, 3, (0, 0), 17)] (N31_22 M)) 5 0 0 = _
  rw [zdo_R _ _ (by decide), G31_22_0 M]
set_option maxRecDepth 100000 in
theorem G31_23_1 (M : zM) : zgR (N31_23 M) 5 0 8 = (10, 1) := by
  show zgR (zdo [(2, 29, 0, 3, (0, 0), 17)] (N31_22 M)) 5 0 8 = _
  rw [zdo_R _ _ (by decide), G31_22_1 M]
set_option maxRecDepth 100000 in
theorem G31_23_2 (M : zM) : zgR (N31_23 M) 5 0 9 = (2, 10) := by
  show zgR (zdo [(2, 29, 0, 3, (0, 0), 17)] (N31_22 M)) 5 0 9 = _
  rw [zdo_R _ _ (by decide), G31_22_2 M]
set_option maxRecDepth 100000 in
theorem G31_23_3 (M : zM) : zgR (N31_23 M) 5 0 10 = (4, 60) := by
  show zgR (zdo [(2, 29, 0, 3, (0, 0), 17)] (N31_22 M)) 5 0 10 = _
  rw [zdo_R _ _ (by decide), G31_22_3 M]
set_option maxRecDepth 100000 in
theorem T31_32 (d : Nat) (M : zM) (hn : znx M = 5) : zgo true (d + 2) 31 158 [zr 5 0, zi 3] [] (N31_23 M) = zgo true (d + 2) 31 141 [zr 5 0, zi 4] [] (N31_23 M) := by
  have hX : znx (N31_23 M) = 41 := H31_23 M hn
  have hf0 : zgR (N31_23 M) 5 0 0 = (29, 0) := G31_23_0 M
  have hf1 : zgR (N31_23 M) 5 0 8 = (10, 1) := G31_23_1 M
  have hf2 : zgR (N31_23 M) 5 0 9 = (2, 10) := G31_23_2 M
  have hf3 : zgR (N31_23 M) 5 0 10 = (4, 60) := G31_23_3 M
  generalize hN : N31_23 M = X at hX hf0 hf1 hf2 hf3 ⊢
  refine (B31_158 (d + 2) 3 X).trans ?_
  show zgo true (d + 2) 31 141 [zr 5 0, zi 4] [] (X) = _
  subst hN
  rfl
set_option maxRecDepth 100000 in
theorem T31_33 (d : Nat) (M : zM) (hn : znx M = 5) : zgo true (d + 2) 31 141 [zr 5 0, zi 4] [] (N31_23 M) = some (none, N31_23 M) := by
  have hX : znx (N31_23 M) = 41 := H31_23 M hn
  have hf0 : zgR (N31_23 M) 5 0 0 = (29, 0) := G31_23_0 M
  have hf1 : zgR (N31_23 M) 5 0 8 = (10, 1) := G31_23_1 M
  have hf2 : zgR (N31_23 M) 5 0 9 = (2, 10) := G31_23_2 M
  have hf3 : zgR (N31_23 M) 5 0 10 = (4, 60) := G31_23_3 M
  generalize hN : N31_23 M = X at hX hf0 hf1 hf2 hf3 ⊢
  refine (B31_141 (d + 1) 4 X).trans ?_
  show some (none, X) = _
  subst hN
  rfl
set_option maxRecDepth 100000 in
theorem C31_0 (d : Nat) (M : zM) (hn : znx M = 5) : zgo true (d + 2) 31 0 [zr 5 0, zu] [] M = some (none, N31_23 M) := by
  refine (T31_0 d M hn).trans ?_
  refine (T31_1 d M hn).trans ?_
  refine (T31_2 d M hn).trans ?_
  refine (T31_3 d M hn).trans ?_
  refine (T31_4 d M hn).trans ?_
  refine (T31_5 d M hn).trans ?_
  refine (T31_6 d M hn).trans ?_
  refine (T31_7 d M hn).trans ?_
  refine (T31_8 d M hn).trans ?_
  refine (T31_9 d M hn).trans ?_
  refine (T31_10 d M hn).trans ?_
  refine (T31_11 d M hn).trans ?_
  refine (T31_12 d M hn).trans ?_
  refine (T31_13 d M hn).trans ?_
  refine (T31_14 d M hn).trans ?_
  refine (T31_15 d M hn).trans ?_
  refine (T31_16 d M hn).trans ?_
  refine (T31_17 d M hn).trans ?_
  refine (T31_18 d M hn).trans ?_
  refine (T31_19 d M hn).trans ?_
  refine (T31_20 d M hn).trans ?_
  refine (T31_21 d M hn).trans ?_
  refine (T31_22 d M hn).trans ?_
  refine (T31_23 d M hn).trans ?_
  refine (T31_24 d M hn).trans ?_
  refine (T31_25 d M hn).trans ?_
  refine (T31_26 d M hn).trans ?_
  refine (T31_27 d M hn).trans ?_
  refine (T31_28 d M hn).trans ?_
  refine (T31_29 d M hn).trans ?_
  refine (T31_30 d M hn).trans ?_
  refine (T31_31 d M hn).trans ?_
  refine (T31_32 d M hn).trans ?_
  refine (T31_33 d M hn).trans ?_
  rfl
def N129_4 (M : zM) : zM := N31_23 (N129_3 M)
set_option maxRecDepth 100000 in
theorem T129_3 (d : Nat) (M : zM) (hn : znx M = 1) : zgo true (d + 3) 129 19 [zr 12 0, zu] [zr 5 0, zr 12 0] (N129_3 M) = zgo true (d + 3) 129 23 [zr 12 0, zu] [zr 5 0, zr 12 0] (N129_4 M) := by
  have hX : znx (N129_3 M) = 5 := H129_3 M hn
  generalize hN : N129_3 M = X at hX ⊢
  refine (B129_19 (d + 2) zu X).trans ?_
  show Option.bind (zgo true (d + 2) 31 0 [zr 5 0, zu] [] (X)) _ = _
  refine zbind_of (C31_0 d _ hX) ?_
  show zgo true (d + 3) 129 23 [zr 12 0, zu] [zr 5 0, zr 12 0] (N31_23 (X)) = _
  subst hN
  rfl
theorem H129_4 (M : zM) (hn : znx M = 1) : znx (N129_4 M) = 41 := H31_23 _ (H129_3 M hn)
def N129_5 (M : zM) : zM := zdo [(1, 12, 0, 1, (5, 0), 0), (0, 7, 1, 0, (0, 0), 0)] (N129_4 M)
set_option maxRecDepth 100000 in
theorem T129_4 (d : Nat) (M : zM) (hn : znx M = 1) : zgo true (d + 3) 129 23 [zr 12 0, zu] [zr 5 0, zr 12 0] (N129_4 M) = zgo true (d + 3) 129 30 [zr 12 0, zu] [zr 7 1, zr 12 0] (N129_5 M) := by
  have hX : znx (N129_4 M) = 41 := H129_4 M hn
  generalize hN : N129_4 M = X at hX ⊢
  refine (B129_23 (d + 3) zu X).trans ?_
  have hz : znx (zsR X 12 0 1 (5, 0)) = 41 := hX
  rw [hz]
  clear hz
  show zgo true (d + 3) 129 30 [zr 12 0, zu] [zr 7 1, zr 12 0] (znew (zsR X 12 0 1 (5, 0)) 7 1) = _
  rw [show znew (zsR X 12 0 1 (5, 0)) 7 1 = zdo [(1, 12, 0, 1, (5, 0), 0), (0, 7, 1, 0, (0, 0), 0)] X from rfl]
  subst hN
  rfl
theorem H129_5 (M : zM) (hn : znx M = 1) : znx (N129_5 M) = 42 := by
  show znx (zdo [(1, 12, 0, 1, (5, 0), 0), (0, 7, 1, 0, (0, 0), 0)] (N129_4 M)) = _
  rw [zdo_nx, H129_4 M hn]
  rfl
def D58_1 : List zOp := [(0, 33, 1, 0, (0, 0), 0), (1, 7, 1, 0, (33, 1), 0), (0, 34, 1, 0, (0, 0), 0), (1, 7, 1, 1, (34, 1), 0), (0, 35, 1, 0, (0, 0), 0), (1, 7, 1, 2, (35, 1), 0), (0, 36, 1, 0, (0, 0), 0), (1, 7, 1, 3, (36, 1), 0), (0, 37, 1, 0, (0, 0), 0), (1, 7, 1, 4, (37, 1), 0), (0, 38, 1, 0, (0, 0), 0), (1, 7, 1, 5, (38, 1), 0), (0, 39, 1, 0, (0, 0), 0), (1, 7, 1, 6, (39, 1), 0), (0, 40, 1, 0, (0, 0), 0), (1, 7, 1, 7, (40, 1), 0), (0, 41, 1, 0, (0, 0), 0), (1, 7, 1, 8, (41, 1), 0), (0, 42, 1, 0, (0, 0), 0), (1, 7, 1, 9, (42, 1), 0), (3, 35, 1, 0, (0, 0), 0)]
set_option maxRecDepth 100000 in
set_option maxHeartbeats 4000000 in
theorem C58_1 (d : Nat) (M : zM) (hn : znx M = 42) : zgo true (d + 1) 58 0 [zr 7 1, zu, zu, zu] [] M = some (none, zdo D58_1 M) := by
  refine (B58_0 (d + 1) 1 zu zu zu M).trans ?_
  have hz : znx (M) = 42 := hn
  rw [hz]
  clear hz
  show zgo true (d + 1) 58 9 [zr 7 1, zu, zu, zu] [zr 33 1, zr 7 1] (znew (M) 33 1) = _
  generalize hM1 : znew (M) 33 1 = M1
  have hn1 : znx M1 = 43 := by rw [← hM1]; exact congrArg (· + 1) hn
  refine (B58_9 (d + 1) 1 zu zu zu 1 33 1 M1).trans ?_
  have hz : znx (zsR M1 7 1 0 (33, 1)) = 43 := hn1
  rw [hz]
  clear hz
  show zgo true (d + 1) 58 16 [zr 7 1, zu, zu, zu] [zr 34 1, zr 7 1] (znew (zsR M1 7 1 0 (33, 1)) 34 1) = _
  generalize hM2 : znew (zsR M1 7 1 0 (33, 1)) 34 1 = M2
  have hn2 : znx M2 = 44 := by rw [← hM2]; exact congrArg (· + 1) hn1
  refine (B58_16 (d + 1) 1 zu zu zu 1 34 1 M2).trans ?_
  have hz : znx (zsR M2 7 1 1 (34, 1)) = 44 := hn2
  rw [hz]
  clear hz
  show zgo true (d + 1) 58 25 [zr 7 1, zu, zu, zu] [zr 35 1, zr 7 1] (znew (zsR M2 7 1 1 (34, 1)) 35 1) = _
  generalize hM3 : znew (zsR M2 7 1 1 (34, 1)) 35 1 = M3
  have hn3 : znx M3 = 45 := by rw [← hM3]; exact congrArg (· + 1) hn2
  refine (B58_25 (d + 1) 1 zu zu zu 1 35 1 M3).trans ?_
  show zgo true (d + 1) 58 28 [zr 7 1, zu, zu, zu] [] (zsR M3 7 1 2 (35, 1)) = _
  generalize hM4 : zsR M3 7 1 2 (35, 1) = M4
  have hn4 : znx M4 = 45 := by rw [← hM4]; exact hn3
  refine (B58_28 (d + 1) 1 zu zu zu M4).trans ?_
  have hz : znx (M4) = 45 := hn4
  rw [hz]
  clear hz
  show zgo true (d + 1) 58 34 [zr 7 1, zu, zu, zu] [zr 36 1, zr 7 1] (znew (M4) 36 1) = _
  generalize hM5 : znew (M4) 36 1 = M5
  have hn5 : znx M5 = 46 := by rw [← hM5]; exact congrArg (· + 1) hn4
  refine (B58_34 (d + 1) 1 zu zu zu 1 36 1 M5).trans ?_
  have hz : znx (zsR M5 7 1 3 (36, 1)) = 46 := hn5
  rw [hz]
  clear hz
  show zgo true (d + 1) 58 42 [zr 7 1, zu, zu, zu] [zr 37 1, zr 7 1] (znew (zsR M5 7 1 3 (36, 1)) 37 1) = _
  generalize hM6 : znew (zsR M5 7 1 3 (36, 1)) 37 1 = M6
  have hn6 : znx M6 = 47 := by rw [← hM6]; exact congrArg (· + 1) hn5
  refine (B58_42 (d + 1) 1 zu zu zu 1 37 1 M6).trans ?_
  have hz : znx (zsR M6 7 1 4 (37, 1)) = 47 := hn6
  rw [hz]
  clear hz
  show zgo true (d + 1) 58 50 [zr 7 1, zu, zu, zu] [zr 38 1, zr 7 1] (znew (zsR M6 7 1 4 (37, 1)) 38 1) = _
  generalize hM7 : znew (zsR M6 7 1 4 (37, 1)) 38 1 = M7
  have hn7 : znx M7 = 48 := by rw [← hM7]; exact congrArg (· + 1) hn6
  refine (B58_50 (d + 1) 1 zu zu zu 1 38 1 M7).trans ?_
  show zgo true (d + 1) 58 53 [zr 7 1, zu, zu, zu] [] (zsR M7 7 1 5 (38, 1)) = _
  generalize hM8 : zsR M7 7 1 5 (38, 1) = M8
  have hn8 : znx M8 = 48 := by rw [← hM8]; exact hn7
  refine (B58_53 (d + 1) 1 zu zu zu M8).trans ?_
  have hz : znx (M8) = 48 := hn8
  rw [hz]
  clear hz
  show zgo true (d + 1) 58 58 [zr 7 1, zu, zu, zu] [zr 39 1, zr 7 1] (znew (M8) 39 1) = _
  generalize hM9 : znew (M8) 39 1 = M9
  have hn9 : znx M9 = 49 := by rw [← hM9]; exact congrArg (· + 1) hn8
  refine (B58_58 (d + 1) 1 zu zu zu 1 39 1 M9).trans ?_
  have hz : znx (zsR M9 7 1 6 (39, 1)) = 49 := hn9
  rw [hz]
  clear hz
  show zgo true (d + 1) 58 66 [zr 7 1, zu, zu, zu] [zr 40 1, zr 7 1] (znew (zsR M9 7 1 6 (39, 1)) 40 1) = _
  generalize hM10 : znew (zsR M9 7 1 6 (39, 1)) 40 1 = M10
  have hn10 : znx M10 = 50 := by rw [← hM10]; exact congrArg (· + 1) hn9
  refine (B58_66 (d + 1) 1 zu zu zu 1 40 1 M10).trans ?_
  have hz : znx (zsR M10 7 1 7 (40, 1)) = 50 := hn10
  rw [hz]
  clear hz
  show zgo true (d + 1) 58 75 [zr 7 1, zu, zu, zu] [zr 41 1, zr 7 1] (znew (zsR M10 7 1 7 (40, 1)) 41 1) = _
  generalize hM11 : znew (zsR M10 7 1 7 (40, 1)) 41 1 = M11
  have hn11 : znx M11 = 51 := by rw [← hM11]; exact congrArg (· + 1) hn10
  refine (B58_75 (d + 1) 1 zu zu zu 1 41 1 M11).trans ?_
  show zgo true (d + 1) 58 78 [zr 7 1, zu, zu, zu] [] (zsR M11 7 1 8 (41, 1)) = _
  generalize hM12 : zsR M11 7 1 8 (41, 1) = M12
  have hn12 : znx M12 = 51 := by rw [← hM12]; exact hn11
  refine (B58_78 (d + 1) 1 zu zu zu M12).trans ?_
  have hz : znx (M12) = 51 := hn12
  rw [hz]
  clear hz
  show zgo true (d + 1) 58 83 [zr 7 1, zu, zu, zu] [zr 42 1, zr 7 1] (znew (M12) 42 1) = _
  generalize hM13 : znew (M12) 42 1 = M13
  have hn13 : znx M13 = 52 := by rw [← hM13]; exact congrArg (· + 1) hn12
  refine (B58_83 (d + 1) 1 zu zu zu 1 42 1 M13).trans ?_
  show zgo true (d + 1) 58 88 [zr 7 1, zi 0, zu, zu] [] (zsR M13 7 1 9 (42, 1)) = _
  generalize hM14 : zsR M13 7 1 9 (42, 1) = M14
  have hn14 : znx M14 = 52 := by rw [← hM14]; exact hn13
  refine (O_loop d 1 M14 (by subst hM14 hM13 hM12 hM11 hM10 hM9 hM8 hM7 hM6 hM5 hM4 hM3 hM2 hM1; rfl)).trans ?_
  subst hM14 hM13 hM12 hM11 hM10 hM9 hM8 hM7 hM6 hM5 hM4 hM3 hM2 hM1
  rfl
def N129_6 (M : zM) : zM := zdo D58_1 (N129_5 M)
set_option maxRecDepth 100000 in
theorem T129_5 (d : Nat) (M : zM) (hn : znx M = 1) : zgo true (d + 3) 129 30 [zr 12 0, zu] [zr 7 1, zr 12 0] (N129_5 M) = zgo true (d + 3) 129 34 [zr 12 0, zu] [zr 7 1, zr 12 0] (N129_6 M) := by
  have hX : znx (N129_5 M) = 42 := H129_5 M hn
  generalize hN : N129_5 M = X at hX ⊢
  refine (B129_30 (d + 2) zu 1 X).trans ?_
  show Option.bind (zgo true (d + 2) 58 0 [zr 7 1, zu, zu, zu] [] (X)) _ = _
  refine zbind_of (C58_1 (d + 1) _ hX) ?_
  show zgo true (d + 3) 129 34 [zr 12 0, zu] [zr 7 1, zr 12 0] (zdo D58_1 (X)) = _
  subst hN
  rfl
theorem H129_6 (M : zM) (hn : znx M = 1) : znx (N129_6 M) = 52 := by
  show znx (zdo D58_1 (N129_5 M)) = _
  rw [zdo_nx, H129_5 M hn]
  rfl
def N129_7 (M : zM) : zM := zdo [(1, 12, 0, 2, (7, 1), 0), (0, 8, 0, 0, (0, 0), 0)] (N129_6 M)
set_option maxRecDepth 100000 in
theorem T129_6 (d : Nat) (M : zM) (hn : znx M = 1) : zgo true (d + 3) 129 34 [zr 12 0, zu] [zr 7 1, zr 12 0] (N129_6 M) = zgo true (d + 3) 129 41 [zr 12 0, zu] [zr 8 0, zr 12 0] (N129_7 M) := by
  have hX : znx (N129_6 M) = 52 := H129_6 M hn
  generalize hN : N129_6 M = X at hX ⊢
  refine (B129_34 (d + 3) zu 1 X).trans ?_
  have hz : znx (zsR X 12 0 2 (7, 1)) = 52 := hX
  rw [hz]
  clear hz
  show zgo true (d + 3) 129 41 [zr 12 0, zu] [zr 8 0, zr 12 0] (znew (zsR X 12 0 2 (7, 1)) 8 0) = _
  rw [show znew (zsR X 12 0 2 (7, 1)) 8 0 = zdo [(1, 12, 0, 2, (7, 1), 0), (0, 8, 0, 0, (0, 0), 0)] X from rfl]
  subst hN
  rfl
theorem H129_7 (M : zM) (hn : znx M = 1) : znx (N129_7 M) = 53 := by
  show znx (zdo [(1, 12, 0, 2, (7, 1), 0), (0, 8, 0, 0, (0, 0), 0)] (N129_6 M)) = _
  rw [zdo_nx, H129_6 M hn]
  rfl
def D81_0 : List zOp := [(0, 43, 0, 0, (0, 0), 0), (1, 8, 0, 0, (43, 0), 0), (0, 44, 0, 0, (0, 0), 0), (1, 8, 0, 1, (44, 0), 0)]
set_option maxRecDepth 100000 in
set_option maxHeartbeats 4000000 in
theorem C81_0 (d : Nat) (M : zM) (hn : znx M = 53) : zgo true d 81 0 [zr 8 0] [] M = some (none, zdo D81_0 M) := by
  refine (B81_0 d  M).trans ?_
  have hz : znx M = 53 := hn
  rw [hz]
  clear hz
  show zgo true d 81 9 [zr 8 0] [zr 43 0, zr 8 0] (znew M 43 0) = _
  generalize hM1 : znew M 43 0 = M1
  have hn1 : znx M1 = 54 := by rw [← hM1]; exact congrArg (· + 1) hn
  refine (B81_9 d 43 0 M1).trans ?_
  have hz : znx (zsR M1 8 0 0 (43, 0)) = 54 := hn1
  rw [hz]
  clear hz
  show zgo true d 81 18 [zr 8 0] [zr 44 0, zr 8 0] (znew (zsR M1 8 0 0 (43, 0)) 44 0) = _
  generalize hM2 : znew (zsR M1 8 0 0 (43, 0)) 44 0 = M2
  have hn2 : znx M2 = 55 := by rw [← hM2]; exact congrArg (· + 1) hn1
  clear hn1
  refine (B81_18 d 44 0 M2).trans ?_
  generalize hM3 : zsR M2 8 0 1 (44, 0) = M3
  have hn3 : znx M3 = 55 := by rw [← hM3]; exact hn2
  clear hn2
  subst hM3 hM2 hM1
  rfl
def N129_8 (M : zM) : zM := zdo D81_0 (N129_7 M)
set_option maxRecDepth 100000 in
theorem T129_7 (d : Nat) (M : zM) (hn : znx M = 1) : zgo true (d + 3) 129 41 [zr 12 0, zu] [zr 8 0, zr 12 0] (N129_7 M) = zgo true (d + 3) 129 45 [zr 12 0, zu] [zr 8 0, zr 12 0] (N129_8 M) := by
  have hX : znx (N129_7 M) = 53 := H129_7 M hn
  generalize hN : N129_7 M = X at hX ⊢
  refine (B129_41 (d + 2) zu X).trans ?_
  show Option.bind (zgo true (d + 2) 81 0 [zr 8 0] [] (X)) _ = _
  refine zbind_of (C81_0 (d + 2) _ hX) ?_
  show zgo true (d + 3) 129 45 [zr 12 0, zu] [zr 8 0, zr 12 0] (zdo D81_0 (X)) = _
  subst hN
  rfl
theorem H129_8 (M : zM) (hn : znx M = 1) : znx (N129_8 M) = 55 := by
  show znx (zdo D81_0 (N129_7 M)) = _
  rw [zdo_nx, H129_7 M hn]
  rfl
def N129_9 (M : zM) : zM := zdo [(1, 12, 0, 3, (8, 0), 0), (0, 50, 0, 0, (0, 0), 0)] (N129_8 M)
set_option maxRecDepth 100000 in
theorem T129_8 (d : Nat) (M : zM) (hn : znx M = 1) : zgo true (d + 3) 129 45 [zr 12 0, zu] [zr 8 0, zr 12 0] (N129_8 M) = zgo true (d + 3) 129 54 [zr 12 0, zu] [zr 50 0, zr 12 0] (N129_9 M) := by
  have hX : znx (N129_8 M) = 55 := H129_8 M hn
  generalize hN : N129_8 M = X at hX ⊢
  refine (B129_45 (d + 3) zu X).trans ?_
  have hz : znx (zsR X 12 0 3 (8, 0)) = 55 := hX
  rw [hz]
  clear hz
  show zgo true (d + 3) 129 54 [zr 12 0, zu] [zr 50 0, zr 12 0] (znew (zsR X 12 0 3 (8, 0)) 50 0) = _
  rw [show znew (zsR X 12 0 3 (8, 0)) 50 0 = zdo [(1, 12, 0, 3, (8, 0), 0), (0, 50, 0, 0, (0, 0), 0)] X from rfl]
  subst hN
  rfl
theorem H129_9 (M : zM) (hn : znx M = 1) : znx (N129_9 M) = 56 := by
  show znx (zdo [(1, 12, 0, 3, (8, 0), 0), (0, 50, 0, 0, (0, 0), 0)] (N129_8 M)) = _
  rw [zdo_nx, H129_8 M hn]
  rfl
def N129_10 (M : zM) : zM := zdo [(1, 12, 0, 4, (50, 0), 0), (0, 51, 0, 0, (0, 0), 0)] (N129_9 M)
set_option maxRecDepth 100000 in
theorem T129_9 (d : Nat) (M : zM) (hn : znx M = 1) : zgo true (d + 3) 129 54 [zr 12 0, zu] [zr 50 0, zr 12 0] (N129_9 M) = zgo true (d + 3) 129 63 [zr 12 0, zu] [zr 51 0, zr 12 0] (N129_10 M) := by
  have hX : znx (N129_9 M) = 56 := H129_9 M hn
  generalize hN : N129_9 M = X at hX ⊢
  refine (B129_54 (d + 3) zu 50 0 X).trans ?_
  have hz : znx (zsR X 12 0 4 (50, 0)) = 56 := hX
  rw [hz]
  clear hz
  show zgo true (d + 3) 129 63 [zr 12 0, zu] [zr 51 0, zr 12 0] (znew (zsR X 12 0 4 (50, 0)) 51 0) = _
  rw [show znew (zsR X 12 0 4 (50, 0)) 51 0 = zdo [(1, 12, 0, 4, (50, 0), 0), (0, 51, 0, 0, (0, 0), 0)] X from rfl]
  subst hN
  rfl
theorem H129_10 (M : zM) (hn : znx M = 1) : znx (N129_10 M) = 57 := by
  show znx (zdo [(1, 12, 0, 4, (50, 0), 0), (0, 51, 0, 0, (0, 0), 0)] (N129_9 M)) = _
  rw [zdo_nx, H129_9 M hn]
  rfl
set_option maxRecDepth 100000 in
theorem G129_10_0 (M : zM) : zgR (N129_10 M) 12 0 4 = (50, 0) := by
  show zgR (zdo [(1, 12, 0, 4, (50, 0), 0), (0, 51, 0, 0, (0, 0), 0)] (N129_9 M)) 12 0 4 = _
  generalize N129_9 M = X
  rfl
def N129_11 (M : zM) : zM := zdo [(1, 12, 0, 5, (51, 0), 0), (0, 52, 0, 0, (0, 0), 0)] (N129_10 M)
set_option maxRecDepth 100000 in
theorem T129_10 (d : Nat) (M : zM) (hn : znx M = 1) : zgo true (d + 3) 129 63 [zr 12 0, zu] [zr 51 0, zr 12 0] (N129_10 M) = zgo true (d + 3) 129 71 [zr 12 0, zu] [zr 52 0, zr 12 0] (N129_11 M) := by
  have hX : znx (N129_10 M) = 57 := H129_10 M hn
  have hf0 : zgR (N129_10 M) 12 0 4 = (50, 0) := G129_10_0 M
  generalize hN : N129_10 M = X at hX hf0 ⊢
  refine (B129_63 (d + 3) zu 51 0 X).trans ?_
  have hz : znx (zsR X 12 0 5 (51, 0)) = 57 := hX
  rw [hz]
  clear hz
  show zgo true (d + 3) 129 71 [zr 12 0, zu] [zr 52 0, zr 12 0] (znew (zsR X 12 0 5 (51, 0)) 52 0) = _
  rw [show znew (zsR X 12 0 5 (51, 0)) 52 0 = zdo [(1, 12, 0, 5, (51, 0), 0), (0, 52, 0, 0, (0, 0), 0)] X from rfl]
  subst hN
  rfl
theorem H129_11 (M : zM) (hn : znx M = 1) : znx (N129_11 M) = 58 := by
  show znx (zdo [(1, 12, 0, 5, (51, 0), 0), (0, 52, 0, 0, (0, 0), 0)] (N129_10 M)) = _
  rw [zdo_nx, H129_10 M hn]
  rfl
set_option maxRecDepth 100000 in
theorem G129_11_0 (M : zM) : zgR (N129_11 M) 12 0 4 = (50, 0) := by
  show zgR (zdo [(1, 12, 0, 5, (51, 0), 0), (0, 52, 0, 0, (0, 0), 0)] (N129_10 M)) 12 0 4 = _
  rw [zdo_R _ _ (by decide), G129_10_0 M]
set_option maxRecDepth 100000 in
theorem G129_11_1 (M : zM) : zgR (N129_11 M) 12 0 5 = (51, 0) := by
  show zgR (zdo [(1, 12, 0, 5, (51, 0), 0), (0, 52, 0, 0, (0, 0), 0)] (N129_10 M)) 12 0 5 = _
  generalize N129_10 M = X
  rfl
def N129_12 (M : zM) : zM := zdo [(1, 12, 0, 6, (52, 0), 0)] (N129_11 M)
set_option maxRecDepth 100000 in
theorem T129_11 (d : Nat) (M : zM) (hn : znx M = 1) : zgo true (d + 3) 129 71 [zr 12 0, zu] [zr 52 0, zr 12 0] (N129_11 M) = zgo true (d + 3) 129 74 [zr 12 0, zu] [] (N129_12 M) := by
  have hX : znx (N129_11 M) = 58 := H129_11 M hn
  have hf0 : zgR (N129_11 M) 12 0 4 = (50, 0) := G129_11_0 M
  have hf1 : zgR (N129_11 M) 12 0 5 = (51, 0) := G129_11_1 M
  generalize hN : N129_11 M = X at hX hf0 hf1 ⊢
  refine (B129_71 (d + 3) zu 52 0 X).trans ?_
  show zgo true (d + 3) 129 74 [zr 12 0, zu] [] (zsR X 12 0 6 (52, 0)) = _
  rw [show zsR X 12 0 6 (52, 0) = zdo [(1, 12, 0, 6, (52, 0), 0)] X from rfl]
  subst hN
  rfl
theorem H129_12 (M : zM) (hn : znx M = 1) : znx (N129_12 M) = 58 := by
  show znx (zdo [(1, 12, 0, 6, (52, 0), 0)] (N129_11 M)) = _
  rw [zdo_nx, H129_11 M hn]
  rfl
set_option maxRecDepth 100000 in
theorem G129_12_0 (M : zM) : zgR (N129_12 M) 12 0 4 = (50, 0) := by
  show zgR (zdo [(1, 12, 0, 6, (52, 0), 0)] (N129_11 M)) 12 0 4 = _
  rw [zdo_R _ _ (by decide), G129_11_0 M]
set_option maxRecDepth 100000 in
theorem G129_12_1 (M : zM) : zgR (N129_12 M) 12 0 5 = (51, 0) := by
  show zgR (zdo [(1, 12, 0, 6, (52, 0), 0)] (N129_11 M)) 12 0 5 = _
  rw [zdo_R _ _ (by decide), G129_11_1 M]
def N129_13 (M : zM) : zM := zdo [(0, 53, 0, 0, (0, 0), 0)] (N129_12 M)
set_option maxRecDepth 100000 in
theorem T129_12 (d : Nat) (M : zM) (hn : znx M = 1) : zgo true (d + 3) 129 74 [zr 12 0, zu] [] (N129_12 M) = zgo true (d + 3) 129 80 [zr 12 0, zu] [zr 53 0, zr 12 0] (N129_13 M) := by
  have hX : znx (N129_12 M) = 58 := H129_12 M hn
  have hf0 : zgR (N129_12 M) 12 0 4 = (50, 0) := G129_12_0 M
  have hf1 : zgR (N129_12 M) 12 0 5 = (51, 0) := G129_12_1 M
  generalize hN : N129_12 M = X at hX hf0 hf1 ⊢
  refine (B129_74 (d + 3) zu X).trans ?_
  have hz : znx X = 58 := hX
  rw [hz]
  clear hz
  show zgo true (d + 3) 129 80 [zr 12 0, zu] [zr 53 0, zr 12 0] (znew X 53 0) = _
  rw [show znew X 53 0 = zdo [(0, 53, 0, 0, (0, 0), 0)] X from rfl]
  subst hN
  rfl
theorem H129_13 (M : zM) (hn : znx M = 1) : znx (N129_13 M) = 59 := by
  show znx (zdo [(0, 53, 0, 0, (0, 0), 0)] (N129_12 M)) = _
  rw [zdo_nx, H129_12 M hn]
  rfl
set_option maxRecDepth 100000 in
theorem G129_13_0 (M : zM) : zgR (N129_13 M) 12 0 4 = (50, 0) := by
  show zgR (zdo [(0, 53, 0, 0, (0, 0), 0)] (N129_12 M)) 12 0 4 = _
  rw [zdo_R _ _ (by decide), G129_12_0 M]
set_option maxRecDepth 100000 in
theorem G129_13_1 (M : zM) : zgR (N129_13 M) 12 0 5 = (51, 0) := by
  show zgR (zdo [(0, 53, 0, 0, (0, 0), 0)] (N129_12 M)) 12 0 5 = _
  rw [zdo_R _ _ (by decide), G129_12_1 M]
def N129_14 (M : zM) : zM := zdo [(1, 12, 0, 7, (53, 0), 0), (0, 3, 0, 0, (0, 0), 0)] (N129_13 M)
set_option maxRecDepth 100000 in
theorem T129_13 (d : Nat) (M : zM) (hn : znx M = 1) : zgo true (d + 3) 129 80 [zr 12 0, zu] [zr 53 0, zr 12 0] (N129_13 M) = zgo true (d + 3) 129 87 [zr 12 0, zu] [zr 3 0, zr 12 0] (N129_14 M) := by
  have hX : znx (N129_13 M) = 59 := H129_13 M hn
  have hf0 : zgR (N129_13 M) 12 0 4 = (50, 0) := G129_13_0 M
  have hf1 : zgR (N129_13 M) 12 0 5 = (51, 0) := G129_13_1 M
  generalize hN : N129_13 M = X at hX hf0 hf1 ⊢
  refine (B129_80 (d + 3) zu 53 0 X).trans ?_
  have hz : znx (zsR X 12 0 7 (53, 0)) = 59 := hX
  rw [hz]
  clear hz
  show zgo true (d + 3) 129 87 [zr 12 0, zu] [zr 3 0, zr 12 0] (znew (zsR X 12 0 7 (53, 0)) 3 0) = _
  rw [show znew (zsR X 12 0 7 (53, 0)) 3 0 = zdo [(1, 12, 0, 7, (53, 0), 0), (0, 3, 0, 0, (0, 0), 0)] X from rfl]
  subst hN
  rfl
theorem H129_14 (M : zM) (hn : znx M = 1) : znx (N129_14 M) = 60 := by
  show znx (zdo [(1, 12, 0, 7, (53, 0), 0), (0, 3, 0, 0, (0, 0), 0)] (N129_13 M)) = _
  rw [zdo_nx, H129_13 M hn]
  rfl
set_option maxRecDepth 100000 in
theorem G129_14_0 (M : zM) : zgR (N129_14 M) 12 0 4 = (50, 0) := by
  show zgR (zdo [(1, 12, 0, 7, (53, 0), 0), (0, 3, 0, 0, (0, 0), 0)] (N129_13 M)) 12 0 4 = _
  rw [zdo_R _ _ (by decide), G129_13_0 M]
set_option maxRecDepth 100000 in
theorem G129_14_1 (M : zM) : zgR (N129_14 M) 12 0 5 = (51, 0) := by
  show zgR (zdo [(1, 12, 0, 7, (53, 0), 0), (0, 3, 0, 0, (0, 0), 0)] (N129_13 M)) 12 0 5 = _
  rw [zdo_R _ _ (by decide), G129_13_1 M]
set_option maxRecDepth 100000 in
theorem G129_14_2 (M : zM) : zgR (N129_14 M) 12 0 7 = (53, 0) := by
  show zgR (zdo [(1, 12, 0, 7, (53, 0), 0), (0, 3, 0, 0, (0, 0), 0)] (N129_13 M)) 12 0 7 = _
  generalize N129_13 M = X
  rfl
def D14_0 : List zOp := [(0, 21, 0, 0, (0, 0), 0), (1, 3, 0, 0, (21, 0), 0), (0, 22, 0, 0, (0, 0), 0), (1, 3, 0, 1, (22, 0), 0), (0, 23, 0, 0, (0, 0), 0), (1, 3, 0, 2, (23, 0), 0)]
set_option maxRecDepth 100000 in
set_option maxHeartbeats 4000000 in
theorem C14_0 (d : Nat) (M : zM) (hn : znx M = 60) : zgo true d 14 0 [zr 3 0] [] M = some (none, zdo D14_0 M) := by
  refine (B14_0 d  M).trans ?_
  have hz : znx M = 60 := hn
  rw [hz]
  clear hz
  show zgo true d 14 9 [zr 3 0] [zr 21 0, zr 3 0] (znew M 21 0) = _
  generalize hM1 : znew M 21 0 = M1
  have hn1 : znx M1 = 61 := by rw [← hM1]; exact congrArg (· + 1) hn
  refine (B14_9 d 21 0 M1).trans ?_
  have hz : znx (zsR M1 3 0 0 (21, 0)) = 61 := hn1
  rw [hz]
  clear hz
  show zgo true d 14 17 [zr 3 0] [zr 22 0, zr 3 0] (znew (zsR M1 3 0 0 (21, 0)) 22 0) = _
  generalize hM2 : znew (zsR M1 3 0 0 (21, 0)) 22 0 = M2
  have hn2 : znx M2 = 62 := by rw [← hM2]; exact congrArg (· + 1) hn1
  clear hn1
  refine (B14_17 d 22 0 M2).trans ?_
  have hz : znx (zsR M2 3 0 1 (22, 0)) = 62 := hn2
  rw [hz]
  clear hz
  show zgo true d 14 25 [zr 3 0] [zr 23 0, zr 3 0] (znew (zsR M2 3 0 1 (22, 0)) 23 0) = _
  generalize hM3 : znew (zsR M2 3 0 1 (22, 0)) 23 0 = M3
  have hn3 : znx M3 = 63 := by rw [← hM3]; exact congrArg (· + 1) hn2
  clear hn2
  refine (B14_25 d 23 0 M3).trans ?_
  show zgo true d 14 28 [zr 3 0] [] (zsR M3 3 0 2 (23, 0)) = _
  generalize hM4 : zsR M3 3 0 2 (23, 0) = M4
  have hn4 : znx M4 = 63 := by rw [← hM4]; exact hn3
  clear hn3
  refine (B14_28 d  M4).trans ?_
  subst hM4 hM3 hM2 hM1
  rfl
def N129_15 (M : zM) : zM := zdo D14_0 (N129_14 M)
set_option maxRecDepth 100000 in
theorem T129_14 (d : Nat) (M : zM) (hn : znx M = 1) : zgo true (d + 3) 129 87 [zr 12 0, zu] [zr 3 0, zr 12 0] (N129_14 M) = zgo true (d + 3) 129 91 [zr 12 0, zu] [zr 3 0, zr 12 0] (N129_15 M) := by
  have hX : znx (N129_14 M) = 60 := H129_14 M hn
  have hf0 : zgR (N129_14 M) 12 0 4 = (50, 0) := G129_14_0 M
  have hf1 : zgR (N129_14 M) 12 0 5 = (51, 0) := G129_14_1 M
  have hf2 : zgR (N129_14 M) 12 0 7 = (53, 0) := G129_14_2 M
  generalize hN : N129_14 M = X at hX hf0 hf1 hf2 ⊢
  refine (B129_87 (d + 2) zu X).trans ?_
  show Option.bind (zgo true (d + 2) 14 0 [zr 3 0] [] (X)) _ = _
  refine zbind_of (C14_0 (d + 2) _ hX) ?_
  show zgo true (d + 3) 129 91 [zr 12 0, zu] [zr 3 0, zr 12 0] (zdo D14_0 (X)) = _
  subst hN
  rfl
theorem H129_15 (M : zM) (hn : znx M = 1) : znx (N129_15 M) = 63 := by
  show znx (zdo D14_0 (N129_14 M)) = _
  rw [zdo_nx, H129_14 M hn]
  rfl
set_option maxRecDepth 100000 in
theorem G129_15_0 (M : zM) : zgR (N129_15 M) 12 0 4 = (50, 0) := by
  show zgR (zdo D14_0 (N129_14 M)) 12 0 4 = _
  rw [zdo_R _ _ (by decide), G129_14_0 M]
set_option maxRecDepth 100000 in
theorem G129_15_1 (M : zM) : zgR (N129_15 M) 12 0 5 = (51, 0) := by
  show zgR (zdo D14_0 (N129_14 M)) 12 0 5 = _
  rw [zdo_R _ _ (by decide), G129_14_1 M]
set_option maxRecDepth 100000 in
theorem G129_15_2 (M : zM) : zgR (N129_15 M) 12 0 7 = (53, 0) := by
  show zgR (zdo D14_0 (N129_14 M)) 12 0 7 = _
  rw [zdo_R _ _ (by decide), G129_14_2 M]
def N129_16 (M : zM) : zM := zdo [(1, 12, 0, 8, (3, 0), 0), (0, 6, 0, 0, (0, 0), 0)] (N129_15 M)
set_option maxRecDepth 100000 in
theorem T129_15 (d : Nat) (M : zM) (hn : znx M = 1) : zgo true (d + 3) 129 91 [zr 12 0, zu] [zr 3 0, zr 12 0] (N129_15 M) = zgo true (d + 3) 129 98 [zr 12 0, zu] [zr 6 0, zr 12 0] (N129_16 M) := by
  have hX : znx (N129_15 M) = 63 := H129_15 M hn
  have hf0 : zgR (N129_15 M) 12 0 4 = (50, 0) := G129_15_0 M
  have hf1 : zgR (N129_15 M) 12 0 5 = (51, 0) := G129_15_1 M
  have hf2 : zgR (N129_15 M) 12 0 7 = (53, 0) := G129_15_2 M
  generalize hN : N129_15 M = X at hX hf0 hf1 hf2 ⊢
  refine (B129_91 (d + 3) zu X).trans ?_
  have hz : znx (zsR X 12 0 8 (3, 0)) = 63 := hX
  rw [hz]
  clear hz
  show zgo true (d + 3) 129 98 [zr 12 0, zu] [zr 6 0, zr 12 0] (znew (zsR X 12 0 8 (3, 0)) 6 0) = _
  rw [show znew (zsR X 12 0 8 (3, 0)) 6 0 = zdo [(1, 12, 0, 8, (3, 0), 0), (0, 6, 0, 0, (0, 0), 0)] X from rfl]
  subst hN
  rfl
theorem H129_16 (M : zM) (hn : znx M = 1) : znx (N129_16 M) = 64 := by
  show znx (zdo [(1, 12, 0, 8, (3, 0), 0), (0, 6, 0, 0, (0, 0), 0)] (N129_15 M)) = _
  rw [zdo_nx, H129_15 M hn]
  rfl
set_option maxRecDepth 100000 in
theorem G129_16_0 (M : zM) : zgR (N129_16 M) 12 0 4 = (50, 0) := by
  show zgR (zdo [(1, 12, 0, 8, (3, 0), 0), (0, 6, 0, 0, (0, 0), 0)] (N129_15 M)) 12 0 4 = _
  rw [zdo_R _ _ (by decide), G129_15_0 M]
set_option maxRecDepth 100000 in
theorem G129_16_1 (M : zM) : zgR (N129_16 M) 12 0 5 = (51, 0) := by
  show zgR (zdo [(1, 12, 0, 8, (3, 0), 0), (0, 6, 0, 0, (0, 0), 0)] (N129_15 M)) 12 0 5 = _
  rw [zdo_R _ _ (by decide), G129_15_1 M]
set_option maxRecDepth 100000 in
theorem G129_16_2 (M : zM) : zgR (N129_16 M) 12 0 7 = (53, 0) := by
  show zgR (zdo [(1, 12, 0, 8, (3, 0), 0), (0, 6, 0, 0, (0, 0), 0)] (N129_15 M)) 12 0 7 = _
  rw [zdo_R _ _ (by decide), G129_15_2 M]
def D52_0 : List zOp := [(0, 32, 0, 0, (0, 0), 0), (1, 6, 0, 0, (32, 0), 0)]
set_option maxRecDepth 100000 in
set_option maxHeartbeats 4000000 in
theorem C52_0 (d : Nat) (M : zM) (hn : znx M = 64) : zgo true d 52 0 [zr 6 0] [] M = some (none, zdo D52_0 M) := by
  refine (B52_0 d  M).trans ?_
  have hz : znx M = 64 := hn
  rw [hz]
  clear hz
  show zgo true d 52 9 [zr 6 0] [zr 32 0, zr 6 0] (znew M 32 0) = _
  generalize hM1 : znew M 32 0 = M1
  have hn1 : znx M1 = 65 := by rw [← hM1]; exact congrArg (· + 1) hn
  refine (B52_9 d 32 0 M1).trans ?_
  generalize hM2 : zsR M1 6 0 0 (32, 0) = M2
  have hn2 : znx M2 = 65 := by rw [← hM2]; exact hn1
  clear hn1
  subst hM2 hM1
  rfl
def N129_17 (M : zM) : zM := zdo D52_0 (N129_16 M)
set_option maxRecDepth 100000 in
theorem T129_16 (d : Nat) (M : zM) (hn : znx M = 1) : zgo true (d + 3) 129 98 [zr 12 0, zu] [zr 6 0, zr 12 0] (N129_16 M) = zgo true (d + 3) 129 102 [zr 12 0, zu] [zr 6 0, zr 12 0] (N129_17 M) := by
  have hX : znx (N129_16 M) = 64 := H129_16 M hn
  have hf0 : zgR (N129_16 M) 12 0 4 = (50, 0) := G129_16_0 M
  have hf1 : zgR (N129_16 M) 12 0 5 = (51, 0) := G129_16_1 M
  have hf2 : zgR (N129_16 M) 12 0 7 = (53, 0) := G129_16_2 M
  generalize hN : N129_16 M = X at hX hf0 hf1 hf2 ⊢
  refine (B129_98 (d + 2) zu X).trans ?_
  show Option.bind (zgo true (d + 2) 52 0 [zr 6 0] [] (X)) _ = _
  refine zbind_of (C52_0 (d + 2) _ hX) ?_
  show zgo true (d + 3) 129 102 [zr 12 0, zu] [zr 6 0, zr 12 0] (zdo D52_0 (X)) = _
  subst hN
  rfl
theorem H129_17 (M : zM) (hn : znx M = 1) : znx (N129_17 M) = 65 := by
  show znx (zdo D52_0 (N129_16 M)) = _
  rw [zdo_nx, H129_16 M hn]
  rfl
set_option maxRecDepth 100000 in
theorem G129_17_0 (M : zM) : zgR (N129_17 M) 12 0 4 = (50, 0) := by
  show zgR (zdo D52_0 (N129_16 M)) 12 0 4 = _
  rw [zdo_R _ _ (by decide), G129_16_0 M]
set_option maxRecDepth 100000 in
theorem G129_17_1 (M : zM) : zgR (N129_17 M) 12 0 5 = (51, 0) := by
  show zgR (zdo D52_0 (N129_16 M)) 12 0 5 = _
  rw [zdo_R _ _ (by decide), G129_16_1 M]
set_option maxRecDepth 100000 in
theorem G129_17_2 (M : zM) : zgR (N129_17 M) 12 0 7 = (53, 0) := by
  show zgR (zdo D52_0 (N129_16 M)) 12 0 7 = _
  rw [zdo_R _ _ (by decide), G129_16_2 M]
def N129_18 (M : zM) : zM := zdo [(1, 12, 0, 9, (6, 0), 0), (0, 1, 0, 0, (0, 0), 0)] (N129_17 M)
set_option maxRecDepth 100000 in
theorem T129_17 (d : Nat) (M : zM) (hn : znx M = 1) : zgo true (d + 3) 129 102 [zr 12 0, zu] [zr 6 0, zr 12 0] (N129_17 M) = zgo true (d + 3) 129 109 [zr 12 0, zu] [zr 1 0, zr 12 0] (N129_18 M) := by
  have hX : znx (N129_17 M) = 65 := H129_17 M hn
  have hf0 : zgR (N129_17 M) 12 0 4 = (50, 0) := G129_17_0 M
  have hf1 : zgR (N129_17 M) 12 0 5 = (51, 0) := G129_17_1 M
  have hf2 : zgR (N129_17 M) 12 0 7 = (53, 0) := G129_17_2 M
  generalize hN : N129_17 M = X at hX hf0 hf1 hf2 ⊢
  refine (B129_102 (d + 3) zu X).trans ?_
  have hz : znx (zsR X 12 0 9 (6, 0)) = 65 := hX
  rw [hz]
  clear hz
  show zgo true (d + 3) 129 109 [zr 12 0, zu] [zr 1 0, zr 12 0] (znew (zsR X 12 0 9 (6, 0)) 1 0) = _
  rw [show znew (zsR X 12 0 9 (6, 0)) 1 0 = zdo [(1, 12, 0, 9, (6, 0), 0), (0, 1, 0, 0, (0, 0), 0)] X from rfl]
  subst hN
  rfl
theorem H129_18 (M : zM) (hn : znx M = 1) : znx (N129_18 M) = 66 := by
  show znx (zdo [(1, 12, 0, 9, (6, 0), 0), (0, 1, 0, 0, (0, 0), 0)] (N129_17 M)) = _
  rw [zdo_nx, H129_17 M hn]
  rfl
set_option maxRecDepth 100000 in
theorem G129_18_0 (M : zM) : zgR (N129_18 M) 12 0 4 = (50, 0) := by
  show zgR (zdo [(1, 12, 0, 9, (6, 0), 0), (0, 1, 0, 0, (0, 0), 0)] (N129_17 M)) 12 0 4 = _
  rw [zdo_R _ _ (by decide), G129_17_0 M]
set_option maxRecDepth 100000 in
theorem G129_18_1 (M : zM) : zgR (N129_18 M) 12 0 5 = (51, 0) := by
  show zgR (zdo [(1, 12, 0, 9, (6, 0), 0), (0, 1, 0, 0, (0, 0), 0)] (N129_17 M)) 12 0 5 = _
  rw [zdo_R _ _ (by decide), G129_17_1 M]
set_option maxRecDepth 100000 in
theorem G129_18_2 (M : zM) : zgR (N129_18 M) 12 0 7 = (53, 0) := by
  show zgR (zdo [(1, 12, 0, 9, (6, 0), 0), (0, 1, 0, 0, (0, 0), 0)] (N129_17 M)) 12 0 7 = _
  rw [zdo_R _ _ (by decide), G129_17_2 M]
def D1_0 : List zOp := [(0, 20, 0, 0, (0, 0), 0), (1, 1, 0, 0, (20, 0), 0)]
set_option maxRecDepth 100000 in
set_option maxHeartbeats 4000000 in
theorem C1_0 (d : Nat) (M : zM) (hn : znx M = 66) : zgo true d 1 0 [zr 1 0] [] M = some (none, zdo D1_0 M) := by
  refine (B1_0 d  M).trans ?_
  have hz : znx M = 66 := hn
  rw [hz]
  clear hz
  show zgo true d 1 9 [zr 1 0] [zr 20 0, zr 1 0] (znew M 20 0) = _
  generalize hM1 : znew M 20 0 = M1
  have hn1 : znx M1 = 67 := by rw [← hM1]; exact congrArg (· + 1) hn
  refine (B1_9 d 20 0 M1).trans ?_
  generalize hM2 : zsR M1 1 0 0 (20, 0) = M2
  have hn2 : znx M2 = 67 := by rw [← hM2]; exact hn1
  clear hn1
  subst hM2 hM1
  rfl
def N129_19 (M : zM) : zM := zdo D1_0 (N129_18 M)
set_option maxRecDepth 100000 in
theorem T129_18 (d : Nat) (M : zM) (hn : znx M = 1) : zgo true (d + 3) 129 109 [zr 12 0, zu] [zr 1 0, zr 12 0] (N129_18 M) = zgo true (d + 3) 129 113 [zr 12 0, zu] [zr 1 0, zr 12 0] (N129_19 M) := by
  have hX : znx (N129_18 M) = 66 := H129_18 M hn
  have hf0 : zgR (N129_18 M) 12 0 4 = (50, 0) := G129_18_0 M
  have hf1 : zgR (N129_18 M) 12 0 5 = (51, 0) := G129_18_1 M
  have hf2 : zgR (N129_18 M) 12 0 7 = (53, 0) := G129_18_2 M
  generalize hN : N129_18 M = X at hX hf0 hf1 hf2 ⊢
  refine (B129_109 (d + 2) zu X).trans ?_
  show Option.bind (zgo true (d + 2) 1 0 [zr 1 0] [] (X)) _ = _
  refine zbind_of (C1_0 (d + 2) _ hX) ?_
  show zgo true (d + 3) 129 113 [zr 12 0, zu] [zr 1 0, zr 12 0] (zdo D1_0 (X)) = _
  subst hN
  rfl
theorem H129_19 (M : zM) (hn : znx M = 1) : znx (N129_19 M) = 67 := by
  show znx (zdo D1_0 (N129_18 M)) = _
  rw [zdo_nx, H129_18 M hn]
  rfl
set_option maxRecDepth 100000 in
theorem G129_19_0 (M : zM) : zgR (N129_19 M) 12 0 4 = (50, 0) := by
  show zgR (zdo D1_0 (N129_18 M)) 12 0 4 = _
  rw [zdo_R _ _ (by decide), G129_18_0 M]
set_option maxRecDepth 100000 in
theorem G129_19_1 (M : zM) : zgR (N129_19 M) 12 0 5 = (51, 0) := by
  show zgR (zdo D1_0 (N129_18 M)) 12 0 5 = _
  rw [zdo_R _ _ (by decide), G129_18_1 M]
set_option maxRecDepth 100000 in
theorem G129_19_2 (M : zM) : zgR (N129_19 M) 12 0 7 = (53, 0) := by
  show zgR (zdo D1_0 (N129_18 M)) 12 0 7 = _
  rw [zdo_R _ _ (by decide), G129_18_2 M]
def N129_20 (M : zM) : zM := zdo [(1, 12, 0, 10, (1, 0), 0), (0, 54, 0, 0, (0, 0), 0)] (N129_19 M)
set_option maxRecDepth 100000 in
theorem T129_19 (d : Nat) (M : zM) (hn : znx M = 1) : zgo true (d + 3) 129 113 [zr 12 0, zu] [zr 1 0, zr 12 0] (N129_19 M) = zgo true (d + 3) 129 121 [zr 12 0, zu] [zr 54 0, zr 12 0] (N129_20 M) := by
  have hX : znx (N129_19 M) = 67 := H129_19 M hn
  have hf0 : zgR (N129_19 M) 12 0 4 = (50, 0) := G129_19_0 M
  have hf1 : zgR (N129_19 M) 12 0 5 = (51, 0) := G129_19_1 M
  have hf2 : zgR (N129_19 M) 12 0 7 = (53, 0) := G129_19_2 M
  generalize hN : N129_19 M = X at hX hf0 hf1 hf2 ⊢
  refine (B129_113 (d + 3) zu X).trans ?_
  have hz : znx (zsR X 12 0 10 (1, 0)) = 67 := hX
  rw [hz]
  clear hz
  show zgo true (d + 3) 129 121 [zr 12 0, zu] [zr 54 0, zr 12 0] (znew (zsR X 12 0 10 (1, 0)) 54 0) = _
  rw [show znew (zsR X 12 0 10 (1, 0)) 54 0 = zdo [(1, 12, 0, 10, (1, 0), 0), (0, 54, 0, 0, (0, 0), 0)] X from rfl]
  subst hN
  rfl
theorem H129_20 (M : zM) (hn : znx M = 1) : znx (N129_20 M) = 68 := by
  show znx (zdo [(1, 12, 0, 10, (1, 0), 0), (0, 54, 0, 0, (0, 0), 0)] (N129_19 M)) = _
  rw [zdo_nx, H129_19 M hn]
  rfl
set_option maxRecDepth 100000 in
theorem G129_20_0 (M : zM) : zgR (N129_20 M) 12 0 4 = (50, 0) := by
  show zgR (zdo [(1, 12, 0, 10, (1, 0), 0), (0, 54, 0, 0, (0, 0), 0)] (N129_19 M)) 12 0 4 = _
  rw [zdo_R _ _ (by decide), G129_19_0 M]
set_option maxRecDepth 100000 in
theorem G129_20_1 (M : zM) : zgR (N129_20 M) 12 0 5 = (51, 0) := by
  show zgR (zdo [(1, 12, 0, 10, (1, 0), 0), (0, 54, 0, 0, (0, 0), 0)] (N129_19 M)) 12 0 5 = _
  rw [zdo_R _ _ (by decide), G129_19_1 M]
set_option maxRecDepth 100000 in
theorem G129_20_2 (M : zM) : zgR (N129_20 M) 12 0 7 = (53, 0) := by
  show zgR (zdo [(1, 12, 0, 10, (1, 0), 0), (0, 54, 0, 0, (0, 0), 0)] (N129_19 M)) 12 0 7 = _
  rw [zdo_R _ _ (by decide), G129_19_2 M]
def N129_21 (M : zM) : zM := zdo [(1, 12, 0, 11, (54, 0), 0), (2, 12, 0, 15, (0, 0), 9999)] (N129_20 M)
set_option maxRecDepth 100000 in
theorem T129_20 (d : Nat) (M : zM) (hn : znx M = 1) : zgo true (d + 3) 129 121 [zr 12 0, zu] [zr 54 0, zr 12 0] (N129_20 M) = zgo true (d + 3) 129 133 [zr 12 0, zi 0] [] (N129_21 M) := by
  have hX : znx (N129_20 M) = 68 := H129_20 M hn
  have hf0 : zgR (N129_20 M) 12 0 4 = (50, 0) := G129_20_0 M
  have hf1 : zgR (N129_20 M) 12 0 5 = (51, 0) := G129_20_1 M
  have hf2 : zgR (N129_20 M) 12 0 7 = (53, 0) := G129_20_2 M
  generalize hN : N129_20 M = X at hX hf0 hf1 hf2 ⊢
  refine (B129_121 (d + 3) zu 54 0 X).trans ?_
  show zgo true (d + 3) 129 133 [zr 12 0, zi 0] [] (zsI (zsR X 12 0 11 (54, 0)) 12 0 15 9999) = _
  rw [show zsI (zsR X 12 0 11 (54, 0)) 12 0 15 9999 = zdo [(1, 12, 0, 11, (54, 0), 0), (2, 12, 0, 15, (0, 0), 9999)] X from rfl]
  subst hN
  rfl
theorem H129_21 (M : zM) (hn : znx M = 1) : znx (N129_21 M) = 68 := by
  show znx (zdo [(1, 12, 0, 11, (54, 0), 0), (2, 12, 0, 15, (0, 0), 9999)] (N129_20 M)) = _
  rw [zdo_nx, H129_20 M hn]
  rfl
set_option maxRecDepth 100000 in
theorem G129_21_0 (M : zM) : zgR (N129_21 M) 12 0 4 = (50, 0) := by
  show zgR (zdo [(1, 12, 0, 11, (54, 0), 0), (2, 12, 0, 15, (0, 0), 9999)] (N129_20 M)) 12 0 4 = _
  rw [zdo_R _ _ (by decide), G129_20_0 M]
set_option maxRecDepth 100000 in
theorem G129_21_1 (M : zM) : zgR (N129_21 M) 12 0 5 = (51, 0) := by
  show zgR (zdo [(1, 12, 0, 11, (54, 0), 0), (2, 12, 0, 15, (0, 0), 9999)] (N129_20 M)) 12 0 5 = _
  rw [zdo_R _ _ (by decide), G129_20_1 M]
set_option maxRecDepth 100000 in
theorem G129_21_2 (M : zM) : zgR (N129_21 M) 12 0 7 = (53, 0) := by
  show zgR (zdo [(1, 12, 0, 11, (54, 0), 0), (2, 12, 0, 15, (0, 0), 9999)] (N129_20 M)) 12 0 7 = _
  rw [zdo_R _ _ (by decide), G129_20_2 M]
def N129_22 (M : zM) : zM := zdo [(0, 2, 0, 0, (0, 0), 0)] (N129_21 M)
set_option maxRecDepth 100000 in
theorem T129_21 (d : Nat) (M : zM) (hn : znx M = 1) : zgo true (d + 3) 129 133 [zr 12 0, zi 0] [] (N129_21 M) = zgo true (d + 3) 129 150 [zr 12 0, zi 0] [zr 2 0, zi 0, zr 50 0] (N129_22 M) := by
  have hX : znx (N129_21 M) = 68 := H129_21 M hn
  have hf0 : zgR (N129_21 M) 12 0 4 = (50, 0) := G129_21_0 M
  have hf1 : zgR (N129_21 M) 12 0 5 = (51, 0) := G129_21_1 M
  have hf2 : zgR (N129_21 M) 12 0 7 = (53, 0) := G129_21_2 M
  generalize hN : N129_21 M = X at hX hf0 hf1 hf2 ⊢
  refine (B129_133 (d + 3) 0 X).trans ?_
  rw [show zgR (X) 12 0 4 = (50, 0) from hf0]
  have hz : znx X = 68 := hX
  rw [hz]
  clear hz
  show zgo true (d + 3) 129 150 [zr 12 0, zi 0] [zr 2 0, zi 0, zr 50 0] (znew X 2 0) = _
  rw [show znew X 2 0 = zdo [(0, 2, 0, 0, (0, 0), 0)] X from rfl]
  subst hN
  rfl
theorem H129_22 (M : zM) (hn : znx M = 1) : znx (N129_22 M) = 69 := by
  show znx (zdo [(0, 2, 0, 0, (0, 0), 0)] (N129_21 M)) = _
  rw [zdo_nx, H129_21 M hn]
  rfl
set_option maxRecDepth 100000 in
theorem G129_22_0 (M : zM) : zgR (N129_22 M) 12 0 4 = (50, 0) := by
  show zgR (zdo [(0, 2, 0, 0, (0, 0), 0)] (N129_21 M)) 12 0 4 = _
  rw [zdo_R _ _ (by decide), G129_21_0 M]
set_option maxRecDepth 100000 in
theorem G129_22_1 (M : zM) : zgR (N129_22 M) 12 0 5 = (51, 0) := by
  show zgR (zdo [(0, 2, 0, 0, (0, 0), 0)] (N129_21 M)) 12 0 5 = _
  rw [zdo_R _ _ (by decide), G129_21_1 M]
set_option maxRecDepth 100000 in
theorem G129_22_2 (M : zM) : zgR (N129_22 M) 12 0 7 = (53, 0) := by
  show zgR (zdo [(0, 2, 0, 0, (0, 0), 0)] (N129_21 M)) 12 0 7 = _
  rw [zdo_R _ _ (by decide), G129_21_2 M]
def D9_0 : List zOp := []
set_option maxRecDepth 100000 in
set_option maxHeartbeats 4000000 in
theorem C9_0 (d : Nat) (M : zM) (hn : znx M = 69) : zgo true d 9 0 [zr 2 0] [] M = some (none, zdo D9_0 M) := by
  refine (B9_0 d 0 M).trans ?_
  rw [show zdo D9_0 M = M by unfold zdo D9_0; rw [List.foldl_nil]]
set_option maxRecDepth 100000 in
theorem T129_22 (d : Nat) (M : zM) (hn : znx M = 1) : zgo true (d + 3) 129 150 [zr 12 0, zi 0] [zr 2 0, zi 0, zr 50 0] (N129_22 M) = zgo true (d + 3) 129 154 [zr 12 0, zi 0] [zr 2 0, zi 0, zr 50 0] (N129_22 M) := by
  have hX : znx (N129_22 M) = 69 := H129_22 M hn
  have hf0 : zgR (N129_22 M) 12 0 4 = (50, 0) := G129_22_0 M
  have hf1 : zgR (N129_22 M) 12 0 5 = (51, 0) := G129_22_1 M
  have hf2 : zgR (N129_22 M) 12 0 7 = (53, 0) := G129_22_2 M
  generalize hN : N129_22 M = X at hX hf0 hf1 hf2 ⊢
  refine (B129_150 (d + 2) 0 0 0 X).trans ?_
  show Option.bind (zgo true (d + 2) 9 0 [zr 2 0] [] (X)) _ = _
  refine zbind_of (C9_0 (d + 2) _ hX) ?_
  show zgo true (d + 3) 129 154 [zr 12 0, zi 0] [zr 2 0, zi 0, zr 50 0] (zdo D9_0 (X)) = _
  rw [show zdo D9_0 (X) = X by unfold zdo D9_0; rw [List.foldl_nil]]
  skip
def N129_23 (M : zM) : zM := zdo [(1, 50, 0, 0, (2, 0), 0)] (N129_22 M)
set_option maxRecDepth 100000 in
theorem T129_23 (d : Nat) (M : zM) (hn : znx M = 1) : zgo true (d + 3) 129 154 [zr 12 0, zi 0] [zr 2 0, zi 0, zr 50 0] (N129_22 M) = zgo true (d + 3) 129 133 [zr 12 0, zi 1] [] (N129_23 M) := by
  have hX : znx (N129_22 M) = 69 := H129_22 M hn
  have hf0 : zgR (N129_22 M) 12 0 4 = (50, 0) := G129_22_0 M
  have hf1 : zgR (N129_22 M) 12 0 5 = (51, 0) := G129_22_1 M
  have hf2 : zgR (N129_22 M) 12 0 7 = (53, 0) := G129_22_2 M
  generalize hN : N129_22 M = X at hX hf0 hf1 hf2 ⊢
  refine (B129_154 (d + 3) 0 0 0 X).trans ?_
  show zgo true (d + 3) 129 133 [zr 12 0, zi 1] [] (zsR X 50 0 ((0 : Int32).toNatClampNeg) (2, 0)) = _
  rw [show zsR X 50 0 ((0 : Int32).toNatClampNeg) (2, 0) = zdo [(1, 50, 0, 0, (2, 0), 0)] X from rfl]
  subst hN
  rfl
theorem H129_23 (M : zM) (hn : znx M = 1) : znx (N129_23 M) = 69 := by
  show znx (zdo [(1, 50, 0, 0, (2, 0), 0)] (N129_22 M)) = _
  rw [zdo_nx, H129_22 M hn]
  rfl
set_option maxRecDepth 100000 in
theorem G129_23_0 (M : zM) : zgR (N129_23 M) 12 0 4 = (50, 0) := by
  show zgR (zdo [(1, 50, 0, 0, (2, 0), 0)] (N129_22 M)) 12 0 4 = _
  rw [zdo_R _ _ (by decide), G129_22_0 M]
set_option maxRecDepth 100000 in
theorem G129_23_1 (M : zM) : zgR (N129_23 M) 12 0 5 = (51, 0) := by
  show zgR (zdo [(1, 50, 0, 0, (2, 0), 0)] (N129_22 M)) 12 0 5 = _
  rw [zdo_R _ _ (by decide), G129_22_1 M]
set_option maxRecDepth 100000 in
theorem G129_23_2 (M : zM) : zgR (N129_23 M) 12 0 7 = (53, 0) := by
  show zgR (zdo [(1, 50, 0, 0, (2, 0), 0)] (N129_22 M)) 12 0 7 = _
  rw [zdo_R _ _ (by decide), G129_22_2 M]
def N129_24 (M : zM) : zM := zdo [(0, 2, 1, 0, (0, 0), 0)] (N129_23 M)
set_option maxRecDepth 100000 in
theorem T129_24 (d : Nat) (M : zM) (hn : znx M = 1) : zgo true (d + 3) 129 133 [zr 12 0, zi 1] [] (N129_23 M) = zgo true (d + 3) 129 150 [zr 12 0, zi 1] [zr 2 1, zi 1, zr 50 0] (N129_24 M) := by
  have hX : znx (N129_23 M) = 69 := H129_23 M hn
  have hf0 : zgR (N129_23 M) 12 0 4 = (50, 0) := G129_23_0 M
  have hf1 : zgR (N129_23 M) 12 0 5 = (51, 0) := G129_23_1 M
  have hf2 : zgR (N129_23 M) 12 0 7 = (53, 0) := G129_23_2 M
  generalize hN : N129_23 M = X at hX hf0 hf1 hf2 ⊢
  refine (B129_133 (d + 3) 1 X).trans ?_
  rw [show zgR (X) 12 0 4 = (50, 0) from hf0]
  have hz : znx X = 69 := hX
  rw [hz]
  clear hz
  show zgo true (d + 3) 129 150 [zr 12 0, zi 1] [zr 2 1, zi 1, zr 50 0] (znew X 2 1) = _
  rw [show znew X 2 1 = zdo [(0, 2, 1, 0, (0, 0), 0)] X from rfl]
  subst hN
  rfl
theorem H129_24 (M : zM) (hn : znx M = 1) : znx (N129_24 M) = 70 := by
  show znx (zdo [(0, 2, 1, 0, (0, 0), 0)] (N129_23 M)) = _
  rw [zdo_nx, H129_23 M hn]
  rfl
set_option maxRecDepth 100000 in
theorem G129_24_0 (M : zM) : zgR (N129_24 M) 12 0 4 = (50, 0) := by
  show zgR (zdo [(0, 2, 1, 0, (0, 0), 0)] (N129_23 M)) 12 0 4 = _
  rw [zdo_R _ _ (by decide), G129_23_0 M]
set_option maxRecDepth 100000 in
theorem G129_24_1 (M : zM) : zgR (N129_24 M) 12 0 5 = (51, 0) := by
  show zgR (zdo [(0, 2, 1, 0, (0, 0), 0)] (N129_23 M)) 12 0 5 = _
  rw [zdo_R _ _ (by decide), G129_23_1 M]
set_option maxRecDepth 100000 in
theorem G129_24_2 (M : zM) : zgR (N129_24 M) 12 0 7 = (53, 0) := by
  show zgR (zdo [(0, 2, 1, 0, (0, 0), 0)] (N129_23 M)) 12 0 7 = _
  rw [zdo_R _ _ (by decide), G129_23_2 M]
def D9_1 : List zOp := []
set_option maxRecDepth 100000 in
set_option maxHeartbeats 4000000 in
theorem C9_1 (d : Nat) (M : zM) (hn : znx M = 70) : zgo true d 9 0 [zr 2 1] [] M = some (none, zdo D9_1 M) := by
  refine (B9_0 d 1 M).trans ?_
  rw [show zdo D9_1 M = M by unfold zdo D9_1; rw [List.foldl_nil]]
set_option maxRecDepth 100000 in
theorem T129_25 (d : Nat) (M : zM) (hn : znx M = 1) : zgo true (d + 3) 129 150 [zr 12 0, zi 1] [zr 2 1, zi 1, zr 50 0] (N129_24 M) = zgo true (d + 3) 129 154 [zr 12 0, zi 1] [zr 2 1, zi 1, zr 50 0] (N129_24 M) := by
  have hX : znx (N129_24 M) = 70 := H129_24 M hn
  have hf0 : zgR (N129_24 M) 12 0 4 = (50, 0) := G129_24_0 M
  have hf1 : zgR (N129_24 M) 12 0 5 = (51, 0) := G129_24_1 M
  have hf2 : zgR (N129_24 M) 12 0 7 = (53, 0) := G129_24_2 M
  generalize hN : N129_24 M = X at hX hf0 hf1 hf2 ⊢
  refine (B129_150 (d + 2) 1 1 1 X).trans ?_
  show Option.bind (zgo true (d + 2) 9 0 [zr 2 1] [] (X)) _ = _
  refine zbind_of (C9_1 (d + 2) _ hX) ?_
  show zgo true (d + 3) 129 154 [zr 12 0, zi 1] [zr 2 1, zi 1, zr 50 0] (zdo D9_1 (X)) = _
  rw [show zdo D9_1 (X) = X by unfold zdo D9_1; rw [List.foldl_nil]]
  skip
def N129_25 (M : zM) : zM := zdo [(1, 50, 0, 1, (2, 1), 0)] (N129_24 M)
set_option maxRecDepth 100000 in
theorem T129_26 (d : Nat) (M : zM) (hn : znx M = 1) : zgo true (d + 3) 129 154 [zr 12 0, zi 1] [zr 2 1, zi 1, zr 50 0] (N129_24 M) = zgo true (d + 3) 129 133 [zr 12 0, zi 2] [] (N129_25 M) := by
  have hX : znx (N129_24 M) = 70 := H129_24 M hn
  have hf0 : zgR (N129_24 M) 12 0 4 = (50, 0) := G129_24_0 M
  have hf1 : zgR (N129_24 M) 12 0 5 = (51, 0) := G129_24_1 M
  have hf2 : zgR (N129_24 M) 12 0 7 = (53, 0) := G129_24_2 M
  generalize hN : N129_24 M = X at hX hf0 hf1 hf2 ⊢
  refine (B129_154 (d + 3) 1 1 1 X).trans ?_
  show zgo true (d + 3) 129 133 [zr 12 0, zi 2] [] (zsR X 50 0 ((1 : Int32).toNatClampNeg) (2, 1)) = _
  rw [show zsR X 50 0 ((1 : Int32).toNatClampNeg) (2, 1) = zdo [(1, 50, 0, 1, (2, 1), 0)] X from rfl]
  subst hN
  rfl
theorem H129_25 (M : zM) (hn : znx M = 1) : znx (N129_25 M) = 70 := by
  show znx (zdo [(1, 50, 0, 1, (2, 1), 0)] (N129_24 M)) = _
  rw [zdo_nx, H129_24 M hn]
  rfl
set_option maxRecDepth 100000 in
theorem G129_25_0 (M : zM) : zgR (N129_25 M) 12 0 4 = (50, 0) := by
  show zgR (zdo [(1, 50, 0, 1, (2, 1), 0)] (N129_24 M)) 12 0 4 = _
  rw [zdo_R _ _ (by decide), G129_24_0 M]
set_option maxRecDepth 100000 in
theorem G129_25_1 (M : zM) : zgR (N129_25 M) 12 0 5 = (51, 0) := by
  show zgR (zdo [(1, 50, 0, 1, (2, 1), 0)] (N129_24 M)) 12 0 5 = _
  rw [zdo_R _ _ (by decide), G129_24_1 M]
set_option maxRecDepth 100000 in
theorem G129_25_2 (M : zM) : zgR (N129_25 M) 12 0 7 = (53, 0) := by
  show zgR (zdo [(1, 50, 0, 1, (2, 1), 0)] (N129_24 M)) 12 0 7 = _
  rw [zdo_R _ _ (by decide), G129_24_2 M]
def N129_26 (M : zM) : zM := zdo [(0, 2, 2, 0, (0, 0), 0)] (N129_25 M)
set_option maxRecDepth 100000 in
theorem T129_27 (d : Nat) (M : zM) (hn : znx M = 1) : zgo true (d + 3) 129 133 [zr 12 0, zi 2] [] (N129_25 M) = zgo true (d + 3) 129 150 [zr 12 0, zi 2] [zr 2 2, zi 2, zr 50 0] (N129_26 M) := by
  have hX : znx (N129_25 M) = 70 := H129_25 M hn
  have hf0 : zgR (N129_25 M) 12 0 4 = (50, 0) := G129_25_0 M
  have hf1 : zgR (N129_25 M) 12 0 5 = (51, 0) := G129_25_1 M
  have hf2 : zgR (N129_25 M) 12 0 7 = (53, 0) := G129_25_2 M
  generalize hN : N129_25 M = X at hX hf0 hf1 hf2 ⊢
  refine (B129_133 (d + 3) 2 X).trans ?_
  rw [show zgR (X) 12 0 4 = (50, 0) from hf0]
  have hz : znx X = 70 := hX
  rw [hz]
  clear hz
  show zgo true (d + 3) 129 150 [zr 12 0, zi 2] [zr 2 2, zi 2, zr 50 0] (znew X 2 2) = _
  rw [show znew X 2 2 = zdo [(0, 2, 2, 0, (0, 0), 0)] X from rfl]
  subst hN
  rfl
theorem H129_26 (M : zM) (hn : znx M = 1) : znx (N129_26 M) = 71 := by
  show znx (zdo [(0, 2, 2, 0, (0, 0), 0)] (N129_25 M)) = _
  rw [zdo_nx, H129_25 M hn]
  rfl
set_option maxRecDepth 100000 in
theorem G129_26_0 (M : zM) : zgR (N129_26 M) 12 0 4 = (50, 0) := by
  show zgR (zdo [(0, 2, 2, 0, (0, 0), 0)] (N129_25 M)) 12 0 4 = _
  rw [zdo_R _ _ (by decide), G129_25_0 M]
set_option maxRecDepth 100000 in
theorem G129_26_1 (M : zM) : zgR (N129_26 M) 12 0 5 = (51, 0) := by
  show zgR (zdo [(0, 2, 2, 0, (0, 0), 0)] (N129_25 M)) 12 0 5 = _
  rw [zdo_R _ _ (by decide), G129_25_1 M]
set_option maxRecDepth 100000 in
theorem G129_26_2 (M : zM) : zgR (N129_26 M) 12 0 7 = (53, 0) := by
  show zgR (zdo [(0, 2, 2, 0, (0, 0), 0)] (N129_25 M)) 12 0 7 = _
  rw [zdo_R _ _ (by decide), G129_25_2 M]
def D9_2 : List zOp := []
set_option maxRecDepth 100000 in
set_option maxHeartbeats 4000000 in
theorem C9_2 (d : Nat) (M : zM) (hn : znx M = 71) : zgo true d 9 0 [zr 2 2] [] M = some (none, zdo D9_2 M) := by
  refine (B9_0 d 2 M).trans ?_
  rw [show zdo D9_2 M = M by unfold zdo D9_2; rw [List.foldl_nil]]
set_option maxRecDepth 100000 in
theorem T129_28 (d : Nat) (M : zM) (hn : znx M = 1) : zgo true (d + 3) 129 150 [zr 12 0, zi 2] [zr 2 2, zi 2, zr 50 0] (N129_26 M) = zgo true (d + 3) 129 154 [zr 12 0, zi 2] [zr 2 2, zi 2, zr 50 0] (N129_26 M) := by
  have hX : znx (N129_26 M) = 71 := H129_26 M hn
  have hf0 : zgR (N129_26 M) 12 0 4 = (50, 0) := G129_26_0 M
  have hf1 : zgR (N129_26 M) 12 0 5 = (51, 0) := G129_26_1 M
  have hf2 : zgR (N129_26 M) 12 0 7 = (53, 0) := G129_26_2 M
  generalize hN : N129_26 M = X at hX hf0 hf1 hf2 ⊢
  refine (B129_150 (d + 2) 2 2 2 X).trans ?_
  show Option.bind (zgo true (d + 2) 9 0 [zr 2 2] [] (X)) _ = _
  refine zbind_of (C9_2 (d + 2) _ hX) ?_
  show zgo true (d + 3) 129 154 [zr 12 0, zi 2] [zr 2 2, zi 2, zr 50 0] (zdo D9_2 (X)) = _
  rw [show zdo D9_2 (X) = X by unfold zdo D9_2; rw [List.foldl_nil]]
  skip
def N129_27 (M : zM) : zM := zdo [(1, 50, 0, 2, (2, 2), 0)] (N129_26 M)
set_option maxRecDepth 100000 in
theorem T129_29 (d : Nat) (M : zM) (hn : znx M = 1) : zgo true (d + 3) 129 154 [zr 12 0, zi 2] [zr 2 2, zi 2, zr 50 0] (N129_26 M) = zgo true (d + 3) 129 133 [zr 12 0, zi 3] [] (N129_27 M) := by
  have hX : znx (N129_26 M) = 71 := H129_26 M hn
  have hf0 : zgR (N129_26 M) 12 0 4 = (50, 0) := G129_26_0 M
  have hf1 : zgR (N129_26 M) 12 0 5 = (51, 0) := G129_26_1 M
  have hf2 : zgR (N129_26 M) 12 0 7 = (53, 0) := G129_26_2 M
  generalize hN : N129_26 M = X at hX hf0 hf1 hf2 ⊢
  refine (B129_154 (d + 3) 2 2 2 X).trans ?_
  show zgo true (d + 3) 129 133 [zr 12 0, zi 3] [] (zsR X 50 0 ((2 : Int32).toNatClampNeg) (2, 2)) = _
  rw [show zsR X 50 0 ((2 : Int32).toNatClampNeg) (2, 2) = zdo [(1, 50, 0, 2, (2, 2), 0)] X from rfl]
  subst hN
  rfl
theorem H129_27 (M : zM) (hn : znx M = 1) : znx (N129_27 M) = 71 := by
  show znx (zdo [(1, 50, 0, 2, (2, 2), 0)] (N129_26 M)) = _
  rw [zdo_nx, H129_26 M hn]
  rfl
set_option maxRecDepth 100000 in
theorem G129_27_0 (M : zM) : zgR (N129_27 M) 12 0 4 = (50, 0) := by
  show zgR (zdo [(1, 50, 0, 2, (2, 2), 0)] (N129_26 M)) 12 0 4 = _
  rw [zdo_R _ _ (by decide), G129_26_0 M]
set_option maxRecDepth 100000 in
theorem G129_27_1 (M : zM) : zgR (N129_27 M) 12 0 5 = (51, 0) := by
  show zgR (zdo [(1, 50, 0, 2, (2, 2), 0)] (N129_26 M)) 12 0 5 = _
  rw [zdo_R _ _ (by decide), G129_26_1 M]
set_option maxRecDepth 100000 in
theorem G129_27_2 (M : zM) : zgR (N129_27 M) 12 0 7 = (53, 0) := by
  show zgR (zdo [(1, 50, 0, 2, (2, 2), 0)] (N129_26 M)) 12 0 7 = _
  rw [zdo_R _ _ (by decide), G129_26_2 M]
def N129_28 (M : zM) : zM := zdo [(0, 2, 3, 0, (0, 0), 0)] (N129_27 M)
set_option maxRecDepth 100000 in
theorem T129_30 (d : Nat) (M : zM) (hn : znx M = 1) : zgo true (d + 3) 129 133 [zr 12 0, zi 3] [] (N129_27 M) = zgo true (d + 3) 129 150 [zr 12 0, zi 3] [zr 2 3, zi 3, zr 50 0] (N129_28 M) := by
  have hX : znx (N129_27 M) = 71 := H129_27 M hn
  have hf0 : zgR (N129_27 M) 12 0 4 = (50, 0) := G129_27_0 M
  have hf1 : zgR (N129_27 M) 12 0 5 = (51, 0) := G129_27_1 M
  have hf2 : zgR (N129_27 M) 12 0 7 = (53, 0) := G129_27_2 M
  generalize hN : N129_27 M = X at hX hf0 hf1 hf2 ⊢
  refine (B129_133 (d + 3) 3 X).trans ?_
  rw [show zgR (X) 12 0 4 = (50, 0) from hf0]
  have hz : znx X = 71 := hX
  rw [hz]
  clear hz
  show zgo true (d + 3) 129 150 [zr 12 0, zi 3] [zr 2 3, zi 3, zr 50 0] (znew X 2 3) = _
  rw [show znew X 2 3 = zdo [(0, 2, 3, 0, (0, 0), 0)] X from rfl]
  subst hN
  rfl
theorem H129_28 (M : zM) (hn : znx M = 1) : znx (N129_28 M) = 72 := by
  show znx (zdo [(0, 2, 3, 0, (0, 0), 0)] (N129_27 M)) = _
  rw [zdo_nx, H129_27 M hn]
  rfl
set_option maxRecDepth 100000 in
theorem G129_28_0 (M : zM) : zgR (N129_28 M) 12 0 4 = (50, 0) := by
  show zgR (zdo [(0, 2, 3, 0, (0, 0), 0)] (N129_27 M)) 12 0 4 = _
  rw [zdo_R _ _ (by decide), G129_27_0 M]
set_option maxRecDepth 100000 in
theorem G129_28_1 (M : zM) : zgR (N129_28 M) 12 0 5 = (51, 0) := by
  show zgR (zdo [(0, 2, 3, 0, (0, 0), 0)] (N129_27 M)) 12 0 5 = _
  rw [zdo_R _ _ (by decide), G129_27_1 M]
set_option maxRecDepth 100000 in
theorem G129_28_2 (M : zM) : zgR (N129_28 M) 12 0 7 = (53, 0) := by
  show zgR (zdo [(0, 2, 3, 0, (0, 0), 0)] (N129_27 M)) 12 0 7 = _
  rw [zdo_R _ _ (by decide), G129_27_2 M]
def D9_3 : List zOp := []
set_option maxRecDepth 100000 in
set_option maxHeartbeats 4000000 in
theorem C9_3 (d : Nat) (M : zM) (hn : znx M = 72) : zgo true d 9 0 [zr 2 3] [] M = some (none, zdo D9_3 M) := by
  refine (B9_0 d 3 M).trans ?_
  rw [show zdo D9_3 M = M by unfold zdo D9_3; rw [List.foldl_nil]]
set_option maxRecDepth 100000 in
theorem T129_31 (d : Nat) (M : zM) (hn : znx M = 1) : zgo true (d + 3) 129 150 [zr 12 0, zi 3] [zr 2 3, zi 3, zr 50 0] (N129_28 M) = zgo true (d + 3) 129 154 [zr 12 0, zi 3] [zr 2 3, zi 3, zr 50 0] (N129_28 M) := by
  have hX : znx (N129_28 M) = 72 := H129_28 M hn
  have hf0 : zgR (N129_28 M) 12 0 4 = (50, 0) := G129_28_0 M
  have hf1 : zgR (N129_28 M) 12 0 5 = (51, 0) := G129_28_1 M
  have hf2 : zgR (N129_28 M) 12 0 7 = (53, 0) := G129_28_2 M
  generalize hN : N129_28 M = X at hX hf0 hf1 hf2 ⊢
  refine (B129_150 (d + 2) 3 3 3 X).trans ?_
  show Option.bind (zgo true (d + 2) 9 0 [zr 2 3] [] (X)) _ = _
  refine zbind_of (C9_3 (d + 2) _ hX) ?_
  show zgo true (d + 3) 129 154 [zr 12 0, zi 3] [zr 2 3, zi 3, zr 50 0] (zdo D9_3 (X)) = _
  rw [show zdo D9_3 (X) = X by unfold zdo D9_3; rw [List.foldl_nil]]
  skip
def N129_29 (M : zM) : zM := zdo [(1, 50, 0, 3, (2, 3), 0)] (N129_28 M)
set_option maxRecDepth 100000 in
theorem T129_32 (d : Nat) (M : zM) (hn : znx M = 1) : zgo true (d + 3) 129 154 [zr 12 0, zi 3] [zr 2 3, zi 3, zr 50 0] (N129_28 M) = zgo true (d + 3) 129 133 [zr 12 0, zi 4] [] (N129_29 M) := by
  have hX : znx (N129_28 M) = 72 := H129_28 M hn
  have hf0 : zgR (N129_28 M) 12 0 4 = (50, 0) := G129_28_0 M
  have hf1 : zgR (N129_28 M) 12 0 5 = (51, 0) := G129_28_1 M
  have hf2 : zgR (N129_28 M) 12 0 7 = (53, 0) := G129_28_2 M
  generalize hN : N129_28 M = X at hX hf0 hf1 hf2 ⊢
  refine (B129_154 (d + 3) 3 3 3 X).trans ?_
  show zgo true (d + 3) 129 133 [zr 12 0, zi 4] [] (zsR X 50 0 ((3 : Int32).toNatClampNeg) (2, 3)) = _
  rw [show zsR X 50 0 ((3 : Int32).toNatClampNeg) (2, 3) = zdo [(1, 50, 0, 3, (2, 3), 0)] X from rfl]
  subst hN
  rfl
theorem H129_29 (M : zM) (hn : znx M = 1) : znx (N129_29 M) = 72 := by
  show znx (zdo [(1, 50, 0, 3, (2, 3), 0)] (N129_28 M)) = _
  rw [zdo_nx, H129_28 M hn]
  rfl
set_option maxRecDepth 100000 in
theorem G129_29_0 (M : zM) : zgR (N129_29 M) 12 0 4 = (50, 0) := by
  show zgR (zdo [(1, 50, 0, 3, (2, 3), 0)] (N129_28 M)) 12 0 4 = _
  rw [zdo_R _ _ (by decide), G129_28_0 M]
set_option maxRecDepth 100000 in
theorem G129_29_1 (M : zM) : zgR (N129_29 M) 12 0 5 = (51, 0) := by
  show zgR (zdo [(1, 50, 0, 3, (2, 3), 0)] (N129_28 M)) 12 0 5 = _
  rw [zdo_R _ _ (by decide), G129_28_1 M]
set_option maxRecDepth 100000 in
theorem G129_29_2 (M : zM) : zgR (N129_29 M) 12 0 7 = (53, 0) := by
  show zgR (zdo [(1, 50, 0, 3, (2, 3), 0)] (N129_28 M)) 12 0 7 = _
  rw [zdo_R _ _ (by decide), G129_28_2 M]
def N129_30 (M : zM) : zM := zdo [(0, 2, 4, 0, (0, 0), 0)] (N129_29 M)
set_option maxRecDepth 100000 in
theorem T129_33 (d : Nat) (M : zM) (hn : znx M = 1) : zgo true (d + 3) 129 133 [zr 12 0, zi 4] [] (N129_29 M) = zgo true (d + 3) 129 150 [zr 12 0, zi 4] [zr 2 4, zi 4, zr 50 0] (N129_30 M) := by
  have hX : znx (N129_29 M) = 72 := H129_29 M hn
  have hf0 : zgR (N129_29 M) 12 0 4 = (50, 0) := G129_29_0 M
  have hf1 : zgR (N129_29 M) 12 0 5 = (51, 0) := G129_29_1 M
  have hf2 : zgR (N129_29 M) 12 0 7 = (53, 0) := G129_29_2 M
  generalize hN : N129_29 M = X at hX hf0 hf1 hf2 ⊢
  refine (B129_133 (d + 3) 4 X).trans ?_
  rw [show zgR (X) 12 0 4 = (50, 0) from hf0]
  have hz : znx X = 72 := hX
  rw [hz]
  clear hz
  show zgo true (d + 3) 129 150 [zr 12 0, zi 4] [zr 2 4, zi 4, zr 50 0] (znew X 2 4) = _
  rw [show znew X 2 4 = zdo [(0, 2, 4, 0, (0, 0), 0)] X from rfl]
  subst hN
  rfl
theorem H129_30 (M : zM) (hn : znx M = 1) : znx (N129_30 M) = 73 := by
  show znx (zdo [(0, 2, 4, 0, (0, 0), 0)] (N129_29 M)) = _
  rw [zdo_nx, H129_29 M hn]
  rfl
set_option maxRecDepth 100000 in
theorem G129_30_0 (M : zM) : zgR (N129_30 M) 12 0 4 = (50, 0) := by
  show zgR (zdo [(0, 2, 4, 0, (0, 0), 0)] (N129_29 M)) 12 0 4 = _
  rw [zdo_R _ _ (by decide), G129_29_0 M]
set_option maxRecDepth 100000 in
theorem G129_30_1 (M : zM) : zgR (N129_30 M) 12 0 5 = (51, 0) := by
  show zgR (zdo [(0, 2, 4, 0, (0, 0), 0)] (N129_29 M)) 12 0 5 = _
  rw [zdo_R _ _ (by decide), G129_29_1 M]
set_option maxRecDepth 100000 in
theorem G129_30_2 (M : zM) : zgR (N129_30 M) 12 0 7 = (53, 0) := by
  show zgR (zdo [(0, 2, 4, 0, (0, 0), 0)] (N129_29 M)) 12 0 7 = _
  rw [zdo_R _ _ (by decide), G129_29_2 M]
def D9_4 : List zOp := []
set_option maxRecDepth 100000 in
set_option maxHeartbeats 4000000 in
theorem C9_4 (d : Nat) (M : zM) (hn : znx M = 73) : zgo true d 9 0 [zr 2 4] [] M = some (none, zdo D9_4 M) := by
  refine (B9_0 d 4 M).trans ?_
  rw [show zdo D9_4 M = M by unfold zdo D9_4; rw [List.foldl_nil]]
set_option maxRecDepth 100000 in
theorem T129_34 (d : Nat) (M : zM) (hn : znx M = 1) : zgo true (d + 3) 129 150 [zr 12 0, zi 4] [zr 2 4, zi 4, zr 50 0] (N129_30 M) = zgo true (d + 3) 129 154 [zr 12 0, zi 4] [zr 2 4, zi 4, zr 50 0] (N129_30 M) := by
  have hX : znx (N129_30 M) = 73 := H129_30 M hn
  have hf0 : zgR (N129_30 M) 12 0 4 = (50, 0) := G129_30_0 M
  have hf1 : zgR (N129_30 M) 12 0 5 = (51, 0) := G129_30_1 M
  have hf2 : zgR (N129_30 M) 12 0 7 = (53, 0) := G129_30_2 M
  generalize hN : N129_30 M = X at hX hf0 hf1 hf2 ⊢
  refine (B129_150 (d + 2) 4 4 4 X).trans ?_
  show Option.bind (zgo true (d + 2) 9 0 [zr 2 4] [] (X)) _ = _
  refine zbind_of (C9_4 (d + 2) _ hX) ?_
  show zgo true (d + 3) 129 154 [zr 12 0, zi 4] [zr 2 4, zi 4, zr 50 0] (zdo D9_4 (X)) = _
  rw [show zdo D9_4 (X) = X by unfold zdo D9_4; rw [List.foldl_nil]]
  skip
def N129_31 (M : zM) : zM := zdo [(1, 50, 0, 4, (2, 4), 0)] (N129_30 M)
set_option maxRecDepth 100000 in
theorem T129_35 (d : Nat) (M : zM) (hn : znx M = 1) : zgo true (d + 3) 129 154 [zr 12 0, zi 4] [zr 2 4, zi 4, zr 50 0] (N129_30 M) = zgo true (d + 3) 129 133 [zr 12 0, zi 5] [] (N129_31 M) := by
  have hX : znx (N129_30 M) = 73 := H129_30 M hn
  have hf0 : zgR (N129_30 M) 12 0 4 = (50, 0) := G129_30_0 M
  have hf1 : zgR (N129_30 M) 12 0 5 = (51, 0) := G129_30_1 M
  have hf2 : zgR (N129_30 M) 12 0 7 = (53, 0) := G129_30_2 M
  generalize hN : N129_30 M = X at hX hf0 hf1 hf2 ⊢
  refine (B129_154 (d + 3) 4 4 4 X).trans ?_
  show zgo true (d + 3) 129 133 [zr 12 0, zi 5] [] (zsR X 50 0 ((4 : Int32).toNatClampNeg) (2, 4)) = _
  rw [show zsR X 50 0 ((4 : Int32).toNatClampNeg) (2, 4) = zdo [(1, 50, 0, 4, (2, 4), 0)] X from rfl]
  subst hN
  rfl
theorem H129_31 (M : zM) (hn : znx M = 1) : znx (N129_31 M) = 73 := by
  show znx (zdo [(1, 50, 0, 4, (2, 4), 0)] (N129_30 M)) = _
  rw [zdo_nx, H129_30 M hn]
  rfl
set_option maxRecDepth 100000 in
theorem G129_31_0 (M : zM) : zgR (N129_31 M) 12 0 4 = (50, 0) := by
  show zgR (zdo [(1, 50, 0, 4, (2, 4), 0)] (N129_30 M)) 12 0 4 = _
  rw [zdo_R _ _ (by decide), G129_30_0 M]
set_option maxRecDepth 100000 in
theorem G129_31_1 (M : zM) : zgR (N129_31 M) 12 0 5 = (51, 0) := by
  show zgR (zdo [(1, 50, 0, 4, (2, 4), 0)] (N129_30 M)) 12 0 5 = _
  rw [zdo_R _ _ (by decide), G129_30_1 M]
set_option maxRecDepth 100000 in
theorem G129_31_2 (M : zM) : zgR (N129_31 M) 12 0 7 = (53, 0) := by
  show zgR (zdo [(1, 50, 0, 4, (2, 4), 0)] (N129_30 M)) 12 0 7 = _
  rw [zdo_R _ _ (by decide), G129_30_2 M]
def N129_32 (M : zM) : zM := zdo [(0, 2, 5, 0, (0, 0), 0)] (N129_31 M)
set_option maxRecDepth 100000 in
theorem T129_36 (d : Nat) (M : zM) (hn : znx M = 1) : zgo true (d + 3) 129 133 [zr 12 0, zi 5] [] (N129_31 M) = zgo true (d + 3) 129 150 [zr 12 0, zi 5] [zr 2 5, zi 5, zr 50 0] (N129_32 M) := by
  have hX : znx (N129_31 M) = 73 := H129_31 M hn
  have hf0 : zgR (N129_31 M) 12 0 4 = (50, 0) := G129_31_0 M
  have hf1 : zgR (N129_31 M) 12 0 5 = (51, 0) := G129_31_1 M
  have hf2 : zgR (N129_31 M) 12 0 7 = (53, 0) := G129_31_2 M
  generalize hN : N129_31 M = X at hX hf0 hf1 hf2 ⊢
  refine (B129_133 (d + 3) 5 X).trans ?_
  rw [show zgR (X) 12 0 4 = (50, 0) from hf0]
  have hz : znx X = 73 := hX
  rw [hz]
  clear hz
  show zgo true (d + 3) 129 150 [zr 12 0, zi 5] [zr 2 5, zi 5, zr 50 0] (znew X 2 5) = _
  rw [show znew X 2 5 = zdo [(0, 2, 5, 0, (0, 0), 0)] X from rfl]
  subst hN
  rfl
theorem H129_32 (M : zM) (hn : znx M = 1) : znx (N129_32 M) = 74 := by
  show znx (zdo [(0, 2, 5, 0, (0, 0), 0)] (N129_31 M)) = _
  rw [zdo_nx, H129_31 M hn]
  rfl
set_option maxRecDepth 100000 in
theorem G129_32_0 (M : zM) : zgR (N129_32 M) 12 0 4 = (50, 0) := by
  show zgR (zdo [(0, 2, 5, 0, (0, 0), 0)] (N129_31 M)) 12 0 4 = _
  rw [zdo_R _ _ (by decide), G129_31_0 M]
set_option maxRecDepth 100000 in
theorem G129_32_1 (M : zM) : zgR (N129_32 M) 12 0 5 = (51, 0) := by
  show zgR (zdo [(0, 2, 5, 0, (0, 0), 0)] (N129_31 M)) 12 0 5 = _
  rw [zdo_R _ _ (by decide), G129_31_1 M]
set_option maxRecDepth 100000 in
theorem G129_32_2 (M : zM) : zgR (N129_32 M) 12 0 7 = (53, 0) := by
  show zgR (zdo [(0, 2, 5, 0, (0, 0), 0)] (N129_31 M)) 12 0 7 = _
  rw [zdo_R _ _ (by decide), G129_31_2 M]
def D9_5 : List zOp := []
set_option maxRecDepth 100000 in
set_option maxHeartbeats 4000000 in
theorem C9_5 (d : Nat) (M : zM) (hn : znx M = 74) : zgo true d 9 0 [zr 2 5] [] M = some (none, zdo D9_5 M) := by
  refine (B9_0 d 5 M).trans ?_
  rw [show zdo D9_5 M = M by unfold zdo D9_5; rw [List.foldl_nil]]
set_option maxRecDepth 100000 in
theorem T129_37 (d : Nat) (M : zM) (hn : znx M = 1) : zgo true (d + 3) 129 150 [zr 12 0, zi 5] [zr 2 5, zi 5, zr 50 0] (N129_32 M) = zgo true (d + 3) 129 154 [zr 12 0, zi 5] [zr 2 5, zi 5, zr 50 0] (N129_32 M) := by
  have hX : znx (N129_32 M) = 74 := H129_32 M hn
  have hf0 : zgR (N129_32 M) 12 0 4 = (50, 0) := G129_32_0 M
  have hf1 : zgR (N129_32 M) 12 0 5 = (51, 0) := G129_32_1 M
  have hf2 : zgR (N129_32 M) 12 0 7 = (53, 0) := G129_32_2 M
  generalize hN : N129_32 M = X at hX hf0 hf1 hf2 ⊢
  refine (B129_150 (d + 2) 5 5 5 X).trans ?_
  show Option.bind (zgo true (d + 2) 9 0 [zr 2 5] [] (X)) _ = _
  refine zbind_of (C9_5 (d + 2) _ hX) ?_
  show zgo true (d + 3) 129 154 [zr 12 0, zi 5] [zr 2 5, zi 5, zr 50 0] (zdo D9_5 (X)) = _
  rw [show zdo D9_5 (X) = X by unfold zdo D9_5; rw [List.foldl_nil]]
  skip
def N129_33 (M : zM) : zM := zdo [(1, 50, 0, 5, (2, 5), 0)] (N129_32 M)
set_option maxRecDepth 100000 in
theorem T129_38 (d : Nat) (M : zM) (hn : znx M = 1) : zgo true (d + 3) 129 154 [zr 12 0, zi 5] [zr 2 5, zi 5, zr 50 0] (N129_32 M) = zgo true (d + 3) 129 133 [zr 12 0, zi 6] [] (N129_33 M) := by
  have hX : znx (N129_32 M) = 74 := H129_32 M hn
  have hf0 : zgR (N129_32 M) 12 0 4 = (50, 0) := G129_32_0 M
  have hf1 : zgR (N129_32 M) 12 0 5 = (51, 0) := G129_32_1 M
  have hf2 : zgR (N129_32 M) 12 0 7 = (53, 0) := G129_32_2 M
  generalize hN : N129_32 M = X at hX hf0 hf1 hf2 ⊢
  refine (B129_154 (d + 3) 5 5 5 X).trans ?_
  show zgo true (d + 3) 129 133 [zr 12 0, zi 6] [] (zsR X 50 0 ((5 : Int32).toNatClampNeg) (2, 5)) = _
  rw [show zsR X 50 0 ((5 : Int32).toNatClampNeg) (2, 5) = zdo [(1, 50, 0, 5, (2, 5), 0)] X from rfl]
  subst hN
  rfl
theorem H129_33 (M : zM) (hn : znx M = 1) : znx (N129_33 M) = 74 := by
  show znx (zdo [(1, 50, 0, 5, (2, 5), 0)] (N129_32 M)) = _
  rw [zdo_nx, H129_32 M hn]
  rfl
set_option maxRecDepth 100000 in
theorem G129_33_0 (M : zM) : zgR (N129_33 M) 12 0 4 = (50, 0) := by
  show zgR (zdo [(1, 50, 0, 5, (2, 5), 0)] (N129_32 M)) 12 0 4 = _
  rw [zdo_R _ _ (by decide), G129_32_0 M]
set_option maxRecDepth 100000 in
theorem G129_33_1 (M : zM) : zgR (N129_33 M) 12 0 5 = (51, 0) := by
  show zgR (zdo [(1, 50, 0, 5, (2, 5), 0)] (N129_32 M)) 12 0 5 = _
  rw [zdo_R _ _ (by decide), G129_32_1 M]
set_option maxRecDepth 100000 in
theorem G129_33_2 (M : zM) : zgR (N129_33 M) 12 0 7 = (53, 0) := by
  show zgR (zdo [(1, 50, 0, 5, (2, 5), 0)] (N129_32 M)) 12 0 7 = _
  rw [zdo_R _ _ (by decide), G129_32_2 M]
def N129_34 (M : zM) : zM := zdo [(0, 2, 6, 0, (0, 0), 0)] (N129_33 M)
set_option maxRecDepth 100000 in
theorem T129_39 (d : Nat) (M : zM) (hn : znx M = 1) : zgo true (d + 3) 129 133 [zr 12 0, zi 6] [] (N129_33 M) = zgo true (d + 3) 129 150 [zr 12 0, zi 6] [zr 2 6, zi 6, zr 50 0] (N129_34 M) := by
  have hX : znx (N129_33 M) = 74 := H129_33 M hn
  have hf0 : zgR (N129_33 M) 12 0 4 = (50, 0) := G129_33_0 M
  have hf1 : zgR (N129_33 M) 12 0 5 = (51, 0) := G129_33_1 M
  have hf2 : zgR (N129_33 M) 12 0 7 = (53, 0) := G129_33_2 M
  generalize hN : N129_33 M = X at hX hf0 hf1 hf2 ⊢
  refine (B129_133 (d + 3) 6 X).trans ?_
  rw [show zgR (X) 12 0 4 = (50, 0) from hf0]
  have hz : znx X = 74 := hX
  rw [hz]
  clear hz
  show zgo true (d + 3) 129 150 [zr 12 0, zi 6] [zr 2 6, zi 6, zr 50 0] (znew X 2 6) = _
  rw [show znew X 2 6 = zdo [(0, 2, 6, 0, (0, 0), 0)] X from rfl]
  subst hN
  rfl
theorem H129_34 (M : zM) (hn : znx M = 1) : znx (N129_34 M) = 75 := by
  show znx (zdo [(0, 2, 6, 0, (0, 0), 0)] (N129_33 M)) = _
  rw [zdo_nx, H129_33 M hn]
  rfl
set_option maxRecDepth 100000 in
theorem G129_34_0 (M : zM) : zgR (N129_34 M) 12 0 4 = (50, 0) := by
  show zgR (zdo [(0, 2, 6, 0, (0, 0), 0)] (N129_33 M)) 12 0 4 = _
  rw [zdo_R _ _ (by decide), G129_33_0 M]
set_option maxRecDepth 100000 in
theorem G129_34_1 (M : zM) : zgR (N129_34 M) 12 0 5 = (51, 0) := by
  show zgR (zdo [(0, 2, 6, 0, (0, 0), 0)] (N129_33 M)) 12 0 5 = _
  rw [zdo_R _ _ (by decide), G129_33_1 M]
set_option maxRecDepth 100000 in
theorem G129_34_2 (M : zM) : zgR (N129_34 M) 12 0 7 = (53, 0) := by
  show zgR (zdo [(0, 2, 6, 0, (0, 0), 0)] (N129_33 M)) 12 0 7 = _
  rw [zdo_R _ _ (by decide), G129_33_2 M]
def D9_6 : List zOp := []
set_option maxRecDepth 100000 in
set_option maxHeartbeats 4000000 in
theorem C9_6 (d : Nat) (M : zM) (hn : znx M = 75) : zgo true d 9 0 [zr 2 6] [] M = some (none, zdo D9_6 M) := by
  refine (B9_0 d 6 M).trans ?_
  rw [show zdo D9_6 M = M by unfold zdo D9_6; rw [List.foldl_nil]]
set_option maxRecDepth 100000 in
theorem T129_40 (d : Nat) (M : zM) (hn : znx M = 1) : zgo true (d + 3) 129 150 [zr 12 0, zi 6] [zr 2 6, zi 6, zr 50 0] (N129_34 M) = zgo true (d + 3) 129 154 [zr 12 0, zi 6] [zr 2 6, zi 6, zr 50 0] (N129_34 M) := by
  have hX : znx (N129_34 M) = 75 := H129_34 M hn
  have hf0 : zgR (N129_34 M) 12 0 4 = (50, 0) := G129_34_0 M
  have hf1 : zgR (N129_34 M) 12 0 5 = (51, 0) := G129_34_1 M
  have hf2 : zgR (N129_34 M) 12 0 7 = (53, 0) := G129_34_2 M
  generalize hN : N129_34 M = X at hX hf0 hf1 hf2 ⊢
  refine (B129_150 (d + 2) 6 6 6 X).trans ?_
  show Option.bind (zgo true (d + 2) 9 0 [zr 2 6] [] (X)) _ = _
  refine zbind_of (C9_6 (d + 2) _ hX) ?_
  show zgo true (d + 3) 129 154 [zr 12 0, zi 6] [zr 2 6, zi 6, zr 50 0] (zdo D9_6 (X)) = _
  rw [show zdo D9_6 (X) = X by unfold zdo D9_6; rw [List.foldl_nil]]
  skip
def N129_35 (M : zM) : zM := zdo [(1, 50, 0, 6, (2, 6), 0)] (N129_34 M)
set_option maxRecDepth 100000 in
theorem T129_41 (d : Nat) (M : zM) (hn : znx M = 1) : zgo true (d + 3) 129 154 [zr 12 0, zi 6] [zr 2 6, zi 6, zr 50 0] (N129_34 M) = zgo true (d + 3) 129 133 [zr 12 0, zi 7] [] (N129_35 M) := by
  have hX : znx (N129_34 M) = 75 := H129_34 M hn
  have hf0 : zgR (N129_34 M) 12 0 4 = (50, 0) := G129_34_0 M
  have hf1 : zgR (N129_34 M) 12 0 5 = (51, 0) := G129_34_1 M
  have hf2 : zgR (N129_34 M) 12 0 7 = (53, 0) := G129_34_2 M
  generalize hN : N129_34 M = X at hX hf0 hf1 hf2 ⊢
  refine (B129_154 (d + 3) 6 6 6 X).trans ?_
  show zgo true (d + 3) 129 133 [zr 12 0, zi 7] [] (zsR X 50 0 ((6 : Int32).toNatClampNeg) (2, 6)) = _
  rw [show zsR X 50 0 ((6 : Int32).toNatClampNeg) (2, 6) = zdo [(1, 50, 0, 6, (2, 6), 0)] X from rfl]
  subst hN
  rfl
theorem H129_35 (M : zM) (hn : znx M = 1) : znx (N129_35 M) = 75 := by
  show znx (zdo [(1, 50, 0, 6, (2, 6), 0)] (N129_34 M)) = _
  rw [zdo_nx, H129_34 M hn]
  rfl
set_option maxRecDepth 100000 in
theorem G129_35_0 (M : zM) : zgR (N129_35 M) 12 0 4 = (50, 0) := by
  show zgR (zdo [(1, 50, 0, 6, (2, 6), 0)] (N129_34 M)) 12 0 4 = _
  rw [zdo_R _ _ (by decide), G129_34_0 M]
set_option maxRecDepth 100000 in
theorem G129_35_1 (M : zM) : zgR (N129_35 M) 12 0 5 = (51, 0) := by
  show zgR (zdo [(1, 50, 0, 6, (2, 6), 0)] (N129_34 M)) 12 0 5 = _
  rw [zdo_R _ _ (by decide), G129_34_1 M]
set_option maxRecDepth 100000 in
theorem G129_35_2 (M : zM) : zgR (N129_35 M) 12 0 7 = (53, 0) := by
  show zgR (zdo [(1, 50, 0, 6, (2, 6), 0)] (N129_34 M)) 12 0 7 = _
  rw [zdo_R _ _ (by decide), G129_34_2 M]
def N129_36 (M : zM) : zM := zdo [(0, 2, 7, 0, (0, 0), 0)] (N129_35 M)
set_option maxRecDepth 100000 in
theorem T129_42 (d : Nat) (M : zM) (hn : znx M = 1) : zgo true (d + 3) 129 133 [zr 12 0, zi 7] [] (N129_35 M) = zgo true (d + 3) 129 150 [zr 12 0, zi 7] [zr 2 7, zi 7, zr 50 0] (N129_36 M) := by
  have hX : znx (N129_35 M) = 75 := H129_35 M hn
  have hf0 : zgR (N129_35 M) 12 0 4 = (50, 0) := G129_35_0 M
  have hf1 : zgR (N129_35 M) 12 0 5 = (51, 0) := G129_35_1 M
  have hf2 : zgR (N129_35 M) 12 0 7 = (53, 0) := G129_35_2 M
  generalize hN : N129_35 M = X at hX hf0 hf1 hf2 ⊢
  refine (B129_133 (d + 3) 7 X).trans ?_
  rw [show zgR (X) 12 0 4 = (50, 0) from hf0]
  have hz : znx X = 75 := hX
  rw [hz]
  clear hz
  show zgo true (d + 3) 129 150 [zr 12 0, zi 7] [zr 2 7, zi 7, zr 50 0] (znew X 2 7) = _
  rw [show znew X 2 7 = zdo [(0, 2, 7, 0, (0, 0), 0)] X from rfl]
  subst hN
  rfl
theorem H129_36 (M : zM) (hn : znx M = 1) : znx (N129_36 M) = 76 := by
  show znx (zdo [(0, 2, 7, 0, (0, 0), 0)] (N129_35 M)) = _
  rw [zdo_nx, H129_35 M hn]
  rfl
set_option maxRecDepth 100000 in
theorem G129_36_0 (M : zM) : zgR (N129_36 M) 12 0 4 = (50, 0) := by
  show zgR (zdo [(0, 2, 7, 0, (0, 0), 0)] (N129_35 M)) 12 0 4 = _
  rw [zdo_R _ _ (by decide), G129_35_0 M]
set_option maxRecDepth 100000 in
theorem G129_36_1 (M : zM) : zgR (N129_36 M) 12 0 5 = (51, 0) := by
  show zgR (zdo [(0, 2, 7, 0, (0, 0), 0)] (N129_35 M)) 12 0 5 = _
  rw [zdo_R _ _ (by decide), G129_35_1 M]
set_option maxRecDepth 100000 in
theorem G129_36_2 (M : zM) : zgR (N129_36 M) 12 0 7 = (53, 0) := by
  show zgR (zdo [(0, 2, 7, 0, (0, 0), 0)] (N129_35 M)) 12 0 7 = _
  rw [zdo_R _ _ (by decide), G129_35_2 M]
def D9_7 : List zOp := []
set_option maxRecDepth 100000 in
set_option maxHeartbeats 4000000 in
theorem C9_7 (d : Nat) (M : zM) (hn : znx M = 76) : zgo true d 9 0 [zr 2 7] [] M = some (none, zdo D9_7 M) := by
  refine (B9_0 d 7 M).trans ?_
  rw [show zdo D9_7 M = M by unfold zdo D9_7; rw [List.foldl_nil]]
set_option maxRecDepth 100000 in
theorem T129_43 (d : Nat) (M : zM) (hn : znx M = 1) : zgo true (d + 3) 129 150 [zr 12 0, zi 7] [zr 2 7, zi 7, zr 50 0] (N129_36 M) = zgo true (d + 3) 129 154 [zr 12 0, zi 7] [zr 2 7, zi 7, zr 50 0] (N129_36 M) := by
  have hX : znx (N129_36 M) = 76 := H129_36 M hn
  have hf0 : zgR (N129_36 M) 12 0 4 = (50, 0) := G129_36_0 M
  have hf1 : zgR (N129_36 M) 12 0 5 = (51, 0) := G129_36_1 M
  have hf2 : zgR (N129_36 M) 12 0 7 = (53, 0) := G129_36_2 M
  generalize hN : N129_36 M = X at hX hf0 hf1 hf2 ⊢
  refine (B129_150 (d + 2) 7 7 7 X).trans ?_
  show Option.bind (zgo true (d + 2) 9 0 [zr 2 7] [] (X)) _ = _
  refine zbind_of (C9_7 (d + 2) _ hX) ?_
  show zgo true (d + 3) 129 154 [zr 12 0, zi 7] [zr 2 7, zi 7, zr 50 0] (zdo D9_7 (X)) = _
  rw [show zdo D9_7 (X) = X by unfold zdo D9_7; rw [List.foldl_nil]]
  skip
def N129_37 (M : zM) : zM := zdo [(1, 50, 0, 7, (2, 7), 0)] (N129_36 M)
set_option maxRecDepth 100000 in
theorem T129_44 (d : Nat) (M : zM) (hn : znx M = 1) : zgo true (d + 3) 129 154 [zr 12 0, zi 7] [zr 2 7, zi 7, zr 50 0] (N129_36 M) = zgo true (d + 3) 129 133 [zr 12 0, zi 8] [] (N129_37 M) := by
  have hX : znx (N129_36 M) = 76 := H129_36 M hn
  have hf0 : zgR (N129_36 M) 12 0 4 = (50, 0) := G129_36_0 M
  have hf1 : zgR (N129_36 M) 12 0 5 = (51, 0) := G129_36_1 M
  have hf2 : zgR (N129_36 M) 12 0 7 = (53, 0) := G129_36_2 M
  generalize hN : N129_36 M = X at hX hf0 hf1 hf2 ⊢
  refine (B129_154 (d + 3) 7 7 7 X).trans ?_
  show zgo true (d + 3) 129 133 [zr 12 0, zi 8] [] (zsR X 50 0 ((7 : Int32).toNatClampNeg) (2, 7)) = _
  rw [show zsR X 50 0 ((7 : Int32).toNatClampNeg) (2, 7) = zdo [(1, 50, 0, 7, (2, 7), 0)] X from rfl]
  subst hN
  rfl
theorem H129_37 (M : zM) (hn : znx M = 1) : znx (N129_37 M) = 76 := by
  show znx (zdo [(1, 50, 0, 7, (2, 7), 0)] (N129_36 M)) = _
  rw [zdo_nx, H129_36 M hn]
  rfl
set_option maxRecDepth 100000 in
theorem G129_37_0 (M : zM) : zgR (N129_37 M) 12 0 4 = (50, 0) := by
  show zgR (zdo [(1, 50, 0, 7, (2, 7), 0)] (N129_36 M)) 12 0 4 = _
  rw [zdo_R _ _ (by decide), G129_36_0 M]
set_option maxRecDepth 100000 in
theorem G129_37_1 (M : zM) : zgR (N129_37 M) 12 0 5 = (51, 0) := by
  show zgR (zdo [(1, 50, 0, 7, (2, 7), 0)] (N129_36 M)) 12 0 5 = _
  rw [zdo_R _ _ (by decide), G129_36_1 M]
set_option maxRecDepth 100000 in
theorem G129_37_2 (M : zM) : zgR (N129_37 M) 12 0 7 = (53, 0) := by
  show zgR (zdo [(1, 50, 0, 7, (2, 7), 0)] (N129_36 M)) 12 0 7 = _
  rw [zdo_R _ _ (by decide), G129_36_2 M]
def N129_38 (M : zM) : zM := zdo [(0, 2, 8, 0, (0, 0), 0)] (N129_37 M)
set_option maxRecDepth 100000 in
theorem T129_45 (d : Nat) (M : zM) (hn : znx M = 1) : zgo true (d + 3) 129 133 [zr 12 0, zi 8] [] (N129_37 M) = zgo true (d + 3) 129 150 [zr 12 0, zi 8] [zr 2 8, zi 8, zr 50 0] (N129_38 M) := by
  have hX : znx (N129_37 M) = 76 := H129_37 M hn
  have hf0 : zgR (N129_37 M) 12 0 4 = (50, 0) := G129_37_0 M
  have hf1 : zgR (N129_37 M) 12 0 5 = (51, 0) := G129_37_1 M
  have hf2 : zgR (N129_37 M) 12 0 7 = (53, 0) := G129_37_2 M
  generalize hN : N129_37 M = X at hX hf0 hf1 hf2 ⊢
  refine (B129_133 (d + 3) 8 X).trans ?_
  rw [show zgR (X) 12 0 4 = (50, 0) from hf0]
  have hz : znx X = 76 := hX
  rw [hz]
  clear hz
  show zgo true (d + 3) 129 150 [zr 12 0, zi 8] [zr 2 8, zi 8, zr 50 0] (znew X 2 8) = _
  rw [show znew X 2 8 = zdo [(0, 2, 8, 0, (0, 0), 0)] X from rfl]
  subst hN
  rfl
theorem H129_38 (M : zM) (hn : znx M = 1) : znx (N129_38 M) = 77 := by
  show znx (zdo [(0, 2, 8, 0, (0, 0), 0)] (N129_37 M)) = _
  rw [zdo_nx, H129_37 M hn]
  rfl
set_option maxRecDepth 100000 in
theorem G129_38_0 (M : zM) : zgR (N129_38 M) 12 0 4 = (50, 0) := by
  show zgR (zdo [(0, 2, 8, 0, (0, 0), 0)] (N129_37 M)) 12 0 4 = _
  rw [zdo_R _ _ (by decide), G129_37_0 M]
set_option maxRecDepth 100000 in
theorem G129_38_1 (M : zM) : zgR (N129_38 M) 12 0 5 = (51, 0) := by
  show zgR (zdo [(0, 2, 8, 0, (0, 0), 0)] (N129_37 M)) 12 0 5 = _
  rw [zdo_R _ _ (by decide), G129_37_1 M]
set_option maxRecDepth 100000 in
theorem G129_38_2 (M : zM) : zgR (N129_38 M) 12 0 7 = (53, 0) := by
  show zgR (zdo [(0, 2, 8, 0, (0, 0), 0)] (N129_37 M)) 12 0 7 = _
  rw [zdo_R _ _ (by decide), G129_37_2 M]
def D9_8 : List zOp := []
set_option maxRecDepth 100000 in
set_option maxHeartbeats 4000000 in
theorem C9_8 (d : Nat) (M : zM) (hn : znx M = 77) : zgo true d 9 0 [zr 2 8] [] M = some (none, zdo D9_8 M) := by
  refine (B9_0 d 8 M).trans ?_
  rw [show zdo D9_8 M = M by unfold zdo D9_8; rw [List.foldl_nil]]
set_option maxRecDepth 100000 in
theorem T129_46 (d : Nat) (M : zM) (hn : znx M = 1) : zgo true (d + 3) 129 150 [zr 12 0, zi 8] [zr 2 8, zi 8, zr 50 0] (N129_38 M) = zgo true (d + 3) 129 154 [zr 12 0, zi 8] [zr 2 8, zi 8, zr 50 0] (N129_38 M) := by
  have hX : znx (N129_38 M) = 77 := H129_38 M hn
  have hf0 : zgR (N129_38 M) 12 0 4 = (50, 0) := G129_38_0 M
  have hf1 : zgR (N129_38 M) 12 0 5 = (51, 0) := G129_38_1 M
  have hf2 : zgR (N129_38 M) 12 0 7 = (53, 0) := G129_38_2 M
  generalize hN : N129_38 M = X at hX hf0 hf1 hf2 ⊢
  refine (B129_150 (d + 2) 8 8 8 X).trans ?_
  show Option.bind (zgo true (d + 2) 9 0 [zr 2 8] [] (X)) _ = _
  refine zbind_of (C9_8 (d + 2) _ hX) ?_
  show zgo true (d + 3) 129 154 [zr 12 0, zi 8] [zr 2 8, zi 8, zr 50 0] (zdo D9_8 (X)) = _
  rw [show zdo D9_8 (X) = X by unfold zdo D9_8; rw [List.foldl_nil]]
  skip
def N129_39 (M : zM) : zM := zdo [(1, 50, 0, 8, (2, 8), 0)] (N129_38 M)
set_option maxRecDepth 100000 in
theorem T129_47 (d : Nat) (M : zM) (hn : znx M = 1) : zgo true (d + 3) 129 154 [zr 12 0, zi 8] [zr 2 8, zi 8, zr 50 0] (N129_38 M) = zgo true (d + 3) 129 133 [zr 12 0, zi 9] [] (N129_39 M) := by
  have hX : znx (N129_38 M) = 77 := H129_38 M hn
  have hf0 : zgR (N129_38 M) 12 0 4 = (50, 0) := G129_38_0 M
  have hf1 : zgR (N129_38 M) 12 0 5 = (51, 0) := G129_38_1 M
  have hf2 : zgR (N129_38 M) 12 0 7 = (53, 0) := G129_38_2 M
  generalize hN : N129_38 M = X at hX hf0 hf1 hf2 ⊢
  refine (B129_154 (d + 3) 8 8 8 X).trans ?_
  show zgo true (d + 3) 129 133 [zr 12 0, zi 9] [] (zsR X 50 0 ((8 : Int32).toNatClampNeg) (2, 8)) = _
  rw [show zsR X 50 0 ((8 : Int32).toNatClampNeg) (2, 8) = zdo [(1, 50, 0, 8, (2, 8), 0)] X from rfl]
  subst hN
  rfl
theorem H129_39 (M : zM) (hn : znx M = 1) : znx (N129_39 M) = 77 := by
  show znx (zdo [(1, 50, 0, 8, (2, 8), 0)] (N129_38 M)) = _
  rw [zdo_nx, H129_38 M hn]
  rfl
set_option maxRecDepth 100000 in
theorem G129_39_0 (M : zM) : zgR (N129_39 M) 12 0 4 = (50, 0) := by
  show zgR (zdo [(1, 50, 0, 8, (2, 8), 0)] (N129_38 M)) 12 0 4 = _
  rw [zdo_R _ _ (by decide), G129_38_0 M]
set_option maxRecDepth 100000 in
theorem G129_39_1 (M : zM) : zgR (N129_39 M) 12 0 5 = (51, 0) := by
  show zgR (zdo [(1, 50, 0, 8, (2, 8), 0)] (N129_38 M)) 12 0 5 = _
  rw [zdo_R _ _ (by decide), G129_38_1 M]
set_option maxRecDepth 100000 in
theorem G129_39_2 (M : zM) : zgR (N129_39 M) 12 0 7 = (53, 0) := by
  show zgR (zdo [(1, 50, 0, 8, (2, 8), 0)] (N129_38 M)) 12 0 7 = _
  rw [zdo_R _ _ (by decide), G129_38_2 M]
def N129_40 (M : zM) : zM := zdo [(0, 2, 9, 0, (0, 0), 0)] (N129_39 M)
set_option maxRecDepth 100000 in
theorem T129_48 (d : Nat) (M : zM) (hn : znx M = 1) : zgo true (d + 3) 129 133 [zr 12 0, zi 9] [] (N129_39 M) = zgo true (d + 3) 129 150 [zr 12 0, zi 9] [zr 2 9, zi 9, zr 50 0] (N129_40 M) := by
  have hX : znx (N129_39 M) = 77 := H129_39 M hn
  have hf0 : zgR (N129_39 M) 12 0 4 = (50, 0) := G129_39_0 M
  have hf1 : zgR (N129_39 M) 12 0 5 = (51, 0) := G129_39_1 M
  have hf2 : zgR (N129_39 M) 12 0 7 = (53, 0) := G129_39_2 M
  generalize hN : N129_39 M = X at hX hf0 hf1 hf2 ⊢
  refine (B129_133 (d + 3) 9 X).trans ?_
  rw [show zgR (X) 12 0 4 = (50, 0) from hf0]
  have hz : znx X = 77 := hX
  rw [hz]
  clear hz
  show zgo true (d + 3) 129 150 [zr 12 0, zi 9] [zr 2 9, zi 9, zr 50 0] (znew X 2 9) = _
  rw [show znew X 2 9 = zdo [(0, 2, 9, 0, (0, 0), 0)] X from rfl]
  subst hN
  rfl
theorem H129_40 (M : zM) (hn : znx M = 1) : znx (N129_40 M) = 78 := by
  show znx (zdo [(0, 2, 9, 0, (0, 0), 0)] (N129_39 M)) = _
  rw [zdo_nx, H129_39 M hn]
  rfl
set_option maxRecDepth 100000 in
theorem G129_40_0 (M : zM) : zgR (N129_40 M) 12 0 4 = (50, 0) := by
  show zgR (zdo [(0, 2, 9, 0, (0, 0), 0)] (N129_39 M)) 12 0 4 = _
  rw [zdo_R _ _ (by decide), G129_39_0 M]
set_option maxRecDepth 100000 in
theorem G129_40_1 (M : zM) : zgR (N129_40 M) 12 0 5 = (51, 0) := by
  show zgR (zdo [(0, 2, 9, 0, (0, 0), 0)] (N129_39 M)) 12 0 5 = _
  rw [zdo_R _ _ (by decide), G129_39_1 M]
set_option maxRecDepth 100000 in
theorem G129_40_2 (M : zM) : zgR (N129_40 M) 12 0 7 = (53, 0) := by
  show zgR (zdo [(0, 2, 9, 0, (0, 0), 0)] (N129_39 M)) 12 0 7 = _
  rw [zdo_R _ _ (by decide), G129_39_2 M]
def D9_9 : List zOp := []
set_option maxRecDepth 100000 in
set_option maxHeartbeats 4000000 in
theorem C9_9 (d : Nat) (M : zM) (hn : znx M = 78) : zgo true d 9 0 [zr 2 9] [] M = some (none, zdo D9_9 M) := by
  refine (B9_0 d 9 M).trans ?_
  rw [show zdo D9_9 M = M by unfold zdo D9_9; rw [List.foldl_nil]]
set_option maxRecDepth 100000 in
theorem T129_49 (d : Nat) (M : zM) (hn : znx M = 1) : zgo true (d + 3) 129 150 [zr 12 0, zi 9] [zr 2 9, zi 9, zr 50 0] (N129_40 M) = zgo true (d + 3) 129 154 [zr 12 0, zi 9] [zr 2 9, zi 9, zr 50 0] (N129_40 M) := by
  have hX : znx (N129_40 M) = 78 := H129_40 M hn
  have hf0 : zgR (N129_40 M) 12 0 4 = (50, 0) := G129_40_0 M
  have hf1 : zgR (N129_40 M) 12 0 5 = (51, 0) := G129_40_1 M
  have hf2 : zgR (N129_40 M) 12 0 7 = (53, 0) := G129_40_2 M
  generalize hN : N129_40 M = X at hX hf0 hf1 hf2 ⊢
  refine (B129_150 (d + 2) 9 9 9 X).trans ?_
  show Option.bind (zgo true (d + 2) 9 0 [zr 2 9] [] (X)) _ = _
  refine zbind_of (C9_9 (d + 2) _ hX) ?_
  show zgo true (d + 3) 129 154 [zr 12 0, zi 9] [zr 2 9, zi 9, zr 50 0] (zdo D9_9 (X)) = _
  rw [show zdo D9_9 (X) = X by unfold zdo D9_9; rw [List.foldl_nil]]
  skip
def N129_41 (M : zM) : zM := zdo [(1, 50, 0, 9, (2, 9), 0)] (N129_40 M)
set_option maxRecDepth 100000 in
theorem T129_50 (d : Nat) (M : zM) (hn : znx M = 1) : zgo true (d + 3) 129 154 [zr 12 0, zi 9] [zr 2 9, zi 9, zr 50 0] (N129_40 M) = zgo true (d + 3) 129 133 [zr 12 0, zi 10] [] (N129_41 M) := by
  have hX : znx (N129_40 M) = 78 := H129_40 M hn
  have hf0 : zgR (N129_40 M) 12 0 4 = (50, 0) := G129_40_0 M
  have hf1 : zgR (N129_40 M) 12 0 5 = (51, 0) := G129_40_1 M
  have hf2 : zgR (N129_40 M) 12 0 7 = (53, 0) := G129_40_2 M
  generalize hN : N129_40 M = X at hX hf0 hf1 hf2 ⊢
  refine (B129_154 (d + 3) 9 9 9 X).trans ?_
  show zgo true (d + 3) 129 133 [zr 12 0, zi 10] [] (zsR X 50 0 ((9 : Int32).toNatClampNeg) (2, 9)) = _
  rw [show zsR X 50 0 ((9 : Int32).toNatClampNeg) (2, 9) = zdo [(1, 50, 0, 9, (2, 9), 0)] X from rfl]
  subst hN
  rfl
theorem H129_41 (M : zM) (hn : znx M = 1) : znx (N129_41 M) = 78 := by
  show znx (zdo [(1, 50, 0, 9, (2, 9), 0)] (N129_40 M)) = _
  rw [zdo_nx, H129_40 M hn]
  rfl
set_option maxRecDepth 100000 in
theorem G129_41_0 (M : zM) : zgR (N129_41 M) 12 0 4 = (50, 0) := by
  show zgR (zdo [(1, 50, 0, 9, (2, 9), 0)] (N129_40 M)) 12 0 4 = _
  rw [zdo_R _ _ (by decide), G129_40_0 M]
set_option maxRecDepth 100000 in
theorem G129_41_1 (M : zM) : zgR (N129_41 M) 12 0 5 = (51, 0) := by
  show zgR (zdo [(1, 50, 0, 9, (2, 9), 0)] (N129_40 M)) 12 0 5 = _
  rw [zdo_R _ _ (by decide), G129_40_1 M]
set_option maxRecDepth 100000 in
theorem G129_41_2 (M : zM) : zgR (N129_41 M) 12 0 7 = (53, 0) := by
  show zgR (zdo [(1, 50, 0, 9, (2, 9), 0)] (N129_40 M)) 12 0 7 = _
  rw [zdo_R _ _ (by decide), G129_40_2 M]
set_option maxRecDepth 100000 in
theorem T129_51 (d : Nat) (M : zM) (hn : znx M = 1) : zgo true (d + 3) 129 133 [zr 12 0, zi 10] [] (N129_41 M) = zgo true (d + 3) 129 163 [zr 12 0, zi 0] [] (N129_41 M) := by
  have hX : znx (N129_41 M) = 78 := H129_41 M hn
  have hf0 : zgR (N129_41 M) 12 0 4 = (50, 0) := G129_41_0 M
  have hf1 : zgR (N129_41 M) 12 0 5 = (51, 0) := G129_41_1 M
  have hf2 : zgR (N129_41 M) 12 0 7 = (53, 0) := G129_41_2 M
  generalize hN : N129_41 M = X at hX hf0 hf1 hf2 ⊢
  refine (B129_133 (d + 3) 10 X).trans ?_
  rw [show zgR (X) 12 0 4 = (50, 0) from hf0]
  show zgo true (d + 3) 129 163 [zr 12 0, zi 0] [] (X) = _
  subst hN
  rfl
def N129_42 (M : zM) : zM := zdo [(0, 4, 0, 0, (0, 0), 0)] (N129_41 M)
set_option maxRecDepth 100000 in
theorem T129_52 (d : Nat) (M : zM) (hn : znx M = 1) : zgo true (d + 3) 129 163 [zr 12 0, zi 0] [] (N129_41 M) = zgo true (d + 3) 129 180 [zr 12 0, zi 0] [zr 4 0, zi 0, zr 51 0] (N129_42 M) := by
  have hX : znx (N129_41 M) = 78 := H129_41 M hn
  have hf0 : zgR (N129_41 M) 12 0 4 = (50, 0) := G129_41_0 M
  have hf1 : zgR (N129_41 M) 12 0 5 = (51, 0) := G129_41_1 M
  have hf2 : zgR (N129_41 M) 12 0 7 = (53, 0) := G129_41_2 M
  generalize hN : N129_41 M = X at hX hf0 hf1 hf2 ⊢
  refine (B129_163 (d + 3) 0 X).trans ?_
  rw [show zgR (X) 12 0 5 = (51, 0) from hf1]
  have hz : znx X = 78 := hX
  rw [hz]
  clear hz
  show zgo true (d + 3) 129 180 [zr 12 0, zi 0] [zr 4 0, zi 0, zr 51 0] (znew X 4 0) = _
  rw [show znew X 4 0 = zdo [(0, 4, 0, 0, (0, 0), 0)] X from rfl]
  subst hN
  rfl
theorem H129_42 (M : zM) (hn : znx M = 1) : znx (N129_42 M) = 79 := by
  show znx (zdo [(0, 4, 0, 0, (0, 0), 0)] (N129_41 M)) = _
  rw [zdo_nx, H129_41 M hn]
  rfl
set_option maxRecDepth 100000 in
theorem G129_42_0 (M : zM) : zgR (N129_42 M) 12 0 4 = (50, 0) := by
  show zgR (zdo [(0, 4, 0, 0, (0, 0), 0)] (N129_41 M)) 12 0 4 = _
  rw [zdo_R _ _ (by decide), G129_41_0 M]
set_option maxRecDepth 100000 in
theorem G129_42_1 (M : zM) : zgR (N129_42 M) 12 0 5 = (51, 0) := by
  show zgR (zdo [(0, 4, 0, 0, (0, 0), 0)] (N129_41 M)) 12 0 5 = _
  rw [zdo_R _ _ (by decide), G129_41_1 M]
set_option maxRecDepth 100000 in
theorem G129_42_2 (M : zM) : zgR (N129_42 M) 12 0 7 = (53, 0) := by
  show zgR (zdo [(0, 4, 0, 0, (0, 0), 0)] (N129_41 M)) 12 0 7 = _
  rw [zdo_R _ _ (by decide), G129_41_2 M]
def D20_0 : List zOp := [(0, 24, 0, 0, (0, 0), 0), (1, 4, 0, 0, (24, 0), 0), (0, 25, 0, 0, (0, 0), 0), (1, 4, 0, 1, (25, 0), 0), (0, 26, 0, 0, (0, 0), 0), (1, 4, 0, 2, (26, 0), 0), (0, 27, 0, 0, (0, 0), 0), (1, 4, 0, 3, (27, 0), 0), (0, 28, 0, 0, (0, 0), 0), (1, 4, 0, 4, (28, 0), 0)]
set_option maxRecDepth 100000 in
set_option maxHeartbeats 4000000 in
theorem C20_0 (d : Nat) (M : zM) (hn : znx M = 79) : zgo true d 20 0 [zr 4 0] [] M = some (none, zdo D20_0 M) := by
  refine (B20_0 d 0 M).trans ?_
  have hz : znx M = 79 := hn
  rw [hz]
  clear hz
  show zgo true d 20 9 [zr 4 0] [zr 24 0, zr 4 0] (znew M 24 0) = _
  generalize hM1 : znew M 24 0 = M1
  have hn1 : znx M1 = 80 := by rw [← hM1]; exact congrArg (· + 1) hn
  refine (B20_9 d 0 0 24 0 M1).trans ?_
  have hz : znx (zsR M1 4 0 0 (24, 0)) = 80 := hn1
  rw [hz]
  clear hz
  show zgo true d 20 17 [zr 4 0] [zr 25 0, zr 4 0] (znew (zsR M1 4 0 0 (24, 0)) 25 0) = _
  generalize hM2 : znew (zsR M1 4 0 0 (24, 0)) 25 0 = M2
  have hn2 : znx M2 = 81 := by rw [← hM2]; exact congrArg (· + 1) hn1
  clear hn1
  refine (B20_17 d 0 0 25 0 M2).trans ?_
  have hz : znx (zsR M2 4 0 1 (25, 0)) = 81 := hn2
  rw [hz]
  clear hz
  show zgo true d 20 25 [zr 4 0] [zr 26 0, zr 4 0] (znew (zsR M2 4 0 1 (25, 0)) 26 0) = _
  generalize hM3 : znew (zsR M2 4 0 1 (25, 0)) 26 0 = M3
  have hn3 : znx M3 = 82 := by rw [← hM3]; exact congrArg (· + 1) hn2
  clear hn2
  refine (B20_25 d 0 0 26 0 M3).trans ?_
  show zgo true d 20 28 [zr 4 0] [] (zsR M3 4 0 2 (26, 0)) = _
  generalize hM4 : zsR M3 4 0 2 (26, 0) = M4
  have hn4 : znx M4 = 82 := by rw [← hM4]; exact hn3
  clear hn3
  refine (B20_28 d 0 M4).trans ?_
  have hz : znx M4 = 82 := hn4
  rw [hz]
  clear hz
  show zgo true d 20 33 [zr 4 0] [zr 27 0, zr 4 0] (znew M4 27 0) = _
  generalize hM5 : znew M4 27 0 = M5
  have hn5 : znx M5 = 83 := by rw [← hM5]; exact congrArg (· + 1) hn4
  clear hn4
  refine (B20_33 d 0 0 27 0 M5).trans ?_
  have hz : znx (zsR M5 4 0 3 (27, 0)) = 83 := hn5
  rw [hz]
  clear hz
  show zgo true d 20 41 [zr 4 0] [zr 28 0, zr 4 0] (znew (zsR M5 4 0 3 (27, 0)) 28 0) = _
  generalize hM6 : znew (zsR M5 4 0 3 (27, 0)) 28 0 = M6
  have hn6 : znx M6 = 84 := by rw [← hM6]; exact congrArg (· + 1) hn5
  clear hn5
  refine (B20_41 d 0 0 28 0 M6).trans ?_
  generalize hM7 : zsR M6 4 0 4 (28, 0) = M7
  have hn7 : znx M7 = 84 := by rw [← hM7]; exact hn6
  clear hn6
  subst hM7 hM6 hM5 hM4 hM3 hM2 hM1
  rfl
def N129_43 (M : zM) : zM := zdo D20_0 (N129_42 M)
set_option maxRecDepth 100000 in
theorem T129_53 (d : Nat) (M : zM) (hn : znx M = 1) : zgo true (d + 3) 129 180 [zr 12 0, zi 0] [zr 4 0, zi 0, zr 51 0] (N129_42 M) = zgo true (d + 3) 129 184 [zr 12 0, zi 0] [zr 4 0, zi 0, zr 51 0] (N129_43 M) := by
  have hX : znx (N129_42 M) = 79 := H129_42 M hn
  have hf0 : zgR (N129_42 M) 12 0 4 = (50, 0) := G129_42_0 M
  have hf1 : zgR (N129_42 M) 12 0 5 = (51, 0) := G129_42_1 M
  have hf2 : zgR (N129_42 M) 12 0 7 = (53, 0) := G129_42_2 M
  generalize hN : N129_42 M = X at hX hf0 hf1 hf2 ⊢
  refine (B129_180 (d + 2) 0 0 0 X).trans ?_
  show Option.bind (zgo true (d + 2) 20 0 [zr 4 0] [] (X)) _ = _
  refine zbind_of (C20_0 (d + 2) _ hX) ?_
  show zgo true (d + 3) 129 184 [zr 12 0, zi 0] [zr 4 0, zi 0, zr 51 0] (zdo D20_0 (X)) = _
  subst hN
  rfl
theorem H129_43 (M : zM) (hn : znx M = 1) : znx (N129_43 M) = 84 := by
  show znx (zdo D20_0 (N129_42 M)) = _
  rw [zdo_nx, H129_42 M hn]
  rfl
set_option maxRecDepth 100000 in
theorem G129_43_0 (M : zM) : zgR (N129_43 M) 12 0 4 = (50, 0) := by
  show zgR (zdo D20_0 (N129_42 M)) 12 0 4 = _
  rw [zdo_R _ _ (by decide), G129_42_0 M]
set_option maxRecDepth 100000 in
theorem G129_43_1 (M : zM) : zgR (N129_43 M) 12 0 5 = (51, 0) := by
  show zgR (zdo D20_0 (N129_42 M)) 12 0 5 = _
  rw [zdo_R _ _ (by decide), G129_42_1 M]
set_option maxRecDepth 100000 in
theorem G129_43_2 (M : zM) : zgR (N129_43 M) 12 0 7 = (53, 0) := by
  show zgR (zdo D20_0 (N129_42 M)) 12 0 7 = _
  rw [zdo_R _ _ (by decide), G129_42_2 M]
def N129_44 (M : zM) : zM := zdo [(1, 51, 0, 0, (4, 0), 0)] (N129_43 M)
set_option maxRecDepth 100000 in
theorem T129_54 (d : Nat) (M : zM) (hn : znx M = 1) : zgo true (d + 3) 129 184 [zr 12 0, zi 0] [zr 4 0, zi 0, zr 51 0] (N129_43 M) = zgo true (d + 3) 129 163 [zr 12 0, zi 1] [] (N129_44 M) := by
  have hX : znx (N129_43 M) = 84 := H129_43 M hn
  have hf0 : zgR (N129_43 M) 12 0 4 = (50, 0) := G129_43_0 M
  have hf1 : zgR (N129_43 M) 12 0 5 = (51, 0) := G129_43_1 M
  have hf2 : zgR (N129_43 M) 12 0 7 = (53, 0) := G129_43_2 M
  generalize hN : N129_43 M = X at hX hf0 hf1 hf2 ⊢
  refine (B129_184 (d + 3) 0 0 0 X).trans ?_
  show zgo true (d + 3) 129 163 [zr 12 0, zi 1] [] (zsR X 51 0 ((0 : Int32).toNatClampNeg) (4, 0)) = _
  rw [show zsR X 51 0 ((0 : Int32).toNatClampNeg) (4, 0) = zdo [(1, 51, 0, 0, (4, 0), 0)] X from rfl]
  subst hN
  rfl
theorem H129_44 (M : zM) (hn : znx M = 1) : znx (N129_44 M) = 84 := by
  show znx (zdo [(1, 51, 0, 0, (4, 0), 0)] (N129_43 M)) = _
  rw [zdo_nx, H129_43 M hn]
  rfl
set_option maxRecDepth 100000 in
theorem G129_44_0 (M : zM) : zgR (N129_44 M) 12 0 4 = (50, 0) := by
  show zgR (zdo [(1, 51, 0, 0, (4, 0), 0)] (N129_43 M)) 12 0 4 = _
  rw [zdo_R _ _ (by decide), G129_43_0 M]
set_option maxRecDepth 100000 in
theorem G129_44_1 (M : zM) : zgR (N129_44 M) 12 0 5 = (51, 0) := by
  show zgR (zdo [(1, 51, 0, 0, (4, 0), 0)] (N129_43 M)) 12 0 5 = _
  rw [zdo_R _ _ (by decide), G129_43_1 M]
set_option maxRecDepth 100000 in
theorem G129_44_2 (M : zM) : zgR (N129_44 M) 12 0 7 = (53, 0) := by
  show zgR (zdo [(1, 51, 0, 0, (4, 0), 0)] (N129_43 M)) 12 0 7 = _
  rw [zdo_R _ _ (by decide), G129_43_2 M]
def N129_45 (M : zM) : zM := zdo [(0, 4, 1, 0, (0, 0), 0)] (N129_44 M)
set_option maxRecDepth 100000 in
theorem T129_55 (d : Nat) (M : zM) (hn : znx M = 1) : zgo true (d + 3) 129 163 [zr 12 0, zi 1] [] (N129_44 M) = zgo true (d + 3) 129 180 [zr 12 0, zi 1] [zr 4 1, zi 1, zr 51 0] (N129_45 M) := by
  have hX : znx (N129_44 M) = 84 := H129_44 M hn
  have hf0 : zgR (N129_44 M) 12 0 4 = (50, 0) := G129_44_0 M
  have hf1 : zgR (N129_44 M) 12 0 5 = (51, 0) := G129_44_1 M
  have hf2 : zgR (N129_44 M) 12 0 7 = (53, 0) := G129_44_2 M
  generalize hN : N129_44 M = X at hX hf0 hf1 hf2 ⊢
  refine (B129_163 (d + 3) 1 X).trans ?_
  rw [show zgR (X) 12 0 5 = (51, 0) from hf1]
  have hz : znx X = 84 := hX
  rw [hz]
  clear hz
  show zgo true (d + 3) 129 180 [zr 12 0, zi 1] [zr 4 1, zi 1, zr 51 0] (znew X 4 1) = _
  rw [show znew X 4 1 = zdo [(0, 4, 1, 0, (0, 0), 0)] X from rfl]
  subst hN
  rfl
theorem H129_45 (M : zM) (hn : znx M = 1) : znx (N129_45 M) = 85 := by
  show znx (zdo [(0, 4, 1, 0, (0, 0), 0)] (N129_44 M)) = _
  rw [zdo_nx, H129_44 M hn]
  rfl
set_option maxRecDepth 100000 in
theorem G129_45_0 (M : zM) : zgR (N129_45 M) 12 0 4 = (50, 0) := by
  show zgR (zdo [(0, 4, 1, 0, (0, 0), 0)] (N129_44 M)) 12 0 4 = _
  rw [zdo_R _ _ (by decide), G129_44_0 M]
set_option maxRecDepth 100000 in
theorem G129_45_1 (M : zM) : zgR (N129_45 M) 12 0 5 = (51, 0) := by
  show zgR (zdo [(0, 4, 1, 0, (0, 0), 0)] (N129_44 M)) 12 0 5 = _
  rw [zdo_R _ _ (by decide), G129_44_1 M]
set_option maxRecDepth 100000 in
theorem G129_45_2 (M : zM) : zgR (N129_45 M) 12 0 7 = (53, 0) := by
  show zgR (zdo [(0, 4, 1, 0, (0, 0), 0)] (N129_44 M)) 12 0 7 = _
  rw [zdo_R _ _ (by decide), G129_44_2 M]
def D20_1 : List zOp := [(0, 24, 1, 0, (0, 0), 0), (1, 4, 1, 0, (24, 1), 0), (0, 25, 1, 0, (0, 0), 0), (1, 4, 1, 1, (25, 1), 0), (0, 26, 1, 0, (0, 0), 0), (1, 4, 1, 2, (26, 1), 0), (0, 27, 1, 0, (0, 0), 0), (1, 4, 1, 3, (27, 1), 0), (0, 28, 1, 0, (0, 0), 0), (1, 4, 1, 4, (28, 1), 0)]
set_option maxRecDepth 100000 in
set_option maxHeartbeats 4000000 in
theorem C20_1 (d : Nat) (M : zM) (hn : znx M = 85) : zgo true d 20 0 [zr 4 1] [] M = some (none, zdo D20_1 M) := by
  refine (B20_0 d 1 M).trans ?_
  have hz : znx M = 85 := hn
  rw [hz]
  clear hz
  show zgo true d 20 9 [zr 4 1] [zr 24 1, zr 4 1] (znew M 24 1) = _
  generalize hM1 : znew M 24 1 = M1
  have hn1 : znx M1 = 86 := by rw [← hM1]; exact congrArg (· + 1) hn
  refine (B20_9 d 1 1 24 1 M1).trans ?_
  have hz : znx (zsR M1 4 1 0 (24, 1)) = 86 := hn1
  rw [hz]
  clear hz
  show zgo true d 20 17 [zr 4 1] [zr 25 1, zr 4 1] (znew (zsR M1 4 1 0 (24, 1)) 25 1) = _
  generalize hM2 : znew (zsR M1 4 1 0 (24, 1)) 25 1 = M2
  have hn2 : znx M2 = 87 := by rw [← hM2]; exact congrArg (· + 1) hn1
  clear hn1
  refine (B20_17 d 1 1 25 1 M2).trans ?_
  have hz : znx (zsR M2 4 1 1 (25, 1)) = 87 := hn2
  rw [hz]
  clear hz
  show zgo true d 20 25 [zr 4 1] [zr 26 1, zr 4 1] (znew (zsR M2 4 1 1 (25, 1)) 26 1) = _
  generalize hM3 : znew (zsR M2 4 1 1 (25, 1)) 26 1 = M3
  have hn3 : znx M3 = 88 := by rw [← hM3]; exact congrArg (· + 1) hn2
  clear hn2
  refine (B20_25 d 1 1 26 1 M3).trans ?_
  show zgo true d 20 28 [zr 4 1] [] (zsR M3 4 1 2 (26, 1)) = _
  generalize hM4 : zsR M3 4 1 2 (26, 1) = M4
  have hn4 : znx M4 = 88 := by rw [← hM4]; exact hn3
  clear hn3
  refine (B20_28 d 1 M4).trans ?_
  have hz : znx M4 = 88 := hn4
  rw [hz]
  clear hz
  show zgo true d 20 33 [zr 4 1] [zr 27 1, zr 4 1] (znew M4 27 1) = _
  generalize hM5 : znew M4 27 1 = M5
  have hn5 : znx M5 = 89 := by rw [← hM5]; exact congrArg (· + 1) hn4
  clear hn4
  refine (B20_33 d 1 1 27 1 M5).trans ?_
  have hz : znx (zsR M5 4 1 3 (27, 1)) = 89 := hn5
  rw [hz]
  clear hz
  show zgo true d 20 41 [zr 4 1] [zr 28 1, zr 4 1] (znew (zsR M5 4 1 3 (27, 1)) 28 1) = _
  generalize hM6 : znew (zsR M5 4 1 3 (27, 1)) 28 1 = M6
  have hn6 : znx M6 = 90 := by rw [← hM6]; exact congrArg (· + 1) hn5
  clear hn5
  refine (B20_41 d 1 1 28 1 M6).trans ?_
  generalize hM7 : zsR M6 4 1 4 (28, 1) = M7
  have hn7 : znx M7 = 90 := by rw [← hM7]; exact hn6
  clear hn6
  subst hM7 hM6 hM5 hM4 hM3 hM2 hM1
  rfl
def N129_46 (M : zM) : zM := zdo D20_1 (N129_45 M)
set_option maxRecDepth 100000 in
theorem T129_56 (d : Nat) (M : zM) (hn : znx M = 1) : zgo true (d + 3) 129 180 [zr 12 0, zi 1] [zr 4 1, zi 1, zr 51 0] (N129_45 M) = zgo true (d + 3) 129 184 [zr 12 0, zi 1] [zr 4 1, zi 1, zr 51 0] (N129_46 M) := by
  have hX : znx (N129_45 M) = 85 := H129_45 M hn
  have hf0 : zgR (N129_45 M) 12 0 4 = (50, 0) := G129_45_0 M
  have hf1 : zgR (N129_45 M) 12 0 5 = (51, 0) := G129_45_1 M
  have hf2 : zgR (N129_45 M) 12 0 7 = (53, 0) := G129_45_2 M
  generalize hN : N129_45 M = X at hX hf0 hf1 hf2 ⊢
  refine (B129_180 (d + 2) 1 1 1 X).trans ?_
  show Option.bind (zgo true (d + 2) 20 0 [zr 4 1] [] (X)) _ = _
  refine zbind_of (C20_1 (d + 2) _ hX) ?_
  show zgo true (d + 3) 129 184 [zr 12 0, zi 1] [zr 4 1, zi 1, zr 51 0] (zdo D20_1 (X)) = _
  subst hN
  rfl
theorem H129_46 (M : zM) (hn : znx M = 1) : znx (N129_46 M) = 90 := by
  show znx (zdo D20_1 (N129_45 M)) = _
  rw [zdo_nx, H129_45 M hn]
  rfl
set_option maxRecDepth 100000 in
theorem G129_46_0 (M : zM) : zgR (N129_46 M) 12 0 4 = (50, 0) := by
  show zgR (zdo D20_1 (N129_45 M)) 12 0 4 = _
  rw [zdo_R _ _ (by decide), G129_45_0 M]
set_option maxRecDepth 100000 in
theorem G129_46_1 (M : zM) : zgR (N129_46 M) 12 0 5 = (51, 0) := by
  show zgR (zdo D20_1 (N129_45 M)) 12 0 5 = _
  rw [zdo_R _ _ (by decide), G129_45_1 M]
set_option maxRecDepth 100000 in
theorem G129_46_2 (M : zM) : zgR (N129_46 M) 12 0 7 = (53, 0) := by
  show zgR (zdo D20_1 (N129_45 M)) 12 0 7 = _
  rw [zdo_R _ _ (by decide), G129_45_2 M]
def N129_47 (M : zM) : zM := zdo [(1, 51, 0, 1, (4, 1), 0)] (N129_46 M)
set_option maxRecDepth 100000 in
theorem T129_57 (d : Nat) (M : zM) (hn : znx M = 1) : zgo true (d + 3) 129 184 [zr 12 0, zi 1] [zr 4 1, zi 1, zr 51 0] (N129_46 M) = zgo true (d + 3) 129 163 [zr 12 0, zi 2] [] (N129_47 M) := by
  have hX : znx (N129_46 M) = 90 := H129_46 M hn
  have hf0 : zgR (N129_46 M) 12 0 4 = (50, 0) := G129_46_0 M
  have hf1 : zgR (N129_46 M) 12 0 5 = (51, 0) := G129_46_1 M
  have hf2 : zgR (N129_46 M) 12 0 7 = (53, 0) := G129_46_2 M
  generalize hN : N129_46 M = X at hX hf0 hf1 hf2 ⊢
  refine (B129_184 (d + 3) 1 1 1 X).trans ?_
  show zgo true (d + 3) 129 163 [zr 12 0, zi 2] [] (zsR X 51 0 ((1 : Int32).toNatClampNeg) (4, 1)) = _
  rw [show zsR X 51 0 ((1 : Int32).toNatClampNeg) (4, 1) = zdo [(1, 51, 0, 1, (4, 1), 0)] X from rfl]
  subst hN
  rfl
theorem H129_47 (M : zM) (hn : znx M = 1) : znx (N129_47 M) = 90 := by
  show znx (zdo [(1, 51, 0, 1, (4, 1), 0)] (N129_46 M)) = _
  rw [zdo_nx, H129_46 M hn]
  rfl
set_option maxRecDepth 100000 in
theorem G129_47_0 (M : zM) : zgR (N129_47 M) 12 0 4 = (50, 0) := by
  show zgR (zdo [(1, 51, 0, 1, (4, 1), 0)] (N129_46 M)) 12 0 4 = _
  rw [zdo_R _ _ (by decide), G129_46_0 M]
set_option maxRecDepth 100000 in
theorem G129_47_1 (M : zM) : zgR (N129_47 M) 12 0 5 = (51, 0) := by
  show zgR (zdo [(1, 51, 0, 1, (4, 1), 0)] (N129_46 M)) 12 0 5 = _
  rw [zdo_R _ _ (by decide), G129_46_1 M]
set_option maxRecDepth 100000 in
theorem G129_47_2 (M : zM) : zgR (N129_47 M) 12 0 7 = (53, 0) := by
  show zgR (zdo [(1, 51, 0, 1, (4, 1), 0)] (N129_46 M)) 12 0 7 = _
  rw [zdo_R _ _ (by decide), G129_46_2 M]
def N129_48 (M : zM) : zM := zdo [(0, 4, 2, 0, (0, 0), 0)] (N129_47 M)
set_option maxRecDepth 100000 in
theorem T129_58 (d : Nat) (M : zM) (hn : znx M = 1) : zgo true (d + 3) 129 163 [zr 12 0, zi 2] [] (N129_47 M) = zgo true (d + 3) 129 180 [zr 12 0, zi 2] [zr 4 2, zi 2, zr 51 0] (N129_48 M) := by
  have hX : znx (N129_47 M) = 90 := H129_47 M hn
  have hf0 : zgR (N129_47 M) 12 0 4 = (50, 0) := G129_47_0 M
  have hf1 : zgR (N129_47 M) 12 0 5 = (51, 0) := G129_47_1 M
  have hf2 : zgR (N129_47 M) 12 0 7 = (53, 0) := G129_47_2 M
  generalize hN : N129_47 M = X at hX hf0 hf1 hf2 ⊢
  refine (B129_163 (d + 3) 2 X).trans ?_
  rw [show zgR (X) 12 0 5 = (51, 0) from hf1]
  have hz : znx X = 90 := hX
  rw [hz]
  clear hz
  show zgo true (d + 3) 129 180 [zr 12 0, zi 2] [zr 4 2, zi 2, zr 51 0] (znew X 4 2) = _
  rw [show znew X 4 2 = zdo [(0, 4, 2, 0, (0, 0), 0)] X from rfl]
  subst hN
  rfl
theorem H129_48 (M : zM) (hn : znx M = 1) : znx (N129_48 M) = 91 := by
  show znx (zdo [(0, 4, 2, 0, (0, 0), 0)] (N129_47 M)) = _
  rw [zdo_nx, H129_47 M hn]
  rfl
set_option maxRecDepth 100000 in
theorem G129_48_0 (M : zM) : zgR (N129_48 M) 12 0 4 = (50, 0) := by
  show zgR (zdo [(0, 4, 2, 0, (0, 0), 0)] (N129_47 M)) 12 0 4 = _
  rw [zdo_R _ _ (by decide), G129_47_0 M]
set_option maxRecDepth 100000 in
theorem G129_48_1 (M : zM) : zgR (N129_48 M) 12 0 5 = (51, 0) := by
  show zgR (zdo [(0, 4, 2, 0, (0, 0), 0)] (N129_47 M)) 12 0 5 = _
  rw [zdo_R _ _ (by decide), G129_47_1 M]
set_option maxRecDepth 100000 in
theorem G129_48_2 (M : zM) : zgR (N129_48 M) 12 0 7 = (53, 0) := by
  show zgR (zdo [(0, 4, 2, 0, (0, 0), 0)] (N129_47 M)) 12 0 7 = _
  rw [zdo_R _ _ (by decide), G129_47_2 M]
def D20_2 : List zOp := [(0, 24, 2, 0, (0, 0), 0), (1, 4, 2, 0, (24, 2), 0), (0, 25, 2, 0, (0, 0), 0), (1, 4, 2, 1, (25, 2), 0), (0, 26, 2, 0, (0, 0), 0), (1, 4, 2, 2, (26, 2), 0), (0, 27, 2, 0, (0, 0), 0), (1, 4, 2, 3, (27, 2), 0), (0, 28, 2, 0, (0, 0), 0), (1, 4, 2, 4, (28, 2), 0)]
set_option maxRecDepth 100000 in
set_option maxHeartbeats 4000000 in
theorem C20_2 (d : Nat) (M : zM) (hn : znx M = 91) : zgo true d 20 0 [zr 4 2] [] M = some (none, zdo D20_2 M) := by
  refine (B20_0 d 2 M).trans ?_
  have hz : znx M = 91 := hn
  rw [hz]
  clear hz
  show zgo true d 20 9 [zr 4 2] [zr 24 2, zr 4 2] (znew M 24 2) = _
  generalize hM1 : znew M 24 2 = M1
  have hn1 : znx M1 = 92 := by rw [← hM1]; exact congrArg (· + 1) hn
  refine (B20_9 d 2 2 24 2 M1).trans ?_
  have hz : znx (zsR M1 4 2 0 (24, 2)) = 92 := hn1
  rw [hz]
  clear hz
  show zgo true d 20 17 [zr 4 2] [zr 25 2, zr 4 2] (znew (zsR M1 4 2 0 (24, 2)) 25 2) = _
  generalize hM2 : znew (zsR M1 4 2 0 (24, 2)) 25 2 = M2
  have hn2 : znx M2 = 93 := by rw [← hM2]; exact congrArg (· + 1) hn1
  clear hn1
  refine (B20_17 d 2 2 25 2 M2).trans ?_
  have hz : znx (zsR M2 4 2 1 (25, 2)) = 93 := hn2
  rw [hz]
  clear hz
  show zgo true d 20 25 [zr 4 2] [zr 26 2, zr 4 2] (znew (zsR M2 4 2 1 (25, 2)) 26 2) = _
  generalize hM3 : znew (zsR M2 4 2 1 (25, 2)) 26 2 = M3
  have hn3 : znx M3 = 94 := by rw [← hM3]; exact congrArg (· + 1) hn2
  clear hn2
  refine (B20_25 d 2 2 26 2 M3).trans ?_
  show zgo true d 20 28 [zr 4 2] [] (zsR M3 4 2 2 (26, 2)) = _
  generalize hM4 : zsR M3 4 2 2 (26, 2) = M4
  have hn4 : znx M4 = 94 := by rw [← hM4]; exact hn3
  clear hn3
  refine (B20_28 d 2 M4).trans ?_
  have hz : znx M4 = 94 := hn4
  rw [hz]
  clear hz
  show zgo true d 20 33 [zr 4 2] [zr 27 2, zr 4 2] (znew M4 27 2) = _
  generalize hM5 : znew M4 27 2 = M5
  have hn5 : znx M5 = 95 := by rw [← hM5]; exact congrArg (· + 1) hn4
  clear hn4
  refine (B20_33 d 2 2 27 2 M5).trans ?_
  have hz : znx (zsR M5 4 2 3 (27, 2)) = 95 := hn5
  rw [hz]
  clear hz
  show zgo true d 20 41 [zr 4 2] [zr 28 2, zr 4 2] (znew (zsR M5 4 2 3 (27, 2)) 28 2) = _
  generalize hM6 : znew (zsR M5 4 2 3 (27, 2)) 28 2 = M6
  have hn6 : znx M6 = 96 := by rw [← hM6]; exact congrArg (· + 1) hn5
  clear hn5
  refine (B20_41 d 2 2 28 2 M6).trans ?_
  generalize hM7 : zsR M6 4 2 4 (28, 2) = M7
  have hn7 : znx M7 = 96 := by rw [← hM7]; exact hn6
  clear hn6
  subst hM7 hM6 hM5 hM4 hM3 hM2 hM1
  rfl
def N129_49 (M : zM) : zM := zdo D20_2 (N129_48 M)
set_option maxRecDepth 100000 in
theorem T129_59 (d : Nat) (M : zM) (hn : znx M = 1) : zgo true (d + 3) 129 180 [zr 12 0, zi 2] [zr 4 2, zi 2, zr 51 0] (N129_48 M) = zgo true (d + 3) 129 184 [zr 12 0, zi 2] [zr 4 2, zi 2, zr 51 0] (N129_49 M) := by
  have hX : znx (N129_48 M) = 91 := H129_48 M hn
  have hf0 : zgR (N129_48 M) 12 0 4 = (50, 0) := G129_48_0 M
  have hf1 : zgR (N129_48 M) 12 0 5 = (51, 0) := G129_48_1 M
  have hf2 : zgR (N129_48 M) 12 0 7 = (53, 0) := G129_48_2 M
  generalize hN : N129_48 M = X at hX hf0 hf1 hf2 ⊢
  refine (B129_180 (d + 2) 2 2 2 X).trans ?_
  show Option.bind (zgo true (d + 2) 20 0 [zr 4 2] [] (X)) _ = _
  refine zbind_of (C20_2 (d + 2) _ hX) ?_
  show zgo true (d + 3) 129 184 [zr 12 0, zi 2] [zr 4 2, zi 2, zr 51 0] (zdo D20_2 (X)) = _
  subst hN
  rfl
theorem H129_49 (M : zM) (hn : znx M = 1) : znx (N129_49 M) = 96 := by
  show znx (zdo D20_2 (N129_48 M)) = _
  rw [zdo_nx, H129_48 M hn]
  rfl
set_option maxRecDepth 100000 in
theorem G129_49_0 (M : zM) : zgR (N129_49 M) 12 0 4 = (50, 0) := by
  show zgR (zdo D20_2 (N129_48 M)) 12 0 4 = _
  rw [zdo_R _ _ (by decide), G129_48_0 M]
set_option maxRecDepth 100000 in
theorem G129_49_1 (M : zM) : zgR (N129_49 M) 12 0 5 = (51, 0) := by
  show zgR (zdo D20_2 (N129_48 M)) 12 0 5 = _
  rw [zdo_R _ _ (by decide), G129_48_1 M]
set_option maxRecDepth 100000 in
theorem G129_49_2 (M : zM) : zgR (N129_49 M) 12 0 7 = (53, 0) := by
  show zgR (zdo D20_2 (N129_48 M)) 12 0 7 = _
  rw [zdo_R _ _ (by decide), G129_48_2 M]
def N129_50 (M : zM) : zM := zdo [(1, 51, 0, 2, (4, 2), 0)] (N129_49 M)
set_option maxRecDepth 100000 in
theorem T129_60 (d : Nat) (M : zM) (hn : znx M = 1) : zgo true (d + 3) 129 184 [zr 12 0, zi 2] [zr 4 2, zi 2, zr 51 0] (N129_49 M) = zgo true (d + 3) 129 163 [zr 12 0, zi 3] [] (N129_50 M) := by
  have hX : znx (N129_49 M) = 96 := H129_49 M hn
  have hf0 : zgR (N129_49 M) 12 0 4 = (50, 0) := G129_49_0 M
  have hf1 : zgR (N129_49 M) 12 0 5 = (51, 0) := G129_49_1 M
  have hf2 : zgR (N129_49 M) 12 0 7 = (53, 0) := G129_49_2 M
  generalize hN : N129_49 M = X at hX hf0 hf1 hf2 ⊢
  refine (B129_184 (d + 3) 2 2 2 X).trans ?_
  show zgo true (d + 3) 129 163 [zr 12 0, zi 3] [] (zsR X 51 0 ((2 : Int32).toNatClampNeg) (4, 2)) = _
  rw [show zsR X 51 0 ((2 : Int32).toNatClampNeg) (4, 2) = zdo [(1, 51, 0, 2, (4, 2), 0)] X from rfl]
  subst hN
  rfl
theorem H129_50 (M : zM) (hn : znx M = 1) : znx (N129_50 M) = 96 := by
  show znx (zdo [(1, 51, 0, 2, (4, 2), 0)] (N129_49 M)) = _
  rw [zdo_nx, H129_49 M hn]
  rfl
set_option maxRecDepth 100000 in
theorem G129_50_0 (M : zM) : zgR (N129_50 M) 12 0 4 = (50, 0) := by
  show zgR (zdo [(1, 51, 0, 2, (4, 2), 0)] (N129_49 M)) 12 0 4 = _
  rw [zdo_R _ _ (by decide), G129_49_0 M]
set_option maxRecDepth 100000 in
theorem G129_50_1 (M : zM) : zgR (N129_50 M) 12 0 5 = (51, 0) := by
  show zgR (zdo [(1, 51, 0, 2, (4, 2), 0)] (N129_49 M)) 12 0 5 = _
  rw [zdo_R _ _ (by decide), G129_49_1 M]
set_option maxRecDepth 100000 in
theorem G129_50_2 (M : zM) : zgR (N129_50 M) 12 0 7 = (53, 0) := by
  show zgR (zdo [(1, 51, 0, 2, (4, 2), 0)] (N129_49 M)) 12 0 7 = _
  rw [zdo_R _ _ (by decide), G129_49_2 M]
def N129_51 (M : zM) : zM := zdo [(0, 4, 3, 0, (0, 0), 0)] (N129_50 M)
set_option maxRecDepth 100000 in
theorem T129_61 (d : Nat) (M : zM) (hn : znx M = 1) : zgo true (d + 3) 129 163 [zr 12 0, zi 3] [] (N129_50 M) = zgo true (d + 3) 129 180 [zr 12 0, zi 3] [zr 4 3, zi 3, zr 51 0] (N129_51 M) := by
  have hX : znx (N129_50 M) = 96 := H129_50 M hn
  have hf0 : zgR (N129_50 M) 12 0 4 = (50, 0) := G129_50_0 M
  have hf1 : zgR (N129_50 M) 12 0 5 = (51, 0) := G129_50_1 M
  have hf2 : zgR (N129_50 M) 12 0 7 = (53, 0) := G129_50_2 M
  generalize hN : N129_50 M = X at hX hf0 hf1 hf2 ⊢
  refine (B129_163 (d + 3) 3 X).trans ?_
  rw [show zgR (X) 12 0 5 = (51, 0) from hf1]
  have hz : znx X = 96 := hX
  rw [hz]
  clear hz
  show zgo true (d + 3) 129 180 [zr 12 0, zi 3] [zr 4 3, zi 3, zr 51 0] (znew X 4 3) = _
  rw [show znew X 4 3 = zdo [(0, 4, 3, 0, (0, 0), 0)] X from rfl]
  subst hN
  rfl
theorem H129_51 (M : zM) (hn : znx M = 1) : znx (N129_51 M) = 97 := by
  show znx (zdo [(0, 4, 3, 0, (0, 0), 0)] (N129_50 M)) = _
  rw [zdo_nx, H129_50 M hn]
  rfl
set_option maxRecDepth 100000 in
theorem G129_51_0 (M : zM) : zgR (N129_51 M) 12 0 4 = (50, 0) := by
  show zgR (zdo [(0, 4, 3, 0, (0, 0), 0)] (N129_50 M)) 12 0 4 = _
  rw [zdo_R _ _ (by decide), G129_50_0 M]
set_option maxRecDepth 100000 in
theorem G129_51_1 (M : zM) : zgR (N129_51 M) 12 0 5 = (51, 0) := by
  show zgR (zdo [(0, 4, 3, 0, (0, 0), 0)] (N129_50 M)) 12 0 5 = _
  rw [zdo_R _ _ (by decide), G129_50_1 M]
set_option maxRecDepth 100000 in
theorem G129_51_2 (M : zM) : zgR (N129_51 M) 12 0 7 = (53, 0) := by
  show zgR (zdo [(0, 4, 3, 0, (0, 0), 0)] (N129_50 M)) 12 0 7 = _
  rw [zdo_R _ _ (by decide), G129_50_2 M]
def D20_3 : List zOp := [(0, 24, 3, 0, (0, 0), 0), (1, 4, 3, 0, (24, 3), 0), (0, 25, 3, 0, (0, 0), 0), (1, 4, 3, 1, (25, 3), 0), (0, 26, 3, 0, (0, 0), 0), (1, 4, 3, 2, (26, 3), 0), (0, 27, 3, 0, (0, 0), 0), (1, 4, 3, 3, (27, 3), 0), (0, 28, 3, 0, (0, 0), 0), (1, 4, 3, 4, (28, 3), 0)]
set_option maxRecDepth 100000 in
set_option maxHeartbeats 4000000 in
theorem C20_3 (d : Nat) (M : zM) (hn : znx M = 97) : zgo true d 20 0 [zr 4 3] [] M = some (none, zdo D20_3 M) := by
  refine (B20_0 d 3 M).trans ?_
  have hz : znx M = 97 := hn
  rw [hz]
  clear hz
  show zgo true d 20 9 [zr 4 3] [zr 24 3, zr 4 3] (znew M 24 3) = _
  generalize hM1 : znew M 24 3 = M1
  have hn1 : znx M1 = 98 := by rw [← hM1]; exact congrArg (· + 1) hn
  refine (B20_9 d 3 3 24 3 M1).trans ?_
  have hz : znx (zsR M1 4 3 0 (24, 3)) = 98 := hn1
  rw [hz]
  clear hz
  show zgo true d 20 17 [zr 4 3] [zr 25 3, zr 4 3] (znew (zsR M1 4 3 0 (24, 3)) 25 3) = _
  generalize hM2 : znew (zsR M1 4 3 0 (24, 3)) 25 3 = M2
  have hn2 : znx M2 = 99 := by rw [← hM2]; exact congrArg (· + 1) hn1
  clear hn1
  refine (B20_17 d 3 3 25 3 M2).trans ?_
  have hz : znx (zsR M2 4 3 1 (25, 3)) = 99 := hn2
  rw [hz]
  clear hz
  show zgo true d 20 25 [zr 4 3] [zr 26 3, zr 4 3] (znew (zsR M2 4 3 1 (25, 3)) 26 3) = _
  generalize hM3 : znew (zsR M2 4 3 1 (25, 3)) 26 3 = M3
  have hn3 : znx M3 = 100 := by rw [← hM3]; exact congrArg (· + 1) hn2
  clear hn2
  refine (B20_25 d 3 3 26 3 M3).trans ?_
  show zgo true d 20 28 [zr 4 3] [] (zsR M3 4 3 2 (26, 3)) = _
  generalize hM4 : zsR M3 4 3 2 (26, 3) = M4
  have hn4 : znx M4 = 100 := by rw [← hM4]; exact hn3
  clear hn3
  refine (B20_28 d 3 M4).trans ?_
  have hz : znx M4 = 100 := hn4
  rw [hz]
  clear hz
  show zgo true d 20 33 [zr 4 3] [zr 27 3, zr 4 3] (znew M4 27 3) = _
  generalize hM5 : znew M4 27 3 = M5
  have hn5 : znx M5 = 101 := by rw [← hM5]; exact congrArg (· + 1) hn4
  clear hn4
  refine (B20_33 d 3 3 27 3 M5).trans ?_
  have hz : znx (zsR M5 4 3 3 (27, 3)) = 101 := hn5
  rw [hz]
  clear hz
  show zgo true d 20 41 [zr 4 3] [zr 28 3, zr 4 3] (znew (zsR M5 4 3 3 (27, 3)) 28 3) = _
  generalize hM6 : znew (zsR M5 4 3 3 (27, 3)) 28 3 = M6
  have hn6 : znx M6 = 102 := by rw [← hM6]; exact congrArg (· + 1) hn5
  clear hn5
  refine (B20_41 d 3 3 28 3 M6).trans ?_
  generalize hM7 : zsR M6 4 3 4 (28, 3) = M7
  have hn7 : znx M7 = 102 := by rw [← hM7]; exact hn6
  clear hn6
  subst hM7 hM6 hM5 hM4 hM3 hM2 hM1
  rfl
def N129_52 (M : zM) : zM := zdo D20_3 (N129_51 M)
set_option maxRecDepth 100000 in
theorem T129_62 (d : Nat) (M : zM) (hn : znx M = 1) : zgo true (d + 3) 129 180 [zr 12 0, zi 3] [zr 4 3, zi 3, zr 51 0] (N129_51 M) = zgo true (d + 3) 129 184 [zr 12 0, zi 3] [zr 4 3, zi 3, zr 51 0] (N129_52 M) := by
  have hX : znx (N129_51 M) = 97 := H129_51 M hn
  have hf0 : zgR (N129_51 M) 12 0 4 = (50, 0) := G129_51_0 M
  have hf1 : zgR (N129_51 M) 12 0 5 = (51, 0) := G129_51_1 M
  have hf2 : zgR (N129_51 M) 12 0 7 = (53, 0) := G129_51_2 M
  generalize hN : N129_51 M = X at hX hf0 hf1 hf2 ⊢
  refine (B129_180 (d + 2) 3 3 3 X).trans ?_
  show Option.bind (zgo true (d + 2) 20 0 [zr 4 3] [] (X)) _ = _
  refine zbind_of (C20_3 (d + 2) _ hX) ?_
  show zgo true (d + 3) 129 184 [zr 12 0, zi 3] [zr 4 3, zi 3, zr 51 0] (zdo D20_3 (X)) = _
  subst hN
  rfl
theorem H129_52 (M : zM) (hn : znx M = 1) : znx (N129_52 M) = 102 := by
  show znx (zdo D20_3 (N129_51 M)) = _
  rw [zdo_nx, H129_51 M hn]
  rfl
set_option maxRecDepth 100000 in
theorem G129_52_0 (M : zM) : zgR (N129_52 M) 12 0 4 = (50, 0) := by
  show zgR (zdo D20_3 (N129_51 M)) 12 0 4 = _
  rw [zdo_R _ _ (by decide), G129_51_0 M]
set_option maxRecDepth 100000 in
theorem G129_52_1 (M : zM) : zgR (N129_52 M) 12 0 5 = (51, 0) := by
  show zgR (zdo D20_3 (N129_51 M)) 12 0 5 = _
  rw [zdo_R _ _ (by decide), G129_51_1 M]
set_option maxRecDepth 100000 in
theorem G129_52_2 (M : zM) : zgR (N129_52 M) 12 0 7 = (53, 0) := by
  show zgR (zdo D20_3 (N129_51 M)) 12 0 7 = _
  rw [zdo_R _ _ (by decide), G129_51_2 M]
def N129_53 (M : zM) : zM := zdo [(1, 51, 0, 3, (4, 3), 0)] (N129_52 M)
set_option maxRecDepth 100000 in
theorem T129_63 (d : Nat) (M : zM) (hn : znx M = 1) : zgo true (d + 3) 129 184 [zr 12 0, zi 3] [zr 4 3, zi 3, zr 51 0] (N129_52 M) = zgo true (d + 3) 129 163 [zr 12 0, zi 4] [] (N129_53 M) := by
  have hX : znx (N129_52 M) = 102 := H129_52 M hn
  have hf0 : zgR (N129_52 M) 12 0 4 = (50, 0) := G129_52_0 M
  have hf1 : zgR (N129_52 M) 12 0 5 = (51, 0) := G129_52_1 M
  have hf2 : zgR (N129_52 M) 12 0 7 = (53, 0) := G129_52_2 M
  generalize hN : N129_52 M = X at hX hf0 hf1 hf2 ⊢
  refine (B129_184 (d + 3) 3 3 3 X).trans ?_
  show zgo true (d + 3) 129 163 [zr 12 0, zi 4] [] (zsR X 51 0 ((3 : Int32).toNatClampNeg) (4, 3)) = _
  rw [show zsR X 51 0 ((3 : Int32).toNatClampNeg) (4, 3) = zdo [(1, 51, 0, 3, (4, 3), 0)] X from rfl]
  subst hN
  rfl
theorem H129_53 (M : zM) (hn : znx M = 1) : znx (N129_53 M) = 102 := by
  show znx (zdo [(1, 51, 0, 3, (4, 3), 0)] (N129_52 M)) = _
  rw [zdo_nx, H129_52 M hn]
  rfl
set_option maxRecDepth 100000 in
theorem G129_53_0 (M : zM) : zgR (N129_53 M) 12 0 4 = (50, 0) := by
  show zgR (zdo [(1, 51, 0, 3, (4, 3), 0)] (N129_52 M)) 12 0 4 = _
  rw [zdo_R _ _ (by decide), G129_52_0 M]
set_option maxRecDepth 100000 in
theorem G129_53_1 (M : zM) : zgR (N129_53 M) 12 0 5 = (51, 0) := by
  show zgR (zdo [(1, 51, 0, 3, (4, 3), 0)] (N129_52 M)) 12 0 5 = _
  rw [zdo_R _ _ (by decide), G129_52_1 M]
set_option maxRecDepth 100000 in
theorem G129_53_2 (M : zM) : zgR (N129_53 M) 12 0 7 = (53, 0) := by
  show zgR (zdo [(1, 51, 0, 3, (4, 3), 0)] (N129_52 M)) 12 0 7 = _
  rw [zdo_R _ _ (by decide), G129_52_2 M]
def N129_54 (M : zM) : zM := zdo [(0, 4, 4, 0, (0, 0), 0)] (N129_53 M)
set_option maxRecDepth 100000 in
theorem T129_64 (d : Nat) (M : zM) (hn : znx M = 1) : zgo true (d + 3) 129 163 [zr 12 0, zi 4] [] (N129_53 M) = zgo true (d + 3) 129 180 [zr 12 0, zi 4] [zr 4 4, zi 4, zr 51 0] (N129_54 M) := by
  have hX : znx (N129_53 M) = 102 := H129_53 M hn
  have hf0 : zgR (N129_53 M) 12 0 4 = (50, 0) := G129_53_0 M
  have hf1 : zgR (N129_53 M) 12 0 5 = (51, 0) := G129_53_1 M
  have hf2 : zgR (N129_53 M) 12 0 7 = (53, 0) := G129_53_2 M
  generalize hN : N129_53 M = X at hX hf0 hf1 hf2 ⊢
  refine (B129_163 (d + 3) 4 X).trans ?_
  rw [show zgR (X) 12 0 5 = (51, 0) from hf1]
  have hz : znx X = 102 := hX
  rw [hz]
  clear hz
  show zgo true (d + 3) 129 180 [zr 12 0, zi 4] [zr 4 4, zi 4, zr 51 0] (znew X 4 4) = _
  rw [show znew X 4 4 = zdo [(0, 4, 4, 0, (0, 0), 0)] X from rfl]
  subst hN
  rfl
theorem H129_54 (M : zM) (hn : znx M = 1) : znx (N129_54 M) = 103 := by
  show znx (zdo [(0, 4, 4, 0, (0, 0), 0)] (N129_53 M)) = _
  rw [zdo_nx, H129_53 M hn]
  rfl
set_option maxRecDepth 100000 in
theorem G129_54_0 (M : zM) : zgR (N129_54 M) 12 0 4 = (50, 0) := by
  show zgR (zdo [(0, 4, 4, 0, (0, 0), 0)] (N129_53 M)) 12 0 4 = _
  rw [zdo_R _ _ (by decide), G129_53_0 M]
set_option maxRecDepth 100000 in
theorem G129_54_1 (M : zM) : zgR (N129_54 M) 12 0 5 = (51, 0) := by
  show zgR (zdo [(0, 4, 4, 0, (0, 0), 0)] (N129_53 M)) 12 0 5 = _
  rw [zdo_R _ _ (by decide), G129_53_1 M]
set_option maxRecDepth 100000 in
theorem G129_54_2 (M : zM) : zgR (N129_54 M) 12 0 7 = (53, 0) := by
  show zgR (zdo [(0, 4, 4, 0, (0, 0), 0)] (N129_53 M)) 12 0 7 = _
  rw [zdo_R _ _ (by decide), G129_53_2 M]
def D20_4 : List zOp := [(0, 24, 4, 0, (0, 0), 0), (1, 4, 4, 0, (24, 4), 0), (0, 25, 4, 0, (0, 0), 0), (1, 4, 4, 1, (25, 4), 0), (0, 26, 4, 0, (0, 0), 0), (1, 4, 4, 2, (26, 4), 0), (0, 27, 4, 0, (0, 0), 0), (1, 4, 4, 3, (27, 4), 0), (0, 28, 4, 0, (0, 0), 0), (1, 4, 4, 4, (28, 4), 0)]
set_option maxRecDepth 100000 in
set_option maxHeartbeats 4000000 in
theorem C20_4 (d : Nat) (M : zM) (hn : znx M = 103) : zgo true d 20 0 [zr 4 4] [] M = some (none, zdo D20_4 M) := by
  refine (B20_0 d 4 M).trans ?_
  have hz : znx M = 103 := hn
  rw [hz]
  clear hz
  show zgo true d 20 9 [zr 4 4] [zr 24 4, zr 4 4] (znew M 24 4) = _
  generalize hM1 : znew M 24 4 = M1
  have hn1 : znx M1 = 104 := by rw [← hM1]; exact congrArg (· + 1) hn
  refine (B20_9 d 4 4 24 4 M1).trans ?_
  have hz : znx (zsR M1 4 4 0 (24, 4)) = 104 := hn1
  rw [hz]
  clear hz
  show zgo true d 20 17 [zr 4 4] [zr 25 4, zr 4 4] (znew (zsR M1 4 4 0 (24, 4)) 25 4) = _
  generalize hM2 : znew (zsR M1 4 4 0 (24, 4)) 25 4 = M2
  have hn2 : znx M2 = 105 := by rw [← hM2]; exact congrArg (· + 1) hn1
  clear hn1
  refine (B20_17 d 4 4 25 4 M2).trans ?_
  have hz : znx (zsR M2 4 4 1 (25, 4)) = 105 := hn2
  rw [hz]
  clear hz
  show zgo true d 20 25 [zr 4 4] [zr 26 4, zr 4 4] (znew (zsR M2 4 4 1 (25, 4)) 26 4) = _
  generalize hM3 : znew (zsR M2 4 4 1 (25, 4)) 26 4 = M3
  have hn3 : znx M3 = 106 := by rw [← hM3]; exact congrArg (· + 1) hn2
  clear hn2
  refine (B20_25 d 4 4 26 4 M3).trans ?_
  show zgo true d 20 28 [zr 4 4] [] (zsR M3 4 4 2 (26, 4)) = _
  generalize hM4 : zsR M3 4 4 2 (26, 4) = M4
  have hn4 : znx M4 = 106 := by rw [← hM4]; exact hn3
  clear hn3
  refine (B20_28 d 4 M4).trans ?_
  have hz : znx M4 = 106 := hn4
  rw [hz]
  clear hz
  show zgo true d 20 33 [zr 4 4] [zr 27 4, zr 4 4] (znew M4 27 4) = _
  generalize hM5 : znew M4 27 4 = M5
  have hn5 : znx M5 = 107 := by rw [← hM5]; exact congrArg (· + 1) hn4
  clear hn4
  refine (B20_33 d 4 4 27 4 M5).trans ?_
  have hz : znx (zsR M5 4 4 3 (27, 4)) = 107 := hn5
  rw [hz]
  clear hz
  show zgo true d 20 41 [zr 4 4] [zr 28 4, zr 4 4] (znew (zsR M5 4 4 3 (27, 4)) 28 4) = _
  generalize hM6 : znew (zsR M5 4 4 3 (27, 4)) 28 4 = M6
  have hn6 : znx M6 = 108 := by rw [← hM6]; exact congrArg (· + 1) hn5
  clear hn5
  refine (B20_41 d 4 4 28 4 M6).trans ?_
  generalize hM7 : zsR M6 4 4 4 (28, 4) = M7
  have hn7 : znx M7 = 108 := by rw [← hM7]; exact hn6
  clear hn6
  subst hM7 hM6 hM5 hM4 hM3 hM2 hM1
  rfl
def N129_55 (M : zM) : zM := zdo D20_4 (N129_54 M)
set_option maxRecDepth 100000 in
theorem T129_65 (d : Nat) (M : zM) (hn : znx M = 1) : zgo true (d + 3) 129 180 [zr 12 0, zi 4] [zr 4 4, zi 4, zr 51 0] (N129_54 M) = zgo true (d + 3) 129 184 [zr 12 0, zi 4] [zr 4 4, zi 4, zr 51 0] (N129_55 M) := by
  have hX : znx (N129_54 M) = 103 := H129_54 M hn
  have hf0 : zgR (N129_54 M) 12 0 4 = (50, 0) := G129_54_0 M
  have hf1 : zgR (N129_54 M) 12 0 5 = (51, 0) := G129_54_1 M
  have hf2 : zgR (N129_54 M) 12 0 7 = (53, 0) := G129_54_2 M
  generalize hN : N129_54 M = X at hX hf0 hf1 hf2 ⊢
  refine (B129_180 (d + 2) 4 4 4 X).trans ?_
  show Option.bind (zgo true (d + 2) 20 0 [zr 4 4] [] (X)) _ = _
  refine zbind_of (C20_4 (d + 2) _ hX) ?_
  show zgo true (d + 3) 129 184 [zr 12 0, zi 4] [zr 4 4, zi 4, zr 51 0] (zdo D20_4 (X)) = _
  subst hN
  rfl
theorem H129_55 (M : zM) (hn : znx M = 1) : znx (N129_55 M) = 108 := by
  show znx (zdo D20_4 (N129_54 M)) = _
  rw [zdo_nx, H129_54 M hn]
  rfl
set_option maxRecDepth 100000 in
theorem G129_55_0 (M : zM) : zgR (N129_55 M) 12 0 4 = (50, 0) := by
  show zgR (zdo D20_4 (N129_54 M)) 12 0 4 = _
  rw [zdo_R _ _ (by decide), G129_54_0 M]
set_option maxRecDepth 100000 in
theorem G129_55_1 (M : zM) : zgR (N129_55 M) 12 0 5 = (51, 0) := by
  show zgR (zdo D20_4 (N129_54 M)) 12 0 5 = _
  rw [zdo_R _ _ (by decide), G129_54_1 M]
set_option maxRecDepth 100000 in
theorem G129_55_2 (M : zM) : zgR (N129_55 M) 12 0 7 = (53, 0) := by
  show zgR (zdo D20_4 (N129_54 M)) 12 0 7 = _
  rw [zdo_R _ _ (by decide), G129_54_2 M]
def N129_56 (M : zM) : zM := zdo [(1, 51, 0, 4, (4, 4), 0)] (N129_55 M)
set_option maxRecDepth 100000 in
theorem T129_66 (d : Nat) (M : zM) (hn : znx M = 1) : zgo true (d + 3) 129 184 [zr 12 0, zi 4] [zr 4 4, zi 4, zr 51 0] (N129_55 M) = zgo true (d + 3) 129 163 [zr 12 0, zi 5] [] (N129_56 M) := by
  have hX : znx (N129_55 M) = 108 := H129_55 M hn
  have hf0 : zgR (N129_55 M) 12 0 4 = (50, 0) := G129_55_0 M
  have hf1 : zgR (N129_55 M) 12 0 5 = (51, 0) := G129_55_1 M
  have hf2 : zgR (N129_55 M) 12 0 7 = (53, 0) := G129_55_2 M
  generalize hN : N129_55 M = X at hX hf0 hf1 hf2 ⊢
  refine (B129_184 (d + 3) 4 4 4 X).trans ?_
  show zgo true (d + 3) 129 163 [zr 12 0, zi 5] [] (zsR X 51 0 ((4 : Int32).toNatClampNeg) (4, 4)) = _
  rw [show zsR X 51 0 ((4 : Int32).toNatClampNeg) (4, 4) = zdo [(1, 51, 0, 4, (4, 4), 0)] X from rfl]
  subst hN
  rfl
theorem H129_56 (M : zM) (hn : znx M = 1) : znx (N129_56 M) = 108 := by
  show znx (zdo [(1, 51, 0, 4, (4, 4), 0)] (N129_55 M)) = _
  rw [zdo_nx, H129_55 M hn]
  rfl
set_option maxRecDepth 100000 in
theorem G129_56_0 (M : zM) : zgR (N129_56 M) 12 0 4 = (50, 0) := by
  show zgR (zdo [(1, 51, 0, 4, (4, 4), 0)] (N129_55 M)) 12 0 4 = _
  rw [zdo_R _ _ (by decide), G129_55_0 M]
set_option maxRecDepth 100000 in
theorem G129_56_1 (M : zM) : zgR (N129_56 M) 12 0 5 = (51, 0) := by
  show zgR (zdo [(1, 51, 0, 4, (4, 4), 0)] (N129_55 M)) 12 0 5 = _
  rw [zdo_R _ _ (by decide), G129_55_1 M]
set_option maxRecDepth 100000 in
theorem G129_56_2 (M : zM) : zgR (N129_56 M) 12 0 7 = (53, 0) := by
  show zgR (zdo [(1, 51, 0, 4, (4, 4), 0)] (N129_55 M)) 12 0 7 = _
  rw [zdo_R _ _ (by decide), G129_55_2 M]
def N129_57 (M : zM) : zM := zdo [(0, 4, 5, 0, (0, 0), 0)] (N129_56 M)
set_option maxRecDepth 100000 in
theorem T129_67 (d : Nat) (M : zM) (hn : znx M = 1) : zgo true (d + 3) 129 163 [zr 12 0, zi 5] [] (N129_56 M) = zgo true (d + 3) 129 180 [zr 12 0, zi 5] [zr 4 5, zi 5, zr 51 0] (N129_57 M) := by
  have hX : znx (N129_56 M) = 108 := H129_56 M hn
  have hf0 : zgR (N129_56 M) 12 0 4 = (50, 0) := G129_56_0 M
  have hf1 : zgR (N129_56 M) 12 0 5 = (51, 0) := G129_56_1 M
  have hf2 : zgR (N129_56 M) 12 0 7 = (53, 0) := G129_56_2 M
  generalize hN : N129_56 M = X at hX hf0 hf1 hf2 ⊢
  refine (B129_163 (d + 3) 5 X).trans ?_
  rw [show zgR (X) 12 0 5 = (51, 0) from hf1]
  have hz : znx X = 108 := hX
  rw [hz]
  clear hz
  show zgo true (d + 3) 129 180 [zr 12 0, zi 5] [zr 4 5, zi 5, zr 51 0] (znew X 4 5) = _
  rw [show znew X 4 5 = zdo [(0, 4, 5, 0, (0, 0), 0)] X from rfl]
  subst hN
  rfl
theorem H129_57 (M : zM) (hn : znx M = 1) : znx (N129_57 M) = 109 := by
  show znx (zdo [(0, 4, 5, 0, (0, 0), 0)] (N129_56 M)) = _
  rw [zdo_nx, H129_56 M hn]
  rfl
set_option maxRecDepth 100000 in
theorem G129_57_0 (M : zM) : zgR (N129_57 M) 12 0 4 = (50, 0) := by
  show zgR (zdo [(0, 4, 5, 0, (0, 0), 0)] (N129_56 M)) 12 0 4 = _
  rw [zdo_R _ _ (by decide), G129_56_0 M]
set_option maxRecDepth 100000 in
theorem G129_57_1 (M : zM) : zgR (N129_57 M) 12 0 5 = (51, 0) := by
  show zgR (zdo [(0, 4, 5, 0, (0, 0), 0)] (N129_56 M)) 12 0 5 = _
  rw [zdo_R _ _ (by decide), G129_56_1 M]
set_option maxRecDepth 100000 in
theorem G129_57_2 (M : zM) : zgR (N129_57 M) 12 0 7 = (53, 0) := by
  show zgR (zdo [(0, 4, 5, 0, (0, 0), 0)] (N129_56 M)) 12 0 7 = _
  rw [zdo_R _ _ (by decide), G129_56_2 M]
def D20_5 : List zOp := [(0, 24, 5, 0, (0, 0), 0), (1, 4, 5, 0, (24, 5), 0), (0, 25, 5, 0, (0, 0), 0), (1, 4, 5, 1, (25, 5), 0), (0, 26, 5, 0, (0, 0), 0), (1, 4, 5, 2, (26, 5), 0), (0, 27, 5, 0, (0, 0), 0), (1, 4, 5, 3, (27, 5), 0), (0, 28, 5, 0, (0, 0), 0), (1, 4, 5, 4, (28, 5), 0)]
set_option maxRecDepth 100000 in
set_option maxHeartbeats 4000000 in
theorem C20_5 (d : Nat) (M : zM) (hn : znx M = 109) : zgo true d 20 0 [zr 4 5] [] M = some (none, zdo D20_5 M) := by
  refine (B20_0 d 5 M).trans ?_
  have hz : znx M = 109 := hn
  rw [hz]
  clear hz
  show zgo true d 20 9 [zr 4 5] [zr 24 5, zr 4 5] (znew M 24 5) = _
  generalize hM1 : znew M 24 5 = M1
  have hn1 : znx M1 = 110 := by rw [← hM1]; exact congrArg (· + 1) hn
  refine (B20_9 d 5 5 24 5 M1).trans ?_
  have hz : znx (zsR M1 4 5 0 (24, 5)) = 110 := hn1
  rw [hz]
  clear hz
  show zgo true d 20 17 [zr 4 5] [zr 25 5, zr 4 5] (znew (zsR M1 4 5 0 (24, 5)) 25 5) = _
  generalize hM2 : znew (zsR M1 4 5 0 (24, 5)) 25 5 = M2
  have hn2 : znx M2 = 111 := by rw [← hM2]; exact congrArg (· + 1) hn1
  clear hn1
  refine (B20_17 d 5 5 25 5 M2).trans ?_
  have hz : znx (zsR M2 4 5 1 (25, 5)) = 111 := hn2
  rw [hz]
  clear hz
  show zgo true d 20 25 [zr 4 5] [zr 26 5, zr 4 5] (znew (zsR M2 4 5 1 (25, 5)) 26 5) = _
  generalize hM3 : znew (zsR M2 4 5 1 (25, 5)) 26 5 = M3
  have hn3 : znx M3 = 112 := by rw [← hM3]; exact congrArg (· + 1) hn2
  clear hn2
  refine (B20_25 d 5 5 26 5 M3).trans ?_
  show zgo true d 20 28 [zr 4 5] [] (zsR M3 4 5 2 (26, 5)) = _
  generalize hM4 : zsR M3 4 5 2 (26, 5) = M4
  have hn4 : znx M4 = 112 := by rw [← hM4]; exact hn3
  clear hn3
  refine (B20_28 d 5 M4).trans ?_
  have hz : znx M4 = 112 := hn4
  rw [hz]
  clear hz
  show zgo true d 20 33 [zr 4 5] [zr 27 5, zr 4 5] (znew M4 27 5) = _
  generalize hM5 : znew M4 27 5 = M5
  have hn5 : znx M5 = 113 := by rw [← hM5]; exact congrArg (· + 1) hn4
  clear hn4
  refine (B20_33 d 5 5 27 5 M5).trans ?_
  have hz : znx (zsR M5 4 5 3 (27, 5)) = 113 := hn5
  rw [hz]
  clear hz
  show zgo true d 20 41 [zr 4 5] [zr 28 5, zr 4 5] (znew (zsR M5 4 5 3 (27, 5)) 28 5) = _
  generalize hM6 : znew (zsR M5 4 5 3 (27, 5)) 28 5 = M6
  have hn6 : znx M6 = 114 := by rw [← hM6]; exact congrArg (· + 1) hn5
  clear hn5
  refine (B20_41 d 5 5 28 5 M6).trans ?_
  generalize hM7 : zsR M6 4 5 4 (28, 5) = M7
  have hn7 : znx M7 = 114 := by rw [← hM7]; exact hn6
  clear hn6
  subst hM7 hM6 hM5 hM4 hM3 hM2 hM1
  rfl
def N129_58 (M : zM) : zM := zdo D20_5 (N129_57 M)
set_option maxRecDepth 100000 in
theorem T129_68 (d : Nat) (M : zM) (hn : znx M = 1) : zgo true (d + 3) 129 180 [zr 12 0, zi 5] [zr 4 5, zi 5, zr 51 0] (N129_57 M) = zgo true (d + 3) 129 184 [zr 12 0, zi 5] [zr 4 5, zi 5, zr 51 0] (N129_58 M) := by
  have hX : znx (N129_57 M) = 109 := H129_57 M hn
  have hf0 : zgR (N129_57 M) 12 0 4 = (50, 0) := G129_57_0 M
  have hf1 : zgR (N129_57 M) 12 0 5 = (51, 0) := G129_57_1 M
  have hf2 : zgR (N129_57 M) 12 0 7 = (53, 0) := G129_57_2 M
  generalize hN : N129_57 M = X at hX hf0 hf1 hf2 ⊢
  refine (B129_180 (d + 2) 5 5 5 X).trans ?_
  show Option.bind (zgo true (d + 2) 20 0 [zr 4 5] [] (X)) _ = _
  refine zbind_of (C20_5 (d + 2) _ hX) ?_
  show zgo true (d + 3) 129 184 [zr 12 0, zi 5] [zr 4 5, zi 5, zr 51 0] (zdo D20_5 (X)) = _
  subst hN
  rfl
theorem H129_58 (M : zM) (hn : znx M = 1) : znx (N129_58 M) = 114 := by
  show znx (zdo D20_5 (N129_57 M)) = _
  rw [zdo_nx, H129_57 M hn]
  rfl
set_option maxRecDepth 100000 in
theorem G129_58_0 (M : zM) : zgR (N129_58 M) 12 0 4 = (50, 0) := by
  show zgR (zdo D20_5 (N129_57 M)) 12 0 4 = _
  rw [zdo_R _ _ (by decide), G129_57_0 M]
set_option maxRecDepth 100000 in
theorem G129_58_1 (M : zM) : zgR (N129_58 M) 12 0 5 = (51, 0) := by
  show zgR (zdo D20_5 (N129_57 M)) 12 0 5 = _
  rw [zdo_R _ _ (by decide), G129_57_1 M]
set_option maxRecDepth 100000 in
theorem G129_58_2 (M : zM) : zgR (N129_58 M) 12 0 7 = (53, 0) := by
  show zgR (zdo D20_5 (N129_57 M)) 12 0 7 = _
  rw [zdo_R _ _ (by decide), G129_57_2 M]
def N129_59 (M : zM) : zM := zdo [(1, 51, 0, 5, (4, 5), 0)] (N129_58 M)
set_option maxRecDepth 100000 in
theorem T129_69 (d : Nat) (M : zM) (hn : znx M = 1) : zgo true (d + 3) 129 184 [zr 12 0, zi 5] [zr 4 5, zi 5, zr 51 0] (N129_58 M) = zgo true (d + 3) 129 163 [zr 12 0, zi 6] [] (N129_59 M) := by
  have hX : znx (N129_58 M) = 114 := H129_58 M hn
  have hf0 : zgR (N129_58 M) 12 0 4 = (50, 0) := G129_58_0 M
  have hf1 : zgR (N129_58 M) 12 0 5 = (51, 0) := G129_58_1 M
  have hf2 : zgR (N129_58 M) 12 0 7 = (53, 0) := G129_58_2 M
  generalize hN : N129_58 M = X at hX hf0 hf1 hf2 ⊢
  refine (B129_184 (d + 3) 5 5 5 X).trans ?_
  show zgo true (d + 3) 129 163 [zr 12 0, zi 6] [] (zsR X 51 0 ((5 : Int32).toNatClampNeg) (4, 5)) = _
  rw [show zsR X 51 0 ((5 : Int32).toNatClampNeg) (4, 5) = zdo [(1, 51, 0, 5, (4, 5), 0)] X from rfl]
  subst hN
  rfl
theorem H129_59 (M : zM) (hn : znx M = 1) : znx (N129_59 M) = 114 := by
  show znx (zdo [(1, 51, 0, 5, (4, 5), 0)] (N129_58 M)) = _
  rw [zdo_nx, H129_58 M hn]
  rfl
set_option maxRecDepth 100000 in
theorem G129_59_0 (M : zM) : zgR (N129_59 M) 12 0 4 = (50, 0) := by
  show zgR (zdo [(1, 51, 0, 5, (4, 5), 0)] (N129_58 M)) 12 0 4 = _
  rw [zdo_R _ _ (by decide), G129_58_0 M]
set_option maxRecDepth 100000 in
theorem G129_59_1 (M : zM) : zgR (N129_59 M) 12 0 5 = (51, 0) := by
  show zgR (zdo [(1, 51, 0, 5, (4, 5), 0)] (N129_58 M)) 12 0 5 = _
  rw [zdo_R _ _ (by decide), G129_58_1 M]
set_option maxRecDepth 100000 in
theorem G129_59_2 (M : zM) : zgR (N129_59 M) 12 0 7 = (53, 0) := by
  show zgR (zdo [(1, 51, 0, 5, (4, 5), 0)] (N129_58 M)) 12 0 7 = _
  rw [zdo_R _ _ (by decide), G129_58_2 M]
def N129_60 (M : zM) : zM := zdo [(0, 4, 6, 0, (0, 0), 0)] (N129_59 M)
set_option maxRecDepth 100000 in
theorem T129_70 (d : Nat) (M : zM) (hn : znx M = 1) : zgo true (d + 3) 129 163 [zr 12 0, zi 6] [] (N129_59 M) = zgo true (d + 3) 129 180 [zr 12 0, zi 6] [zr 4 6, zi 6, zr 51 0] (N129_60 M) := by
  have hX : znx (N129_59 M) = 114 := H129_59 M hn
  have hf0 : zgR (N129_59 M) 12 0 4 = (50, 0) := G129_59_0 M
  have hf1 : zgR (N129_59 M) 12 0 5 = (51, 0) := G129_59_1 M
  have hf2 : zgR (N129_59 M) 12 0 7 = (53, 0) := G129_59_2 M
  generalize hN : N129_59 M = X at hX hf0 hf1 hf2 ⊢
  refine (B129_163 (d + 3) 6 X).trans ?_
  rw [show zgR (X) 12 0 5 = (51, 0) from hf1]
  have hz : znx X = 114 := hX
  rw [hz]
  clear hz
  show zgo true (d + 3) 129 180 [zr 12 0, zi 6] [zr 4 6, zi 6, zr 51 0] (znew X 4 6) = _
  rw [show znew X 4 6 = zdo [(0, 4, 6, 0, (0, 0), 0)] X from rfl]
  subst hN
  rfl
theorem H129_60 (M : zM) (hn : znx M = 1) : znx (N129_60 M) = 115 := by
  show znx (zdo [(0, 4, 6, 0, (0, 0), 0)] (N129_59 M)) = _
  rw [zdo_nx, H129_59 M hn]
  rfl
set_option maxRecDepth 100000 in
theorem G129_60_0 (M : zM) : zgR (N129_60 M) 12 0 4 = (50, 0) := by
  show zgR (zdo [(0, 4, 6, 0, (0, 0), 0)] (N129_59 M)) 12 0 4 = _
  rw [zdo_R _ _ (by decide), G129_59_0 M]
set_option maxRecDepth 100000 in
theorem G129_60_1 (M : zM) : zgR (N129_60 M) 12 0 5 = (51, 0) := by
  show zgR (zdo [(0, 4, 6, 0, (0, 0), 0)] (N129_59 M)) 12 0 5 = _
  rw [zdo_R _ _ (by decide), G129_59_1 M]
set_option maxRecDepth 100000 in
theorem G129_60_2 (M : zM) : zgR (N129_60 M) 12 0 7 = (53, 0) := by
  show zgR (zdo [(0, 4, 6, 0, (0, 0), 0)] (N129_59 M)) 12 0 7 = _
  rw [zdo_R _ _ (by decide), G129_59_2 M]
def D20_6 : List zOp := [(0, 24, 6, 0, (0, 0), 0), (1, 4, 6, 0, (24, 6), 0), (0, 25, 6, 0, (0, 0), 0), (1, 4, 6, 1, (25, 6), 0), (0, 26, 6, 0, (0, 0), 0), (1, 4, 6, 2, (26, 6), 0), (0, 27, 6, 0, (0, 0), 0), (1, 4, 6, 3, (27, 6), 0), (0, 28, 6, 0, (0, 0), 0), (1, 4, 6, 4, (28, 6), 0)]
set_option maxRecDepth 100000 in
set_option maxHeartbeats 4000000 in
theorem C20_6 (d : Nat) (M : zM) (hn : znx M = 115) : zgo true d 20 0 [zr 4 6] [] M = some (none, zdo D20_6 M) := by
  refine (B20_0 d 6 M).trans ?_
  have hz : znx M = 115 := hn
  rw [hz]
  clear hz
  show zgo true d 20 9 [zr 4 6] [zr 24 6, zr 4 6] (znew M 24 6) = _
  generalize hM1 : znew M 24 6 = M1
  have hn1 : znx M1 = 116 := by rw [← hM1]; exact congrArg (· + 1) hn
  refine (B20_9 d 6 6 24 6 M1).trans ?_
  have hz : znx (zsR M1 4 6 0 (24, 6)) = 116 := hn1
  rw [hz]
  clear hz
  show zgo true d 20 17 [zr 4 6] [zr 25 6, zr 4 6] (znew (zsR M1 4 6 0 (24, 6)) 25 6) = _
  generalize hM2 : znew (zsR M1 4 6 0 (24, 6)) 25 6 = M2
  have hn2 : znx M2 = 117 := by rw [← hM2]; exact congrArg (· + 1) hn1
  clear hn1
  refine (B20_17 d 6 6 25 6 M2).trans ?_
  have hz : znx (zsR M2 4 6 1 (25, 6)) = 117 := hn2
  rw [hz]
  clear hz
  show zgo true d 20 25 [zr 4 6] [zr 26 6, zr 4 6] (znew (zsR M2 4 6 1 (25, 6)) 26 6) = _
  generalize hM3 : znew (zsR M2 4 6 1 (25, 6)) 26 6 = M3
  have hn3 : znx M3 = 118 := by rw [← hM3]; exact congrArg (· + 1) hn2
  clear hn2
  refine (B20_25 d 6 6 26 6 M3).trans ?_
  show zgo true d 20 28 [zr 4 6] [] (zsR M3 4 6 2 (26, 6)) = _
  generalize hM4 : zsR M3 4 6 2 (26, 6) = M4
  have hn4 : znx M4 = 118 := by rw [← hM4]; exact hn3
  clear hn3
  refine (B20_28 d 6 M4).trans ?_
  have hz : znx M4 = 118 := hn4
  rw [hz]
  clear hz
  show zgo true d 20 33 [zr 4 6] [zr 27 6, zr 4 6] (znew M4 27 6) = _
  generalize hM5 : znew M4 27 6 = M5
  have hn5 : znx M5 = 119 := by rw [← hM5]; exact congrArg (· + 1) hn4
  clear hn4
  refine (B20_33 d 6 6 27 6 M5).trans ?_
  have hz : znx (zsR M5 4 6 3 (27, 6)) = 119 := hn5
  rw [hz]
  clear hz
  show zgo true d 20 41 [zr 4 6] [zr 28 6, zr 4 6] (znew (zsR M5 4 6 3 (27, 6)) 28 6) = _
  generalize hM6 : znew (zsR M5 4 6 3 (27, 6)) 28 6 = M6
  have hn6 : znx M6 = 120 := by rw [← hM6]; exact congrArg (· + 1) hn5
  clear hn5
  refine (B20_41 d 6 6 28 6 M6).trans ?_
  generalize hM7 : zsR M6 4 6 4 (28, 6) = M7
  have hn7 : znx M7 = 120 := by rw [← hM7]; exact hn6
  clear hn6
  subst hM7 hM6 hM5 hM4 hM3 hM2 hM1
  rfl
def N129_61 (M : zM) : zM := zdo D20_6 (N129_60 M)
set_option maxRecDepth 100000 in
theorem T129_71 (d : Nat) (M : zM) (hn : znx M = 1) : zgo true (d + 3) 129 180 [zr 12 0, zi 6] [zr 4 6, zi 6, zr 51 0] (N129_60 M) = zgo true (d + 3) 129 184 [zr 12 0, zi 6] [zr 4 6, zi 6, zr 51 0] (N129_61 M) := by
  have hX : znx (N129_60 M) = 115 := H129_60 M hn
  have hf0 : zgR (N129_60 M) 12 0 4 = (50, 0) := G129_60_0 M
  have hf1 : zgR (N129_60 M) 12 0 5 = (51, 0) := G129_60_1 M
  have hf2 : zgR (N129_60 M) 12 0 7 = (53, 0) := G129_60_2 M
  generalize hN : N129_60 M = X at hX hf0 hf1 hf2 ⊢
  refine (B129_180 (d + 2) 6 6 6 X).trans ?_
  show Option.bind (zgo true (d + 2) 20 0 [zr 4 6] [] (X)) _ = _
  refine zbind_of (C20_6 (d + 2) _ hX) ?_
  show zgo true (d + 3) 129 184 [zr 12 0, zi 6] [zr 4 6, zi 6, zr 51 0] (zdo D20_6 (X)) = _
  subst hN
  rfl
theorem H129_61 (M : zM) (hn : znx M = 1) : znx (N129_61 M) = 120 := by
  show znx (zdo D20_6 (N129_60 M)) = _
  rw [zdo_nx, H129_60 M hn]
  rfl
set_option maxRecDepth 100000 in
theorem G129_61_0 (M : zM) : zgR (N129_61 M) 12 0 4 = (50, 0) := by
  show zgR (zdo D20_6 (N129_60 M)) 12 0 4 = _
  rw [zdo_R _ _ (by decide), G129_60_0 M]
set_option maxRecDepth 100000 in
theorem G129_61_1 (M : zM) : zgR (N129_61 M) 12 0 5 = (51, 0) := by
  show zgR (zdo D20_6 (N129_60 M)) 12 0 5 = _
  rw [zdo_R _ _ (by decide), G129_60_1 M]
set_option maxRecDepth 100000 in
theorem G129_61_2 (M : zM) : zgR (N129_61 M) 12 0 7 = (53, 0) := by
  show zgR (zdo D20_6 (N129_60 M)) 12 0 7 = _
  rw [zdo_R _ _ (by decide), G129_60_2 M]
def N129_62 (M : zM) : zM := zdo [(1, 51, 0, 6, (4, 6), 0)] (N129_61 M)
set_option maxRecDepth 100000 in
theorem T129_72 (d : Nat) (M : zM) (hn : znx M = 1) : zgo true (d + 3) 129 184 [zr 12 0, zi 6] [zr 4 6, zi 6, zr 51 0] (N129_61 M) = zgo true (d + 3) 129 163 [zr 12 0, zi 7] [] (N129_62 M) := by
  have hX : znx (N129_61 M) = 120 := H129_61 M hn
  have hf0 : zgR (N129_61 M) 12 0 4 = (50, 0) := G129_61_0 M
  have hf1 : zgR (N129_61 M) 12 0 5 = (51, 0) := G129_61_1 M
  have hf2 : zgR (N129_61 M) 12 0 7 = (53, 0) := G129_61_2 M
  generalize hN : N129_61 M = X at hX hf0 hf1 hf2 ⊢
  refine (B129_184 (d + 3) 6 6 6 X).trans ?_
  show zgo true (d + 3) 129 163 [zr 12 0, zi 7] [] (zsR X 51 0 ((6 : Int32).toNatClampNeg) (4, 6)) = _
  rw [show zsR X 51 0 ((6 : Int32).toNatClampNeg) (4, 6) = zdo [(1, 51, 0, 6, (4, 6), 0)] X from rfl]
  subst hN
  rfl
theorem H129_62 (M : zM) (hn : znx M = 1) : znx (N129_62 M) = 120 := by
  show znx (zdo [(1, 51, 0, 6, (4, 6), 0)] (N129_61 M)) = _
  rw [zdo_nx, H129_61 M hn]
  rfl
set_option maxRecDepth 100000 in
theorem G129_62_0 (M : zM) : zgR (N129_62 M) 12 0 4 = (50, 0) := by
  show zgR (zdo [(1, 51, 0, 6, (4, 6), 0)] (N129_61 M)) 12 0 4 = _
  rw [zdo_R _ _ (by decide), G129_61_0 M]
set_option maxRecDepth 100000 in
theorem G129_62_1 (M : zM) : zgR (N129_62 M) 12 0 5 = (51, 0) := by
  show zgR (zdo [(1, 51, 0, 6, (4, 6), 0)] (N129_61 M)) 12 0 5 = _
  rw [zdo_R _ _ (by decide), G129_61_1 M]
set_option maxRecDepth 100000 in
theorem G129_62_2 (M : zM) : zgR (N129_62 M) 12 0 7 = (53, 0) := by
  show zgR (zdo [(1, 51, 0, 6, (4, 6), 0)] (N129_61 M)) 12 0 7 = _
  rw [zdo_R _ _ (by decide), G129_61_2 M]
def N129_63 (M : zM) : zM := zdo [(0, 4, 7, 0, (0, 0), 0)] (N129_62 M)
set_option maxRecDepth 100000 in
theorem T129_73 (d : Nat) (M : zM) (hn : znx M = 1) : zgo true (d + 3) 129 163 [zr 12 0, zi 7] [] (N129_62 M) = zgo true (d + 3) 129 180 [zr 12 0, zi 7] [zr 4 7, zi 7, zr 51 0] (N129_63 M) := by
  have hX : znx (N129_62 M) = 120 := H129_62 M hn
  have hf0 : zgR (N129_62 M) 12 0 4 = (50, 0) := G129_62_0 M
  have hf1 : zgR (N129_62 M) 12 0 5 = (51, 0) := G129_62_1 M
  have hf2 : zgR (N129_62 M) 12 0 7 = (53, 0) := G129_62_2 M
  generalize hN : N129_62 M = X at hX hf0 hf1 hf2 ⊢
  refine (B129_163 (d + 3) 7 X).trans ?_
  rw [show zgR (X) 12 0 5 = (51, 0) from hf1]
  have hz : znx X = 120 := hX
  rw [hz]
  clear hz
  show zgo true (d + 3) 129 180 [zr 12 0, zi 7] [zr 4 7, zi 7, zr 51 0] (znew X 4 7) = _
  rw [show znew X 4 7 = zdo [(0, 4, 7, 0, (0, 0), 0)] X from rfl]
  subst hN
  rfl
theorem H129_63 (M : zM) (hn : znx M = 1) : znx (N129_63 M) = 121 := by
  show znx (zdo [(0, 4, 7, 0, (0, 0), 0)] (N129_62 M)) = _
  rw [zdo_nx, H129_62 M hn]
  rfl
set_option maxRecDepth 100000 in
theorem G129_63_0 (M : zM) : zgR (N129_63 M) 12 0 4 = (50, 0) := by
  show zgR (zdo [(0, 4, 7, 0, (0, 0), 0)] (N129_62 M)) 12 0 4 = _
  rw [zdo_R _ _ (by decide), G129_62_0 M]
set_option maxRecDepth 100000 in
theorem G129_63_1 (M : zM) : zgR (N129_63 M) 12 0 5 = (51, 0) := by
  show zgR (zdo [(0, 4, 7, 0, (0, 0), 0)] (N129_62 M)) 12 0 5 = _
  rw [zdo_R _ _ (by decide), G129_62_1 M]
set_option maxRecDepth 100000 in
theorem G129_63_2 (M : zM) : zgR (N129_63 M) 12 0 7 = (53, 0) := by
  show zgR (zdo [(0, 4, 7, 0, (0, 0), 0)] (N129_62 M)) 12 0 7 = _
  rw [zdo_R _ _ (by decide), G129_62_2 M]
def D20_7 : List zOp := [(0, 24, 7, 0, (0, 0), 0), (1, 4, 7, 0, (24, 7), 0), (0, 25, 7, 0, (0, 0), 0), (1, 4, 7, 1, (25, 7), 0), (0, 26, 7, 0, (0, 0), 0), (1, 4, 7, 2, (26, 7), 0), (0, 27, 7, 0, (0, 0), 0), (1, 4, 7, 3, (27, 7), 0), (0, 28, 7, 0, (0, 0), 0), (1, 4, 7, 4, (28, 7), 0)]
set_option maxRecDepth 100000 in
set_option maxHeartbeats 4000000 in
theorem C20_7 (d : Nat) (M : zM) (hn : znx M = 121) : zgo true d 20 0 [zr 4 7] [] M = some (none, zdo D20_7 M) := by
  refine (B20_0 d 7 M).trans ?_
  have hz : znx M = 121 := hn
  rw [hz]
  clear hz
  show zgo true d 20 9 [zr 4 7] [zr 24 7, zr 4 7] (znew M 24 7) = _
  generalize hM1 : znew M 24 7 = M1
  have hn1 : znx M1 = 122 := by rw [← hM1]; exact congrArg (· + 1) hn
  refine (B20_9 d 7 7 24 7 M1).trans ?_
  have hz : znx (zsR M1 4 7 0 (24, 7)) = 122 := hn1
  rw [hz]
  clear hz
  show zgo true d 20 17 [zr 4 7] [zr 25 7, zr 4 7] (znew (zsR M1 4 7 0 (24, 7)) 25 7) = _
  generalize hM2 : znew (zsR M1 4 7 0 (24, 7)) 25 7 = M2
  have hn2 : znx M2 = 123 := by rw [← hM2]; exact congrArg (· + 1) hn1
  clear hn1
  refine (B20_17 d 7 7 25 7 M2).trans ?_
  have hz : znx (zsR M2 4 7 1 (25, 7)) = 123 := hn2
  rw [hz]
  clear hz
  show zgo true d 20 25 [zr 4 7] [zr 26 7, zr 4 7] (znew (zsR M2 4 7 1 (25, 7)) 26 7) = _
  generalize hM3 : znew (zsR M2 4 7 1 (25, 7)) 26 7 = M3
  have hn3 : znx M3 = 124 := by rw [← hM3]; exact congrArg (· + 1) hn2
  clear hn2
  refine (B20_25 d 7 7 26 7 M3).trans ?_
  show zgo true d 20 28 [zr 4 7] [] (zsR M3 4 7 2 (26, 7)) = _
  generalize hM4 : zsR M3 4 7 2 (26, 7) = M4
  have hn4 : znx M4 = 124 := by rw [← hM4]; exact hn3
  clear hn3
  refine (B20_28 d 7 M4).trans ?_
  have hz : znx M4 = 124 := hn4
  rw [hz]
  clear hz
  show zgo true d 20 33 [zr 4 7] [zr 27 7, zr 4 7] (znew M4 27 7) = _
  generalize hM5 : znew M4 27 7 = M5
  have hn5 : znx M5 = 125 := by rw [← hM5]; exact congrArg (· + 1) hn4
  clear hn4
  refine (B20_33 d 7 7 27 7 M5).trans ?_
  have hz : znx (zsR M5 4 7 3 (27, 7)) = 125 := hn5
  rw [hz]
  clear hz
  show zgo true d 20 41 [zr 4 7] [zr 28 7, zr 4 7] (znew (zsR M5 4 7 3 (27, 7)) 28 7) = _
  generalize hM6 : znew (zsR M5 4 7 3 (27, 7)) 28 7 = M6
  have hn6 : znx M6 = 126 := by rw [← hM6]; exact congrArg (· + 1) hn5
  clear hn5
  refine (B20_41 d 7 7 28 7 M6).trans ?_
  generalize hM7 : zsR M6 4 7 4 (28, 7) = M7
  have hn7 : znx M7 = 126 := by rw [← hM7]; exact hn6
  clear hn6
  subst hM7 hM6 hM5 hM4 hM3 hM2 hM1
  rfl
def N129_64 (M : zM) : zM := zdo D20_7 (N129_63 M)
set_option maxRecDepth 100000 in
theorem T129_74 (d : Nat) (M : zM) (hn : znx M = 1) : zgo true (d + 3) 129 180 [zr 12 0, zi 7] [zr 4 7, zi 7, zr 51 0] (N129_63 M) = zgo true (d + 3) 129 184 [zr 12 0, zi 7] [zr 4 7, zi 7, zr 51 0] (N129_64 M) := by
  have hX : znx (N129_63 M) = 121 := H129_63 M hn
  have hf0 : zgR (N129_63 M) 12 0 4 = (50, 0) := G129_63_0 M
  have hf1 : zgR (N129_63 M) 12 0 5 = (51, 0) := G129_63_1 M
  have hf2 : zgR (N129_63 M) 12 0 7 = (53, 0) := G129_63_2 M
  generalize hN : N129_63 M = X at hX hf0 hf1 hf2 ⊢
  refine (B129_180 (d + 2) 7 7 7 X).trans ?_
  show Option.bind (zgo true (d + 2) 20 0 [zr 4 7] [] (X)) _ = _
  refine zbind_of (C20_7 (d + 2) _ hX) ?_
  show zgo true (d + 3) 129 184 [zr 12 0, zi 7] [zr 4 7, zi 7, zr 51 0] (zdo D20_7 (X)) = _
  subst hN
  rfl
theorem H129_64 (M : zM) (hn : znx M = 1) : znx (N129_64 M) = 126 := by
  show znx (zdo D20_7 (N129_63 M)) = _
  rw [zdo_nx, H129_63 M hn]
  rfl
set_option maxRecDepth 100000 in
theorem G129_64_0 (M : zM) : zgR (N129_64 M) 12 0 4 = (50, 0) := by
  show zgR (zdo D20_7 (N129_63 M)) 12 0 4 = _
  rw [zdo_R _ _ (by decide), G129_63_0 M]
set_option maxRecDepth 100000 in
theorem G129_64_1 (M : zM) : zgR (N129_64 M) 12 0 5 = (51, 0) := by
  show zgR (zdo D20_7 (N129_63 M)) 12 0 5 = _
  rw [zdo_R _ _ (by decide), G129_63_1 M]
set_option maxRecDepth 100000 in
theorem G129_64_2 (M : zM) : zgR (N129_64 M) 12 0 7 = (53, 0) := by
  show zgR (zdo D20_7 (N129_63 M)) 12 0 7 = _
  rw [zdo_R _ _ (by decide), G129_63_2 M]
def N129_65 (M : zM) : zM := zdo [(1, 51, 0, 7, (4, 7), 0)] (N129_64 M)
set_option maxRecDepth 100000 in
theorem T129_75 (d : Nat) (M : zM) (hn : znx M = 1) : zgo true (d + 3) 129 184 [zr 12 0, zi 7] [zr 4 7, zi 7, zr 51 0] (N129_64 M) = zgo true (d + 3) 129 163 [zr 12 0, zi 8] [] (N129_65 M) := by
  have hX : znx (N129_64 M) = 126 := H129_64 M hn
  have hf0 : zgR (N129_64 M) 12 0 4 = (50, 0) := G129_64_0 M
  have hf1 : zgR (N129_64 M) 12 0 5 = (51, 0) := G129_64_1 M
  have hf2 : zgR (N129_64 M) 12 0 7 = (53, 0) := G129_64_2 M
  generalize hN : N129_64 M = X at hX hf0 hf1 hf2 ⊢
  refine (B129_184 (d + 3) 7 7 7 X).trans ?_
  show zgo true (d + 3) 129 163 [zr 12 0, zi 8] [] (zsR X 51 0 ((7 : Int32).toNatClampNeg) (4, 7)) = _
  rw [show zsR X 51 0 ((7 : Int32).toNatClampNeg) (4, 7) = zdo [(1, 51, 0, 7, (4, 7), 0)] X from rfl]
  subst hN
  rfl
theorem H129_65 (M : zM) (hn : znx M = 1) : znx (N129_65 M) = 126 := by
  show znx (zdo [(1, 51, 0, 7, (4, 7), 0)] (N129_64 M)) = _
  rw [zdo_nx, H129_64 M hn]
  rfl
set_option maxRecDepth 100000 in
theorem G129_65_0 (M : zM) : zgR (N129_65 M) 12 0 4 = (50, 0) := by
  show zgR (zdo [(1, 51, 0, 7, (4, 7), 0)] (N129_64 M)) 12 0 4 = _
  rw [zdo_R _ _ (by decide), G129_64_0 M]
set_option maxRecDepth 100000 in
theorem G129_65_1 (M : zM) : zgR (N129_65 M) 12 0 5 = (51, 0) := by
  show zgR (zdo [(1, 51, 0, 7, (4, 7), 0)] (N129_64 M)) 12 0 5 = _
  rw [zdo_R _ _ (by decide), G129_64_1 M]
set_option maxRecDepth 100000 in
theorem G129_65_2 (M : zM) : zgR (N129_65 M) 12 0 7 = (53, 0) := by
  show zgR (zdo [(1, 51, 0, 7, (4, 7), 0)] (N129_64 M)) 12 0 7 = _
  rw [zdo_R _ _ (by decide), G129_64_2 M]
def N129_66 (M : zM) : zM := zdo [(0, 4, 8, 0, (0, 0), 0)] (N129_65 M)
set_option maxRecDepth 100000 in
theorem T129_76 (d : Nat) (M : zM) (hn : znx M = 1) : zgo true (d + 3) 129 163 [zr 12 0, zi 8] [] (N129_65 M) = zgo true (d + 3) 129 180 [zr 12 0, zi 8] [zr 4 8, zi 8, zr 51 0] (N129_66 M) := by
  have hX : znx (N129_65 M) = 126 := H129_65 M hn
  have hf0 : zgR (N129_65 M) 12 0 4 = (50, 0) := G129_65_0 M
  have hf1 : zgR (N129_65 M) 12 0 5 = (51, 0) := G129_65_1 M
  have hf2 : zgR (N129_65 M) 12 0 7 = (53, 0) := G129_65_2 M
  generalize hN : N129_65 M = X at hX hf0 hf1 hf2 ⊢
  refine (B129_163 (d + 3) 8 X).trans ?_
  rw [show zgR (X) 12 0 5 = (51, 0) from hf1]
  have hz : znx X = 126 := hX
  rw [hz]
  clear hz
  show zgo true (d + 3) 129 180 [zr 12 0, zi 8] [zr 4 8, zi 8, zr 51 0] (znew X 4 8) = _
  rw [show znew X 4 8 = zdo [(0, 4, 8, 0, (0, 0), 0)] X from rfl]
  subst hN
  rfl
theorem H129_66 (M : zM) (hn : znx M = 1) : znx (N129_66 M) = 127 := by
  show znx (zdo [(0, 4, 8, 0, (0, 0), 0)] (N129_65 M)) = _
  rw [zdo_nx, H129_65 M hn]
  rfl
set_option maxRecDepth 100000 in
theorem G129_66_0 (M : zM) : zgR (N129_66 M) 12 0 4 = (50, 0) := by
  show zgR (zdo [(0, 4, 8, 0, (0, 0), 0)] (N129_65 M)) 12 0 4 = _
  rw [zdo_R _ _ (by decide), G129_65_0 M]
set_option maxRecDepth 100000 in
theorem G129_66_1 (M : zM) : zgR (N129_66 M) 12 0 5 = (51, 0) := by
  show zgR (zdo [(0, 4, 8, 0, (0, 0), 0)] (N129_65 M)) 12 0 5 = _
  rw [zdo_R _ _ (by decide), G129_65_1 M]
set_option maxRecDepth 100000 in
theorem G129_66_2 (M : zM) : zgR (N129_66 M) 12 0 7 = (53, 0) := by
  show zgR (zdo [(0, 4, 8, 0, (0, 0), 0)] (N129_65 M)) 12 0 7 = _
  rw [zdo_R _ _ (by decide), G129_65_2 M]
def D20_8 : List zOp := [(0, 24, 8, 0, (0, 0), 0), (1, 4, 8, 0, (24, 8), 0), (0, 25, 8, 0, (0, 0), 0), (1, 4, 8, 1, (25, 8), 0), (0, 26, 8, 0, (0, 0), 0), (1, 4, 8, 2, (26, 8), 0), (0, 27, 8, 0, (0, 0), 0), (1, 4, 8, 3, (27, 8), 0), (0, 28, 8, 0, (0, 0), 0), (1, 4, 8, 4, (28, 8), 0)]
set_option maxRecDepth 100000 in
set_option maxHeartbeats 4000000 in
theorem C20_8 (d : Nat) (M : zM) (hn : znx M = 127) : zgo true d 20 0 [zr 4 8] [] M = some (none, zdo D20_8 M) := by
  refine (B20_0 d 8 M).trans ?_
  have hz : znx M = 127 := hn
  rw [hz]
  clear hz
  show zgo true d 20 9 [zr 4 8] [zr 24 8, zr 4 8] (znew M 24 8) = _
  generalize hM1 : znew M 24 8 = M1
  have hn1 : znx M1 = 128 := by rw [← hM1]; exact congrArg (· + 1) hn
  refine (B20_9 d 8 8 24 8 M1).trans ?_
  have hz : znx (zsR M1 4 8 0 (24, 8)) = 128 := hn1
  rw [hz]
  clear hz
  show zgo true d 20 17 [zr 4 8] [zr 25 8, zr 4 8] (znew (zsR M1 4 8 0 (24, 8)) 25 8) = _
  generalize hM2 : znew (zsR M1 4 8 0 (24, 8)) 25 8 = M2
  have hn2 : znx M2 = 129 := by rw [← hM2]; exact congrArg (· + 1) hn1
  clear hn1
  refine (B20_17 d 8 8 25 8 M2).trans ?_
  have hz : znx (zsR M2 4 8 1 (25, 8)) = 129 := hn2
  rw [hz]
  clear hz
  show zgo true d 20 25 [zr 4 8] [zr 26 8, zr 4 8] (znew (zsR M2 4 8 1 (25, 8)) 26 8) = _
  generalize hM3 : znew (zsR M2 4 8 1 (25, 8)) 26 8 = M3
  have hn3 : znx M3 = 130 := by rw [← hM3]; exact congrArg (· + 1) hn2
  clear hn2
  refine (B20_25 d 8 8 26 8 M3).trans ?_
  show zgo true d 20 28 [zr 4 8] [] (zsR M3 4 8 2 (26, 8)) = _
  generalize hM4 : zsR M3 4 8 2 (26, 8) = M4
  have hn4 : znx M4 = 130 := by rw [← hM4]; exact hn3
  clear hn3
  refine (B20_28 d 8 M4).trans ?_
  have hz : znx M4 = 130 := hn4
  rw [hz]
  clear hz
  show zgo true d 20 33 [zr 4 8] [zr 27 8, zr 4 8] (znew M4 27 8) = _
  generalize hM5 : znew M4 27 8 = M5
  have hn5 : znx M5 = 131 := by rw [← hM5]; exact congrArg (· + 1) hn4
  clear hn4
  refine (B20_33 d 8 8 27 8 M5).trans ?_
  have hz : znx (zsR M5 4 8 3 (27, 8)) = 131 := hn5
  rw [hz]
  clear hz
  show zgo true d 20 41 [zr 4 8] [zr 28 8, zr 4 8] (znew (zsR M5 4 8 3 (27, 8)) 28 8) = _
  generalize hM6 : znew (zsR M5 4 8 3 (27, 8)) 28 8 = M6
  have hn6 : znx M6 = 132 := by rw [← hM6]; exact congrArg (· + 1) hn5
  clear hn5
  refine (B20_41 d 8 8 28 8 M6).trans ?_
  generalize hM7 : zsR M6 4 8 4 (28, 8) = M7
  have hn7 : znx M7 = 132 := by rw [← hM7]; exact hn6
  clear hn6
  subst hM7 hM6 hM5 hM4 hM3 hM2 hM1
  rfl
def N129_67 (M : zM) : zM := zdo D20_8 (N129_66 M)
set_option maxRecDepth 100000 in
theorem T129_77 (d : Nat) (M : zM) (hn : znx M = 1) : zgo true (d + 3) 129 180 [zr 12 0, zi 8] [zr 4 8, zi 8, zr 51 0] (N129_66 M) = zgo true (d + 3) 129 184 [zr 12 0, zi 8] [zr 4 8, zi 8, zr 51 0] (N129_67 M) := by
  have hX : znx (N129_66 M) = 127 := H129_66 M hn
  have hf0 : zgR (N129_66 M) 12 0 4 = (50, 0) := G129_66_0 M
  have hf1 : zgR (N129_66 M) 12 0 5 = (51, 0) := G129_66_1 M
  have hf2 : zgR (N129_66 M) 12 0 7 = (53, 0) := G129_66_2 M
  generalize hN : N129_66 M = X at hX hf0 hf1 hf2 ⊢
  refine (B129_180 (d + 2) 8 8 8 X).trans ?_
  show Option.bind (zgo true (d + 2) 20 0 [zr 4 8] [] (X)) _ = _
  refine zbind_of (C20_8 (d + 2) _ hX) ?_
  show zgo true (d + 3) 129 184 [zr 12 0, zi 8] [zr 4 8, zi 8, zr 51 0] (zdo D20_8 (X)) = _
  subst hN
  rfl
theorem H129_67 (M : zM) (hn : znx M = 1) : znx (N129_67 M) = 132 := by
  show znx (zdo D20_8 (N129_66 M)) = _
  rw [zdo_nx, H129_66 M hn]
  rfl
set_option maxRecDepth 100000 in
theorem G129_67_0 (M : zM) : zgR (N129_67 M) 12 0 4 = (50, 0) := by
  show zgR (zdo D20_8 (N129_66 M)) 12 0 4 = _
  rw [zdo_R _ _ (by decide), G129_66_0 M]
set_option maxRecDepth 100000 in
theorem G129_67_1 (M : zM) : zgR (N129_67 M) 12 0 5 = (51, 0) := by
  show zgR (zdo D20_8 (N129_66 M)) 12 0 5 = _
  rw [zdo_R _ _ (by decide), G129_66_1 M]
set_option maxRecDepth 100000 in
theorem G129_67_2 (M : zM) : zgR (N129_67 M) 12 0 7 = (53, 0) := by
  show zgR (zdo D20_8 (N129_66 M)) 12 0 7 = _
  rw [zdo_R _ _ (by decide), G129_66_2 M]
def N129_68 (M : zM) : zM := zdo [(1, 51, 0, 8, (4, 8), 0)] (N129_67 M)
set_option maxRecDepth 100000 in
theorem T129_78 (d : Nat) (M : zM) (hn : znx M = 1) : zgo true (d + 3) 129 184 [zr 12 0, zi 8] [zr 4 8, zi 8, zr 51 0] (N129_67 M) = zgo true (d + 3) 129 163 [zr 12 0, zi 9] [] (N129_68 M) := by
  have hX : znx (N129_67 M) = 132 := H129_67 M hn
  have hf0 : zgR (N129_67 M) 12 0 4 = (50, 0) := G129_67_0 M
  have hf1 : zgR (N129_67 M) 12 0 5 = (51, 0) := G129_67_1 M
  have hf2 : zgR (N129_67 M) 12 0 7 = (53, 0) := G129_67_2 M
  generalize hN : N129_67 M = X at hX hf0 hf1 hf2 ⊢
  refine (B129_184 (d + 3) 8 8 8 X).trans ?_
  show zgo true (d + 3) 129 163 [zr 12 0, zi 9] [] (zsR X 51 0 ((8 : Int32).toNatClampNeg) (4, 8)) = _
  rw [show zsR X 51 0 ((8 : Int32).toNatClampNeg) (4, 8) = zdo [(1, 51, 0, 8, (4, 8), 0)] X from rfl]
  subst hN
  rfl
theorem H129_68 (M : zM) (hn : znx M = 1) : znx (N129_68 M) = 132 := by
  show znx (zdo [(1, 51, 0, 8, (4, 8), 0)] (N129_67 M)) = _
  rw [zdo_nx, H129_67 M hn]
  rfl
set_option maxRecDepth 100000 in
theorem G129_68_0 (M : zM) : zgR (N129_68 M) 12 0 4 = (50, 0) := by
  show zgR (zdo [(1, 51, 0, 8, (4, 8), 0)] (N129_67 M)) 12 0 4 = _
  rw [zdo_R _ _ (by decide), G129_67_0 M]
set_option maxRecDepth 100000 in
theorem G129_68_1 (M : zM) : zgR (N129_68 M) 12 0 5 = (51, 0) := by
  show zgR (zdo [(1, 51, 0, 8, (4, 8), 0)] (N129_67 M)) 12 0 5 = _
  rw [zdo_R _ _ (by decide), G129_67_1 M]
set_option maxRecDepth 100000 in
theorem G129_68_2 (M : zM) : zgR (N129_68 M) 12 0 7 = (53, 0) := by
  show zgR (zdo [(1, 51, 0, 8, (4, 8), 0)] (N129_67 M)) 12 0 7 = _
  rw [zdo_R _ _ (by decide), G129_67_2 M]
def N129_69 (M : zM) : zM := zdo [(0, 4, 9, 0, (0, 0), 0)] (N129_68 M)
set_option maxRecDepth 100000 in
theorem T129_79 (d : Nat) (M : zM) (hn : znx M = 1) : zgo true (d + 3) 129 163 [zr 12 0, zi 9] [] (N129_68 M) = zgo true (d + 3) 129 180 [zr 12 0, zi 9] [zr 4 9, zi 9, zr 51 0] (N129_69 M) := by
  have hX : znx (N129_68 M) = 132 := H129_68 M hn
  have hf0 : zgR (N129_68 M) 12 0 4 = (50, 0) := G129_68_0 M
  have hf1 : zgR (N129_68 M) 12 0 5 = (51, 0) := G129_68_1 M
  have hf2 : zgR (N129_68 M) 12 0 7 = (53, 0) := G129_68_2 M
  generalize hN : N129_68 M = X at hX hf0 hf1 hf2 ⊢
  refine (B129_163 (d + 3) 9 X).trans ?_
  rw [show zgR (X) 12 0 5 = (51, 0) from hf1]
  have hz : znx X = 132 := hX
  rw [hz]
  clear hz
  show zgo true (d + 3) 129 180 [zr 12 0, zi 9] [zr 4 9, zi 9, zr 51 0] (znew X 4 9) = _
  rw [show znew X 4 9 = zdo [(0, 4, 9, 0, (0, 0), 0)] X from rfl]
  subst hN
  rfl
theorem H129_69 (M : zM) (hn : znx M = 1) : znx (N129_69 M) = 133 := by
  show znx (zdo [(0, 4, 9, 0, (0, 0), 0)] (N129_68 M)) = _
  rw [zdo_nx, H129_68 M hn]
  rfl
set_option maxRecDepth 100000 in
theorem G129_69_0 (M : zM) : zgR (N129_69 M) 12 0 4 = (50, 0) := by
  show zgR (zdo [(0, 4, 9, 0, (0, 0), 0)] (N129_68 M)) 12 0 4 = _
  rw [zdo_R _ _ (by decide), G129_68_0 M]
set_option maxRecDepth 100000 in
theorem G129_69_1 (M : zM) : zgR (N129_69 M) 12 0 5 = (51, 0) := by
  show zgR (zdo [(0, 4, 9, 0, (0, 0), 0)] (N129_68 M)) 12 0 5 = _
  rw [zdo_R _ _ (by decide), G129_68_1 M]
set_option maxRecDepth 100000 in
theorem G129_69_2 (M : zM) : zgR (N129_69 M) 12 0 7 = (53, 0) := by
  show zgR (zdo [(0, 4, 9, 0, (0, 0), 0)] (N129_68 M)) 12 0 7 = _
  rw [zdo_R _ _ (by decide), G129_68_2 M]
def D20_9 : List zOp := [(0, 24, 9, 0, (0, 0), 0), (1, 4, 9, 0, (24, 9), 0), (0, 25, 9, 0, (0, 0), 0), (1, 4, 9, 1, (25, 9), 0), (0, 26, 9, 0, (0, 0), 0), (1, 4, 9, 2, (26, 9), 0), (0, 27, 9, 0, (0, 0), 0), (1, 4, 9, 3, (27, 9), 0), (0, 28, 9, 0, (0, 0), 0), (1, 4, 9, 4, (28, 9), 0)]
set_option maxRecDepth 100000 in
set_option maxHeartbeats 4000000 in
theorem C20_9 (d : Nat) (M : zM) (hn : znx M = 133) : zgo true d 20 0 [zr 4 9] [] M = some (none, zdo D20_9 M) := by
  refine (B20_0 d 9 M).trans ?_
  have hz : znx M = 133 := hn
  rw [hz]
  clear hz
  show zgo true d 20 9 [zr 4 9] [zr 24 9, zr 4 9] (znew M 24 9) = _
  generalize hM1 : znew M 24 9 = M1
  have hn1 : znx M1 = 134 := by rw [← hM1]; exact congrArg (· + 1) hn
  refine (B20_9 d 9 9 24 9 M1).trans ?_
  have hz : znx (zsR M1 4 9 0 (24, 9)) = 134 := hn1
  rw [hz]
  clear hz
  show zgo true d 20 17 [zr 4 9] [zr 25 9, zr 4 9] (znew (zsR M1 4 9 0 (24, 9)) 25 9) = _
  generalize hM2 : znew (zsR M1 4 9 0 (24, 9)) 25 9 = M2
  have hn2 : znx M2 = 135 := by rw [← hM2]; exact congrArg (· + 1) hn1
  clear hn1
  refine (B20_17 d 9 9 25 9 M2).trans ?_
  have hz : znx (zsR M2 4 9 1 (25, 9)) = 135 := hn2
  rw [hz]
  clear hz
  show zgo true d 20 25 [zr 4 9] [zr 26 9, zr 4 9] (znew (zsR M2 4 9 1 (25, 9)) 26 9) = _
  generalize hM3 : znew (zsR M2 4 9 1 (25, 9)) 26 9 = M3
  have hn3 : znx M3 = 136 := by rw [← hM3]; exact congrArg (· + 1) hn2
  clear hn2
  refine (B20_25 d 9 9 26 9 M3).trans ?_
  show zgo true d 20 28 [zr 4 9] [] (zsR M3 4 9 2 (26, 9)) = _
  generalize hM4 : zsR M3 4 9 2 (26, 9) = M4
  have hn4 : znx M4 = 136 := by rw [← hM4]; exact hn3
  clear hn3
  refine (B20_28 d 9 M4).trans ?_
  have hz : znx M4 = 136 := hn4
  rw [hz]
  clear hz
  show zgo true d 20 33 [zr 4 9] [zr 27 9, zr 4 9] (znew M4 27 9) = _
  generalize hM5 : znew M4 27 9 = M5
  have hn5 : znx M5 = 137 := by rw [← hM5]; exact congrArg (· + 1) hn4
  clear hn4
  refine (B20_33 d 9 9 27 9 M5).trans ?_
  have hz : znx (zsR M5 4 9 3 (27, 9)) = 137 := hn5
  rw [hz]
  clear hz
  show zgo true d 20 41 [zr 4 9] [zr 28 9, zr 4 9] (znew (zsR M5 4 9 3 (27, 9)) 28 9) = _
  generalize hM6 : znew (zsR M5 4 9 3 (27, 9)) 28 9 = M6
  have hn6 : znx M6 = 138 := by rw [← hM6]; exact congrArg (· + 1) hn5
  clear hn5
  refine (B20_41 d 9 9 28 9 M6).trans ?_
  generalize hM7 : zsR M6 4 9 4 (28, 9) = M7
  have hn7 : znx M7 = 138 := by rw [← hM7]; exact hn6
  clear hn6
  subst hM7 hM6 hM5 hM4 hM3 hM2 hM1
  rfl
def N129_70 (M : zM) : zM := zdo D20_9 (N129_69 M)
set_option maxRecDepth 100000 in
theorem T129_80 (d : Nat) (M : zM) (hn : znx M = 1) : zgo true (d + 3) 129 180 [zr 12 0, zi 9] [zr 4 9, zi 9, zr 51 0] (N129_69 M) = zgo true (d + 3) 129 184 [zr 12 0, zi 9] [zr 4 9, zi 9, zr 51 0] (N129_70 M) := by
  have hX : znx (N129_69 M) = 133 := H129_69 M hn
  have hf0 : zgR (N129_69 M) 12 0 4 = (50, 0) := G129_69_0 M
  have hf1 : zgR (N129_69 M) 12 0 5 = (51, 0) := G129_69_1 M
  have hf2 : zgR (N129_69 M) 12 0 7 = (53, 0) := G129_69_2 M
  generalize hN : N129_69 M = X at hX hf0 hf1 hf2 ⊢
  refine (B129_180 (d + 2) 9 9 9 X).trans ?_
  show Option.bind (zgo true (d + 2) 20 0 [zr 4 9] [] (X)) _ = _
  refine zbind_of (C20_9 (d + 2) _ hX) ?_
  show zgo true (d + 3) 129 184 [zr 12 0, zi 9] [zr 4 9, zi 9, zr 51 0] (zdo D20_9 (X)) = _
  subst hN
  rfl
theorem H129_70 (M : zM) (hn : znx M = 1) : znx (N129_70 M) = 138 := by
  show znx (zdo D20_9 (N129_69 M)) = _
  rw [zdo_nx, H129_69 M hn]
  rfl
set_option maxRecDepth 100000 in
theorem G129_70_0 (M : zM) : zgR (N129_70 M) 12 0 4 = (50, 0) := by
  show zgR (zdo D20_9 (N129_69 M)) 12 0 4 = _
  rw [zdo_R _ _ (by decide), G129_69_0 M]
set_option maxRecDepth 100000 in
theorem G129_70_1 (M : zM) : zgR (N129_70 M) 12 0 5 = (51, 0) := by
  show zgR (zdo D20_9 (N129_69 M)) 12 0 5 = _
  rw [zdo_R _ _ (by decide), G129_69_1 M]
set_option maxRecDepth 100000 in
theorem G129_70_2 (M : zM) : zgR (N129_70 M) 12 0 7 = (53, 0) := by
  show zgR (zdo D20_9 (N129_69 M)) 12 0 7 = _
  rw [zdo_R _ _ (by decide), G129_69_2 M]
def N129_71 (M : zM) : zM := zdo [(1, 51, 0, 9, (4, 9), 0)] (N129_70 M)
set_option maxRecDepth 100000 in
theorem T129_81 (d : Nat) (M : zM) (hn : znx M = 1) : zgo true (d + 3) 129 184 [zr 12 0, zi 9] [zr 4 9, zi 9, zr 51 0] (N129_70 M) = zgo true (d + 3) 129 163 [zr 12 0, zi 10] [] (N129_71 M) := by
  have hX : znx (N129_70 M) = 138 := H129_70 M hn
  have hf0 : zgR (N129_70 M) 12 0 4 = (50, 0) := G129_70_0 M
  have hf1 : zgR (N129_70 M) 12 0 5 = (51, 0) := G129_70_1 M
  have hf2 : zgR (N129_70 M) 12 0 7 = (53, 0) := G129_70_2 M
  generalize hN : N129_70 M = X at hX hf0 hf1 hf2 ⊢
  refine (B129_184 (d + 3) 9 9 9 X).trans ?_
  show zgo true (d + 3) 129 163 [zr 12 0, zi 10] [] (zsR X 51 0 ((9 : Int32).toNatClampNeg) (4, 9)) = _
  rw [show zsR X 51 0 ((9 : Int32).toNatClampNeg) (4, 9) = zdo [(1, 51, 0, 9, (4, 9), 0)] X from rfl]
  subst hN
  rfl
theorem H129_71 (M : zM) (hn : znx M = 1) : znx (N129_71 M) = 138 := by
  show znx (zdo [(1, 51, 0, 9, (4, 9), 0)] (N129_70 M)) = _
  rw [zdo_nx, H129_70 M hn]
  rfl
set_option maxRecDepth 100000 in
theorem G129_71_0 (M : zM) : zgR (N129_71 M) 12 0 4 = (50, 0) := by
  show zgR (zdo [(1, 51, 0, 9, (4, 9), 0)] (N129_70 M)) 12 0 4 = _
  rw [zdo_R _ _ (by decide), G129_70_0 M]
set_option maxRecDepth 100000 in
theorem G129_71_1 (M : zM) : zgR (N129_71 M) 12 0 5 = (51, 0) := by
  show zgR (zdo [(1, 51, 0, 9, (4, 9), 0)] (N129_70 M)) 12 0 5 = _
  rw [zdo_R _ _ (by decide), G129_70_1 M]
set_option maxRecDepth 100000 in
theorem G129_71_2 (M : zM) : zgR (N129_71 M) 12 0 7 = (53, 0) := by
  show zgR (zdo [(1, 51, 0, 9, (4, 9), 0)] (N129_70 M)) 12 0 7 = _
  rw [zdo_R _ _ (by decide), G129_70_2 M]
def N129_72 (M : zM) : zM := zdo [(0, 4, 10, 0, (0, 0), 0)] (N129_71 M)
set_option maxRecDepth 100000 in
theorem T129_82 (d : Nat) (M : zM) (hn : znx M = 1) : zgo true (d + 3) 129 163 [zr 12 0, zi 10] [] (N129_71 M) = zgo true (d + 3) 129 180 [zr 12 0, zi 10] [zr 4 10, zi 10, zr 51 0] (N129_72 M) := by
  have hX : znx (N129_71 M) = 138 := H129_71 M hn
  have hf0 : zgR (N129_71 M) 12 0 4 = (50, 0) := G129_71_0 M
  have hf1 : zgR (N129_71 M) 12 0 5 = (51, 0) := G129_71_1 M
  have hf2 : zgR (N129_71 M) 12 0 7 = (53, 0) := G129_71_2 M
  generalize hN : N129_71 M = X at hX hf0 hf1 hf2 ⊢
  refine (B129_163 (d + 3) 10 X).trans ?_
  rw [show zgR (X) 12 0 5 = (51, 0) from hf1]
  have hz : znx X = 138 := hX
  rw [hz]
  clear hz
  show zgo true (d + 3) 129 180 [zr 12 0, zi 10] [zr 4 10, zi 10, zr 51 0] (znew X 4 10) = _
  rw [show znew X 4 10 = zdo [(0, 4, 10, 0, (0, 0), 0)] X from rfl]
  subst hN
  rfl
theorem H129_72 (M : zM) (hn : znx M = 1) : znx (N129_72 M) = 139 := by
  show znx (zdo [(0, 4, 10, 0, (0, 0), 0)] (N129_71 M)) = _
  rw [zdo_nx, H129_71 M hn]
  rfl
set_option maxRecDepth 100000 in
theorem G129_72_0 (M : zM) : zgR (N129_72 M) 12 0 4 = (50, 0) := by
  show zgR (zdo [(0, 4, 10, 0, (0, 0), 0)] (N129_71 M)) 12 0 4 = _
  rw [zdo_R _ _ (by decide), G129_71_0 M]
set_option maxRecDepth 100000 in
theorem G129_72_1 (M : zM) : zgR (N129_72 M) 12 0 5 = (51, 0) := by
  show zgR (zdo [(0, 4, 10, 0, (0, 0), 0)] (N129_71 M)) 12 0 5 = _
  rw [zdo_R _ _ (by decide), G129_71_1 M]
set_option maxRecDepth 100000 in
theorem G129_72_2 (M : zM) : zgR (N129_72 M) 12 0 7 = (53, 0) := by
  show zgR (zdo [(0, 4, 10, 0, (0, 0), 0)] (N129_71 M)) 12 0 7 = _
  rw [zdo_R _ _ (by decide), G129_71_2 M]
def D20_10 : List zOp := [(0, 24, 10, 0, (0, 0), 0), (1, 4, 10, 0, (24, 10), 0), (0, 25, 10, 0, (0, 0), 0), (1, 4, 10, 1, (25, 10), 0), (0, 26, 10, 0, (0, 0), 0), (1, 4, 10, 2, (26, 10), 0), (0, 27, 10, 0, (0, 0), 0), (1, 4, 10, 3, (27, 10), 0), (0, 28, 10, 0, (0, 0), 0), (1, 4, 10, 4, (28, 10), 0)]
set_option maxRecDepth 100000 in
set_option maxHeartbeats 4000000 in
theorem C20_10 (d : Nat) (M : zM) (hn : znx M = 139) : zgo true d 20 0 [zr 4 10] [] M = some (none, zdo D20_10 M) := by
  refine (B20_0 d 10 M).trans ?_
  have hz : znx M = 139 := hn
  rw [hz]
  clear hz
  show zgo true d 20 9 [zr 4 10] [zr 24 10, zr 4 10] (znew M 24 10) = _
  generalize hM1 : znew M 24 10 = M1
  have hn1 : znx M1 = 140 := by rw [← hM1]; exact congrArg (· + 1) hn
  refine (B20_9 d 10 10 24 10 M1).trans ?_
  have hz : znx (zsR M1 4 10 0 (24, 10)) = 140 := hn1
  rw [hz]
  clear hz
  show zgo true d 20 17 [zr 4 10] [zr 25 10, zr 4 10] (znew (zsR M1 4 10 0 (24, 10)) 25 10) = _
  generalize hM2 : znew (zsR M1 4 10 0 (24, 10)) 25 10 = M2
  have hn2 : znx M2 = 141 := by rw [← hM2]; exact congrArg (· + 1) hn1
  clear hn1
  refine (B20_17 d 10 10 25 10 M2).trans ?_
  have hz : znx (zsR M2 4 10 1 (25, 10)) = 141 := hn2
  rw [hz]
  clear hz
  show zgo true d 20 25 [zr 4 10] [zr 26 10, zr 4 10] (znew (zsR M2 4 10 1 (25, 10)) 26 10) = _
  generalize hM3 : znew (zsR M2 4 10 1 (25, 10)) 26 10 = M3
  have hn3 : znx M3 = 142 := by rw [← hM3]; exact congrArg (· + 1) hn2
  clear hn2
  refine (B20_25 d 10 10 26 10 M3).trans ?_
  show zgo true d 20 28 [zr 4 10] [] (zsR M3 4 10 2 (26, 10)) = _
  generalize hM4 : zsR M3 4 10 2 (26, 10) = M4
  have hn4 : znx M4 = 142 := by rw [← hM4]; exact hn3
  clear hn3
  refine (B20_28 d 10 M4).trans ?_
  have hz : znx M4 = 142 := hn4
  rw [hz]
  clear hz
  show zgo true d 20 33 [zr 4 10] [zr 27 10, zr 4 10] (znew M4 27 10) = _
  generalize hM5 : znew M4 27 10 = M5
  have hn5 : znx M5 = 143 := by rw [← hM5]; exact congrArg (· + 1) hn4
  clear hn4
  refine (B20_33 d 10 10 27 10 M5).trans ?_
  have hz : znx (zsR M5 4 10 3 (27, 10)) = 143 := hn5
  rw [hz]
  clear hz
  show zgo true d 20 41 [zr 4 10] [zr 28 10, zr 4 10] (znew (zsR M5 4 10 3 (27, 10)) 28 10) = _
  generalize hM6 : znew (zsR M5 4 10 3 (27, 10)) 28 10 = M6
  have hn6 : znx M6 = 144 := by rw [← hM6]; exact congrArg (· + 1) hn5
  clear hn5
  refine (B20_41 d 10 10 28 10 M6).trans ?_
  generalize hM7 : zsR M6 4 10 4 (28, 10) = M7
  have hn7 : znx M7 = 144 := by rw [← hM7]; exact hn6
  clear hn6
  subst hM7 hM6 hM5 hM4 hM3 hM2 hM1
  rfl
def N129_73 (M : zM) : zM := zdo D20_10 (N129_72 M)
set_option maxRecDepth 100000 in
theorem T129_83 (d : Nat) (M : zM) (hn : znx M = 1) : zgo true (d + 3) 129 180 [zr 12 0, zi 10] [zr 4 10, zi 10, zr 51 0] (N129_72 M) = zgo true (d + 3) 129 184 [zr 12 0, zi 10] [zr 4 10, zi 10, zr 51 0] (N129_73 M) := by
  have hX : znx (N129_72 M) = 139 := H129_72 M hn
  have hf0 : zgR (N129_72 M) 12 0 4 = (50, 0) := G129_72_0 M
  have hf1 : zgR (N129_72 M) 12 0 5 = (51, 0) := G129_72_1 M
  have hf2 : zgR (N129_72 M) 12 0 7 = (53, 0) := G129_72_2 M
  generalize hN : N129_72 M = X at hX hf0 hf1 hf2 ⊢
  refine (B129_180 (d + 2) 10 10 10 X).trans ?_
  show Option.bind (zgo true (d + 2) 20 0 [zr 4 10] [] (X)) _ = _
  refine zbind_of (C20_10 (d + 2) _ hX) ?_
  show zgo true (d + 3) 129 184 [zr 12 0, zi 10] [zr 4 10, zi 10, zr 51 0] (zdo D20_10 (X)) = _
  subst hN
  rfl
theorem H129_73 (M : zM) (hn : znx M = 1) : znx (N129_73 M) = 144 := by
  show znx (zdo D20_10 (N129_72 M)) = _
  rw [zdo_nx, H129_72 M hn]
  rfl
set_option maxRecDepth 100000 in
theorem G129_73_0 (M : zM) : zgR (N129_73 M) 12 0 4 = (50, 0) := by
  show zgR (zdo D20_10 (N129_72 M)) 12 0 4 = _
  rw [zdo_R _ _ (by decide), G129_72_0 M]
set_option maxRecDepth 100000 in
theorem G129_73_1 (M : zM) : zgR (N129_73 M) 12 0 5 = (51, 0) := by
  show zgR (zdo D20_10 (N129_72 M)) 12 0 5 = _
  rw [zdo_R _ _ (by decide), G129_72_1 M]
set_option maxRecDepth 100000 in
theorem G129_73_2 (M : zM) : zgR (N129_73 M) 12 0 7 = (53, 0) := by
  show zgR (zdo D20_10 (N129_72 M)) 12 0 7 = _
  rw [zdo_R _ _ (by decide), G129_72_2 M]
def N129_74 (M : zM) : zM := zdo [(1, 51, 0, 10, (4, 10), 0)] (N129_73 M)
set_option maxRecDepth 100000 in
theorem T129_84 (d : Nat) (M : zM) (hn : znx M = 1) : zgo true (d + 3) 129 184 [zr 12 0, zi 10] [zr 4 10, zi 10, zr 51 0] (N129_73 M) = zgo true (d + 3) 129 163 [zr 12 0, zi 11] [] (N129_74 M) := by
  have hX : znx (N129_73 M) = 144 := H129_73 M hn
  have hf0 : zgR (N129_73 M) 12 0 4 = (50, 0) := G129_73_0 M
  have hf1 : zgR (N129_73 M) 12 0 5 = (51, 0) := G129_73_1 M
  have hf2 : zgR (N129_73 M) 12 0 7 = (53, 0) := G129_73_2 M
  generalize hN : N129_73 M = X at hX hf0 hf1 hf2 ⊢
  refine (B129_184 (d + 3) 10 10 10 X).trans ?_
  show zgo true (d + 3) 129 163 [zr 12 0, zi 11] [] (zsR X 51 0 ((10 : Int32).toNatClampNeg) (4, 10)) = _
  rw [show zsR X 51 0 ((10 : Int32).toNatClampNeg) (4, 10) = zdo [(1, 51, 0, 10, (4, 10), 0)] X from rfl]
  subst hN
  rfl
theorem H129_74 (M : zM) (hn : znx M = 1) : znx (N129_74 M) = 144 := by
  show znx (zdo [(1, 51, 0, 10, (4, 10), 0)] (N129_73 M)) = _
  rw [zdo_nx, H129_73 M hn]
  rfl
set_option maxRecDepth 100000 in
theorem G129_74_0 (M : zM) : zgR (N129_74 M) 12 0 4 = (50, 0) := by
  show zgR (zdo [(1, 51, 0, 10, (4, 10), 0)] (N129_73 M)) 12 0 4 = _
  rw [zdo_R _ _ (by decide), G129_73_0 M]
set_option maxRecDepth 100000 in
theorem G129_74_1 (M : zM) : zgR (N129_74 M) 12 0 5 = (51, 0) := by
  show zgR (zdo [(1, 51, 0, 10, (4, 10), 0)] (N129_73 M)) 12 0 5 = _
  rw [zdo_R _ _ (by decide), G129_73_1 M]
set_option maxRecDepth 100000 in
theorem G129_74_2 (M : zM) : zgR (N129_74 M) 12 0 7 = (53, 0) := by
  show zgR (zdo [(1, 51, 0, 10, (4, 10), 0)] (N129_73 M)) 12 0 7 = _
  rw [zdo_R _ _ (by decide), G129_73_2 M]
def N129_75 (M : zM) : zM := zdo [(0, 4, 11, 0, (0, 0), 0)] (N129_74 M)
set_option maxRecDepth 100000 in
theorem T129_85 (d : Nat) (M : zM) (hn : znx M = 1) : zgo true (d + 3) 129 163 [zr 12 0, zi 11] [] (N129_74 M) = zgo true (d + 3) 129 180 [zr 12 0, zi 11] [zr 4 11, zi 11, zr 51 0] (N129_75 M) := by
  have hX : znx (N129_74 M) = 144 := H129_74 M hn
  have hf0 : zgR (N129_74 M) 12 0 4 = (50, 0) := G129_74_0 M
  have hf1 : zgR (N129_74 M) 12 0 5 = (51, 0) := G129_74_1 M
  have hf2 : zgR (N129_74 M) 12 0 7 = (53, 0) := G129_74_2 M
  generalize hN : N129_74 M = X at hX hf0 hf1 hf2 ⊢
  refine (B129_163 (d + 3) 11 X).trans ?_
  rw [show zgR (X) 12 0 5 = (51, 0) from hf1]
  have hz : znx X = 144 := hX
  rw [hz]
  clear hz
  show zgo true (d + 3) 129 180 [zr 12 0, zi 11] [zr 4 11, zi 11, zr 51 0] (znew X 4 11) = _
  rw [show znew X 4 11 = zdo [(0, 4, 11, 0, (0, 0), 0)] X from rfl]
  subst hN
  rfl
theorem H129_75 (M : zM) (hn : znx M = 1) : znx (N129_75 M) = 145 := by
  show znx (zdo [(0, 4, 11, 0, (0, 0), 0)] (N129_74 M)) = _
  rw [zdo_nx, H129_74 M hn]
  rfl
set_option maxRecDepth 100000 in
theorem G129_75_0 (M : zM) : zgR (N129_75 M) 12 0 4 = (50, 0) := by
  show zgR (zdo [(0, 4, 11, 0, (0, 0), 0)] (N129_74 M)) 12 0 4 = _
  rw [zdo_R _ _ (by decide), G129_74_0 M]
set_option maxRecDepth 100000 in
theorem G129_75_1 (M : zM) : zgR (N129_75 M) 12 0 5 = (51, 0) := by
  show zgR (zdo [(0, 4, 11, 0, (0, 0), 0)] (N129_74 M)) 12 0 5 = _
  rw [zdo_R _ _ (by decide), G129_74_1 M]
set_option maxRecDepth 100000 in
theorem G129_75_2 (M : zM) : zgR (N129_75 M) 12 0 7 = (53, 0) := by
  show zgR (zdo [(0, 4, 11, 0, (0, 0), 0)] (N129_74 M)) 12 0 7 = _
  rw [zdo_R _ _ (by decide), G129_74_2 M]
def D20_11 : List zOp := [(0, 24, 11, 0, (0, 0), 0), (1, 4, 11, 0, (24, 11), 0), (0, 25, 11, 0, (0, 0), 0), (1, 4, 11, 1, (25, 11), 0), (0, 26, 11, 0, (0, 0), 0), (1, 4, 11, 2, (26, 11), 0), (0, 27, 11, 0, (0, 0), 0), (1, 4, 11, 3, (27, 11), 0), (0, 28, 11, 0, (0, 0), 0), (1, 4, 11, 4, (28, 11), 0)]
set_option maxRecDepth 100000 in
set_option maxHeartbeats 4000000 in
theorem C20_11 (d : Nat) (M : zM) (hn : znx M = 145) : zgo true d 20 0 [zr 4 11] [] M = some (none, zdo D20_11 M) := by
  refine (B20_0 d 11 M).trans ?_
  have hz : znx M = 145 := hn
  rw [hz]
  clear hz
  show zgo true d 20 9 [zr 4 11] [zr 24 11, zr 4 11] (znew M 24 11) = _
  generalize hM1 : znew M 24 11 = M1
  have hn1 : znx M1 = 146 := by rw [← hM1]; exact congrArg (· + 1) hn
  refine (B20_9 d 11 11 24 11 M1).trans ?_
  have hz : znx (zsR M1 4 11 0 (24, 11)) = 146 := hn1
  rw [hz]
  clear hz
  show zgo true d 20 17 [zr 4 11] [zr 25 11, zr 4 11] (znew (zsR M1 4 11 0 (24, 11)) 25 11) = _
  generalize hM2 : znew (zsR M1 4 11 0 (24, 11)) 25 11 = M2
  have hn2 : znx M2 = 147 := by rw [← hM2]; exact congrArg (· + 1) hn1
  clear hn1
  refine (B20_17 d 11 11 25 11 M2).trans ?_
  have hz : znx (zsR M2 4 11 1 (25, 11)) = 147 := hn2
  rw [hz]
  clear hz
  show zgo true d 20 25 [zr 4 11] [zr 26 11, zr 4 11] (znew (zsR M2 4 11 1 (25, 11)) 26 11) = _
  generalize hM3 : znew (zsR M2 4 11 1 (25, 11)) 26 11 = M3
  have hn3 : znx M3 = 148 := by rw [← hM3]; exact congrArg (· + 1) hn2
  clear hn2
  refine (B20_25 d 11 11 26 11 M3).trans ?_
  show zgo true d 20 28 [zr 4 11] [] (zsR M3 4 11 2 (26, 11)) = _
  generalize hM4 : zsR M3 4 11 2 (26, 11) = M4
  have hn4 : znx M4 = 148 := by rw [← hM4]; exact hn3
  clear hn3
  refine (B20_28 d 11 M4).trans ?_
  have hz : znx M4 = 148 := hn4
  rw [hz]
  clear hz
  show zgo true d 20 33 [zr 4 11] [zr 27 11, zr 4 11] (znew M4 27 11) = _
  generalize hM5 : znew M4 27 11 = M5
  have hn5 : znx M5 = 149 := by rw [← hM5]; exact congrArg (· + 1) hn4
  clear hn4
  refine (B20_33 d 11 11 27 11 M5).trans ?_
  have hz : znx (zsR M5 4 11 3 (27, 11)) = 149 := hn5
  rw [hz]
  clear hz
  show zgo true d 20 41 [zr 4 11] [zr 28 11, zr 4 11] (znew (zsR M5 4 11 3 (27, 11)) 28 11) = _
  generalize hM6 : znew (zsR M5 4 11 3 (27, 11)) 28 11 = M6
  have hn6 : znx M6 = 150 := by rw [← hM6]; exact congrArg (· + 1) hn5
  clear hn5
  refine (B20_41 d 11 11 28 11 M6).trans ?_
  generalize hM7 : zsR M6 4 11 4 (28, 11) = M7
  have hn7 : znx M7 = 150 := by rw [← hM7]; exact hn6
  clear hn6
  subst hM7 hM6 hM5 hM4 hM3 hM2 hM1
  rfl
def N129_76 (M : zM) : zM := zdo D20_11 (N129_75 M)
set_option maxRecDepth 100000 in
theorem T129_86 (d : Nat) (M : zM) (hn : znx M = 1) : zgo true (d + 3) 129 180 [zr 12 0, zi 11] [zr 4 11, zi 11, zr 51 0] (N129_75 M) = zgo true (d + 3) 129 184 [zr 12 0, zi 11] [zr 4 11, zi 11, zr 51 0] (N129_76 M) := by
  have hX : znx (N129_75 M) = 145 := H129_75 M hn
  have hf0 : zgR (N129_75 M) 12 0 4 = (50, 0) := G129_75_0 M
  have hf1 : zgR (N129_75 M) 12 0 5 = (51, 0) := G129_75_1 M
  have hf2 : zgR (N129_75 M) 12 0 7 = (53, 0) := G129_75_2 M
  generalize hN : N129_75 M = X at hX hf0 hf1 hf2 ⊢
  refine (B129_180 (d + 2) 11 11 11 X).trans ?_
  show Option.bind (zgo true (d + 2) 20 0 [zr 4 11] [] (X)) _ = _
  refine zbind_of (C20_11 (d + 2) _ hX) ?_
  show zgo true (d + 3) 129 184 [zr 12 0, zi 11] [zr 4 11, zi 11, zr 51 0] (zdo D20_11 (X)) = _
  subst hN
  rfl
theorem H129_76 (M : zM) (hn : znx M = 1) : znx (N129_76 M) = 150 := by
  show znx (zdo D20_11 (N129_75 M)) = _
  rw [zdo_nx, H129_75 M hn]
  rfl
set_option maxRecDepth 100000 in
theorem G129_76_0 (M : zM) : zgR (N129_76 M) 12 0 4 = (50, 0) := by
  show zgR (zdo D20_11 (N129_75 M)) 12 0 4 = _
  rw [zdo_R _ _ (by decide), G129_75_0 M]
set_option maxRecDepth 100000 in
theorem G129_76_1 (M : zM) : zgR (N129_76 M) 12 0 5 = (51, 0) := by
  show zgR (zdo D20_11 (N129_75 M)) 12 0 5 = _
  rw [zdo_R _ _ (by decide), G129_75_1 M]
set_option maxRecDepth 100000 in
theorem G129_76_2 (M : zM) : zgR (N129_76 M) 12 0 7 = (53, 0) := by
  show zgR (zdo D20_11 (N129_75 M)) 12 0 7 = _
  rw [zdo_R _ _ (by decide), G129_75_2 M]
def N129_77 (M : zM) : zM := zdo [(1, 51, 0, 11, (4, 11), 0)] (N129_76 M)
set_option maxRecDepth 100000 in
theorem T129_87 (d : Nat) (M : zM) (hn : znx M = 1) : zgo true (d + 3) 129 184 [zr 12 0, zi 11] [zr 4 11, zi 11, zr 51 0] (N129_76 M) = zgo true (d + 3) 129 163 [zr 12 0, zi 12] [] (N129_77 M) := by
  have hX : znx (N129_76 M) = 150 := H129_76 M hn
  have hf0 : zgR (N129_76 M) 12 0 4 = (50, 0) := G129_76_0 M
  have hf1 : zgR (N129_76 M) 12 0 5 = (51, 0) := G129_76_1 M
  have hf2 : zgR (N129_76 M) 12 0 7 = (53, 0) := G129_76_2 M
  generalize hN : N129_76 M = X at hX hf0 hf1 hf2 ⊢
  refine (B129_184 (d + 3) 11 11 11 X).trans ?_
  show zgo true (d + 3) 129 163 [zr 12 0, zi 12] [] (zsR X 51 0 ((11 : Int32).toNatClampNeg) (4, 11)) = _
  rw [show zsR X 51 0 ((11 : Int32).toNatClampNeg) (4, 11) = zdo [(1, 51, 0, 11, (4, 11), 0)] X from rfl]
  subst hN
  rfl
theorem H129_77 (M : zM) (hn : znx M = 1) : znx (N129_77 M) = 150 := by
  show znx (zdo [(1, 51, 0, 11, (4, 11), 0)] (N129_76 M)) = _
  rw [zdo_nx, H129_76 M hn]
  rfl
set_option maxRecDepth 100000 in
theorem G129_77_0 (M : zM) : zgR (N129_77 M) 12 0 4 = (50, 0) := by
  show zgR (zdo [(1, 51, 0, 11, (4, 11), 0)] (N129_76 M)) 12 0 4 = _
  rw [zdo_R _ _ (by decide), G129_76_0 M]
set_option maxRecDepth 100000 in
theorem G129_77_1 (M : zM) : zgR (N129_77 M) 12 0 5 = (51, 0) := by
  show zgR (zdo [(1, 51, 0, 11, (4, 11), 0)] (N129_76 M)) 12 0 5 = _
  rw [zdo_R _ _ (by decide), G129_76_1 M]
set_option maxRecDepth 100000 in
theorem G129_77_2 (M : zM) : zgR (N129_77 M) 12 0 7 = (53, 0) := by
  show zgR (zdo [(1, 51, 0, 11, (4, 11), 0)] (N129_76 M)) 12 0 7 = _
  rw [zdo_R _ _ (by decide), G129_76_2 M]
def N129_78 (M : zM) : zM := zdo [(0, 4, 12, 0, (0, 0), 0)] (N129_77 M)
set_option maxRecDepth 100000 in
theorem T129_88 (d : Nat) (M : zM) (hn : znx M = 1) : zgo true (d + 3) 129 163 [zr 12 0, zi 12] [] (N129_77 M) = zgo true (d + 3) 129 180 [zr 12 0, zi 12] [zr 4 12, zi 12, zr 51 0] (N129_78 M) := by
  have hX : znx (N129_77 M) = 150 := H129_77 M hn
  have hf0 : zgR (N129_77 M) 12 0 4 = (50, 0) := G129_77_0 M
  have hf1 : zgR (N129_77 M) 12 0 5 = (51, 0) := G129_77_1 M
  have hf2 : zgR (N129_77 M) 12 0 7 = (53, 0) := G129_77_2 M
  generalize hN : N129_77 M = X at hX hf0 hf1 hf2 ⊢
  refine (B129_163 (d + 3) 12 X).trans ?_
  rw [show zgR (X) 12 0 5 = (51, 0) from hf1]
  have hz : znx X = 150 := hX
  rw [hz]
  clear hz
  show zgo true (d + 3) 129 180 [zr 12 0, zi 12] [zr 4 12, zi 12, zr 51 0] (znew X 4 12) = _
  rw [show znew X 4 12 = zdo [(0, 4, 12, 0, (0, 0), 0)] X from rfl]
  subst hN
  rfl
theorem H129_78 (M : zM) (hn : znx M = 1) : znx (N129_78 M) = 151 := by
  show znx (zdo [(0, 4, 12, 0, (0, 0), 0)] (N129_77 M)) = _
  rw [zdo_nx, H129_77 M hn]
  rfl
set_option maxRecDepth 100000 in
theorem G129_78_0 (M : zM) : zgR (N129_78 M) 12 0 4 = (50, 0) := by
  show zgR (zdo [(0, 4, 12, 0, (0, 0), 0)] (N129_77 M)) 12 0 4 = _
  rw [zdo_R _ _ (by decide), G129_77_0 M]
set_option maxRecDepth 100000 in
theorem G129_78_1 (M : zM) : zgR (N129_78 M) 12 0 5 = (51, 0) := by
  show zgR (zdo [(0, 4, 12, 0, (0, 0), 0)] (N129_77 M)) 12 0 5 = _
  rw [zdo_R _ _ (by decide), G129_77_1 M]
set_option maxRecDepth 100000 in
theorem G129_78_2 (M : zM) : zgR (N129_78 M) 12 0 7 = (53, 0) := by
  show zgR (zdo [(0, 4, 12, 0, (0, 0), 0)] (N129_77 M)) 12 0 7 = _
  rw [zdo_R _ _ (by decide), G129_77_2 M]
def D20_12 : List zOp := [(0, 24, 12, 0, (0, 0), 0), (1, 4, 12, 0, (24, 12), 0), (0, 25, 12, 0, (0, 0), 0), (1, 4, 12, 1, (25, 12), 0), (0, 26, 12, 0, (0, 0), 0), (1, 4, 12, 2, (26, 12), 0), (0, 27, 12, 0, (0, 0), 0), (1, 4, 12, 3, (27, 12), 0), (0, 28, 12, 0, (0, 0), 0), (1, 4, 12, 4, (28, 12), 0)]
set_option maxRecDepth 100000 in
set_option maxHeartbeats 4000000 in
theorem C20_12 (d : Nat) (M : zM) (hn : znx M = 151) : zgo true d 20 0 [zr 4 12] [] M = some (none, zdo D20_12 M) := by
  refine (B20_0 d 12 M).trans ?_
  have hz : znx M = 151 := hn
  rw [hz]
  clear hz
  show zgo true d 20 9 [zr 4 12] [zr 24 12, zr 4 12] (znew M 24 12) = _
  generalize hM1 : znew M 24 12 = M1
  have hn1 : znx M1 = 152 := by rw [← hM1]; exact congrArg (· + 1) hn
  refine (B20_9 d 12 12 24 12 M1).trans ?_
  have hz : znx (zsR M1 4 12 0 (24, 12)) = 152 := hn1
  rw [hz]
  clear hz
  show zgo true d 20 17 [zr 4 12] [zr 25 12, zr 4 12] (znew (zsR M1 4 12 0 (24, 12)) 25 12) = _
  generalize hM2 : znew (zsR M1 4 12 0 (24, 12)) 25 12 = M2
  have hn2 : znx M2 = 153 := by rw [← hM2]; exact congrArg (· + 1) hn1
  clear hn1
  refine (B20_17 d 12 12 25 12 M2).trans ?_
  have hz : znx (zsR M2 4 12 1 (25, 12)) = 153 := hn2
  rw [hz]
  clear hz
  show zgo true d 20 25 [zr 4 12] [zr 26 12, zr 4 12] (znew (zsR M2 4 12 1 (25, 12)) 26 12) = _
  generalize hM3 : znew (zsR M2 4 12 1 (25, 12)) 26 12 = M3
  have hn3 : znx M3 = 154 := by rw [← hM3]; exact congrArg (· + 1) hn2
  clear hn2
  refine (B20_25 d 12 12 26 12 M3).trans ?_
  show zgo true d 20 28 [zr 4 12] [] (zsR M3 4 12 2 (26, 12)) = _
  generalize hM4 : zsR M3 4 12 2 (26, 12) = M4
  have hn4 : znx M4 = 154 := by rw [← hM4]; exact hn3
  clear hn3
  refine (B20_28 d 12 M4).trans ?_
  have hz : znx M4 = 154 := hn4
  rw [hz]
  clear hz
  show zgo true d 20 33 [zr 4 12] [zr 27 12, zr 4 12] (znew M4 27 12) = _
  generalize hM5 : znew M4 27 12 = M5
  have hn5 : znx M5 = 155 := by rw [← hM5]; exact congrArg (· + 1) hn4
  clear hn4
  refine (B20_33 d 12 12 27 12 M5).trans ?_
  have hz : znx (zsR M5 4 12 3 (27, 12)) = 155 := hn5
  rw [hz]
  clear hz
  show zgo true d 20 41 [zr 4 12] [zr 28 12, zr 4 12] (znew (zsR M5 4 12 3 (27, 12)) 28 12) = _
  generalize hM6 : znew (zsR M5 4 12 3 (27, 12)) 28 12 = M6
  have hn6 : znx M6 = 156 := by rw [← hM6]; exact congrArg (· + 1) hn5
  clear hn5
  refine (B20_41 d 12 12 28 12 M6).trans ?_
  generalize hM7 : zsR M6 4 12 4 (28, 12) = M7
  have hn7 : znx M7 = 156 := by rw [← hM7]; exact hn6
  clear hn6
  subst hM7 hM6 hM5 hM4 hM3 hM2 hM1
  rfl
def N129_79 (M : zM) : zM := zdo D20_12 (N129_78 M)
set_option maxRecDepth 100000 in
theorem T129_89 (d : Nat) (M : zM) (hn : znx M = 1) : zgo true (d + 3) 129 180 [zr 12 0, zi 12] [zr 4 12, zi 12, zr 51 0] (N129_78 M) = zgo true (d + 3) 129 184 [zr 12 0, zi 12] [zr 4 12, zi 12, zr 51 0] (N129_79 M) := by
  have hX : znx (N129_78 M) = 151 := H129_78 M hn
  have hf0 : zgR (N129_78 M) 12 0 4 = (50, 0) := G129_78_0 M
  have hf1 : zgR (N129_78 M) 12 0 5 = (51, 0) := G129_78_1 M
  have hf2 : zgR (N129_78 M) 12 0 7 = (53, 0) := G129_78_2 M
  generalize hN : N129_78 M = X at hX hf0 hf1 hf2 ⊢
  refine (B129_180 (d + 2) 12 12 12 X).trans ?_
  show Option.bind (zgo true (d + 2) 20 0 [zr 4 12] [] (X)) _ = _
  refine zbind_of (C20_12 (d + 2) _ hX) ?_
  show zgo true (d + 3) 129 184 [zr 12 0, zi 12] [zr 4 12, zi 12, zr 51 0] (zdo D20_12 (X)) = _
  subst hN
  rfl
theorem H129_79 (M : zM) (hn : znx M = 1) : znx (N129_79 M) = 156 := by
  show znx (zdo D20_12 (N129_78 M)) = _
  rw [zdo_nx, H129_78 M hn]
  rfl
set_option maxRecDepth 100000 in
theorem G129_79_0 (M : zM) : zgR (N129_79 M) 12 0 4 = (50, 0) := by
  show zgR (zdo D20_12 (N129_78 M)) 12 0 4 = _
  rw [zdo_R _ _ (by decide), G129_78_0 M]
set_option maxRecDepth 100000 in
theorem G129_79_1 (M : zM) : zgR (N129_79 M) 12 0 5 = (51, 0) := by
  show zgR (zdo D20_12 (N129_78 M)) 12 0 5 = _
  rw [zdo_R _ _ (by decide), G129_78_1 M]
set_option maxRecDepth 100000 in
theorem G129_79_2 (M : zM) : zgR (N129_79 M) 12 0 7 = (53, 0) := by
  show zgR (zdo D20_12 (N129_78 M)) 12 0 7 = _
  rw [zdo_R _ _ (by decide), G129_78_2 M]
def N129_80 (M : zM) : zM := zdo [(1, 51, 0, 12, (4, 12), 0)] (N129_79 M)
set_option maxRecDepth 100000 in
theorem T129_90 (d : Nat) (M : zM) (hn : znx M = 1) : zgo true (d + 3) 129 184 [zr 12 0, zi 12] [zr 4 12, zi 12, zr 51 0] (N129_79 M) = zgo true (d + 3) 129 163 [zr 12 0, zi 13] [] (N129_80 M) := by
  have hX : znx (N129_79 M) = 156 := H129_79 M hn
  have hf0 : zgR (N129_79 M) 12 0 4 = (50, 0) := G129_79_0 M
  have hf1 : zgR (N129_79 M) 12 0 5 = (51, 0) := G129_79_1 M
  have hf2 : zgR (N129_79 M) 12 0 7 = (53, 0) := G129_79_2 M
  generalize hN : N129_79 M = X at hX hf0 hf1 hf2 ⊢
  refine (B129_184 (d + 3) 12 12 12 X).trans ?_
  show zgo true (d + 3) 129 163 [zr 12 0, zi 13] [] (zsR X 51 0 ((12 : Int32).toNatClampNeg) (4, 12)) = _
  rw [show zsR X 51 0 ((12 : Int32).toNatClampNeg) (4, 12) = zdo [(1, 51, 0, 12, (4, 12), 0)] X from rfl]
  subst hN
  rfl
theorem H129_80 (M : zM) (hn : znx M = 1) : znx (N129_80 M) = 156 := by
  show znx (zdo [(1, 51, 0, 12, (4, 12), 0)] (N129_79 M)) = _
  rw [zdo_nx, H129_79 M hn]
  rfl
set_option maxRecDepth 100000 in
theorem G129_80_0 (M : zM) : zgR (N129_80 M) 12 0 4 = (50, 0) := by
  show zgR (zdo [(1, 51, 0, 12, (4, 12), 0)] (N129_79 M)) 12 0 4 = _
  rw [zdo_R _ _ (by decide), G129_79_0 M]
set_option maxRecDepth 100000 in
theorem G129_80_1 (M : zM) : zgR (N129_80 M) 12 0 5 = (51, 0) := by
  show zgR (zdo [(1, 51, 0, 12, (4, 12), 0)] (N129_79 M)) 12 0 5 = _
  rw [zdo_R _ _ (by decide), G129_79_1 M]
set_option maxRecDepth 100000 in
theorem G129_80_2 (M : zM) : zgR (N129_80 M) 12 0 7 = (53, 0) := by
  show zgR (zdo [(1, 51, 0, 12, (4, 12), 0)] (N129_79 M)) 12 0 7 = _
  rw [zdo_R _ _ (by decide), G129_79_2 M]
def N129_81 (M : zM) : zM := zdo [(0, 4, 13, 0, (0, 0), 0)] (N129_80 M)
set_option maxRecDepth 100000 in
theorem T129_91 (d : Nat) (M : zM) (hn : znx M = 1) : zgo true (d + 3) 129 163 [zr 12 0, zi 13] [] (N129_80 M) = zgo true (d + 3) 129 180 [zr 12 0, zi 13] [zr 4 13, zi 13, zr 51 0] (N129_81 M) := by
  have hX : znx (N129_80 M) = 156 := H129_80 M hn
  have hf0 : zgR (N129_80 M) 12 0 4 = (50, 0) := G129_80_0 M
  have hf1 : zgR (N129_80 M) 12 0 5 = (51, 0) := G129_80_1 M
  have hf2 : zgR (N129_80 M) 12 0 7 = (53, 0) := G129_80_2 M
  generalize hN : N129_80 M = X at hX hf0 hf1 hf2 ⊢
  refine (B129_163 (d + 3) 13 X).trans ?_
  rw [show zgR (X) 12 0 5 = (51, 0) from hf1]
  have hz : znx X = 156 := hX
  rw [hz]
  clear hz
  show zgo true (d + 3) 129 180 [zr 12 0, zi 13] [zr 4 13, zi 13, zr 51 0] (znew X 4 13) = _
  rw [show znew X 4 13 = zdo [(0, 4, 13, 0, (0, 0), 0)] X from rfl]
  subst hN
  rfl
theorem H129_81 (M : zM) (hn : znx M = 1) : znx (N129_81 M) = 157 := by
  show znx (zdo [(0, 4, 13, 0, (0, 0), 0)] (N129_80 M)) = _
  rw [zdo_nx, H129_80 M hn]
  rfl
set_option maxRecDepth 100000 in
theorem G129_81_0 (M : zM) : zgR (N129_81 M) 12 0 4 = (50, 0) := by
  show zgR (zdo [(0, 4, 13, 0, (0, 0), 0)] (N129_80 M)) 12 0 4 = _
  rw [zdo_R _ _ (by decide), G129_80_0 M]
set_option maxRecDepth 100000 in
theorem G129_81_1 (M : zM) : zgR (N129_81 M) 12 0 5 = (51, 0) := by
  show zgR (zdo [(0, 4, 13, 0, (0, 0), 0)] (N129_80 M)) 12 0 5 = _
  rw [zdo_R _ _ (by decide), G129_80_1 M]
set_option maxRecDepth 100000 in
theorem G129_81_2 (M : zM) : zgR (N129_81 M) 12 0 7 = (53, 0) := by
  show zgR (zdo [(0, 4, 13, 0, (0, 0), 0)] (N129_80 M)) 12 0 7 = _
  rw [zdo_R _ _ (by decide), G129_80_2 M]
def D20_13 : List zOp := [(0, 24, 13, 0, (0, 0), 0), (1, 4, 13, 0, (24, 13), 0), (0, 25, 13, 0, (0, 0), 0), (1, 4, 13, 1, (25, 13), 0), (0, 26, 13, 0, (0, 0), 0), (1, 4, 13, 2, (26, 13), 0), (0, 27, 13, 0, (0, 0), 0), (1, 4, 13, 3, (27, 13), 0), (0, 28, 13, 0, (0, 0), 0), (1, 4, 13, 4, (28, 13), 0)]
set_option maxRecDepth 100000 in
set_option maxHeartbeats 4000000 in
theorem C20_13 (d : Nat) (M : zM) (hn : znx M = 157) : zgo true d 20 0 [zr 4 13] [] M = some (none, zdo D20_13 M) := by
  refine (B20_0 d 13 M).trans ?_
  have hz : znx M = 157 := hn
  rw [hz]
  clear hz
  show zgo true d 20 9 [zr 4 13] [zr 24 13, zr 4 13] (znew M 24 13) = _
  generalize hM1 : znew M 24 13 = M1
  have hn1 : znx M1 = 158 := by rw [← hM1]; exact congrArg (· + 1) hn
  refine (B20_9 d 13 13 24 13 M1).trans ?_
  have hz : znx (zsR M1 4 13 0 (24, 13)) = 158 := hn1
  rw [hz]
  clear hz
  show zgo true d 20 17 [zr 4 13] [zr 25 13, zr 4 13] (znew (zsR M1 4 13 0 (24, 13)) 25 13) = _
  generalize hM2 : znew (zsR M1 4 13 0 (24, 13)) 25 13 = M2
  have hn2 : znx M2 = 159 := by rw [← hM2]; exact congrArg (· + 1) hn1
  clear hn1
  refine (B20_17 d 13 13 25 13 M2).trans ?_
  have hz : znx (zsR M2 4 13 1 (25, 13)) = 159 := hn2
  rw [hz]
  clear hz
  show zgo true d 20 25 [zr 4 13] [zr 26 13, zr 4 13] (znew (zsR M2 4 13 1 (25, 13)) 26 13) = _
  generalize hM3 : znew (zsR M2 4 13 1 (25, 13)) 26 13 = M3
  have hn3 : znx M3 = 160 := by rw [← hM3]; exact congrArg (· + 1) hn2
  clear hn2
  refine (B20_25 d 13 13 26 13 M3).trans ?_
  show zgo true d 20 28 [zr 4 13] [] (zsR M3 4 13 2 (26, 13)) = _
  generalize hM4 : zsR M3 4 13 2 (26, 13) = M4
  have hn4 : znx M4 = 160 := by rw [← hM4]; exact hn3
  clear hn3
  refine (B20_28 d 13 M4).trans ?_
  have hz : znx M4 = 160 := hn4
  rw [hz]
  clear hz
  show zgo true d 20 33 [zr 4 13] [zr 27 13, zr 4 13] (znew M4 27 13) = _
  generalize hM5 : znew M4 27 13 = M5
  have hn5 : znx M5 = 161 := by rw [← hM5]; exact congrArg (· + 1) hn4
  clear hn4
  refine (B20_33 d 13 13 27 13 M5).trans ?_
  have hz : znx (zsR M5 4 13 3 (27, 13)) = 161 := hn5
  rw [hz]
  clear hz
  show zgo true d 20 41 [zr 4 13] [zr 28 13, zr 4 13] (znew (zsR M5 4 13 3 (27, 13)) 28 13) = _
  generalize hM6 : znew (zsR M5 4 13 3 (27, 13)) 28 13 = M6
  have hn6 : znx M6 = 162 := by rw [← hM6]; exact congrArg (· + 1) hn5
  clear hn5
  refine (B20_41 d 13 13 28 13 M6).trans ?_
  generalize hM7 : zsR M6 4 13 4 (28, 13) = M7
  have hn7 : znx M7 = 162 := by rw [← hM7]; exact hn6
  clear hn6
  subst hM7 hM6 hM5 hM4 hM3 hM2 hM1
  rfl
def N129_82 (M : zM) : zM := zdo D20_13 (N129_81 M)
set_option maxRecDepth 100000 in
theorem T129_92 (d : Nat) (M : zM) (hn : znx M = 1) : zgo true (d + 3) 129 180 [zr 12 0, zi 13] [zr 4 13, zi 13, zr 51 0] (N129_81 M) = zgo true (d + 3) 129 184 [zr 12 0, zi 13] [zr 4 13, zi 13, zr 51 0] (N129_82 M) := by
  have hX : znx (N129_81 M) = 157 := H129_81 M hn
  have hf0 : zgR (N129_81 M) 12 0 4 = (50, 0) := G129_81_0 M
  have hf1 : zgR (N129_81 M) 12 0 5 = (51, 0) := G129_81_1 M
  have hf2 : zgR (N129_81 M) 12 0 7 = (53, 0) := G129_81_2 M
  generalize hN : N129_81 M = X at hX hf0 hf1 hf2 ⊢
  refine (B129_180 (d + 2) 13 13 13 X).trans ?_
  show Option.bind (zgo true (d + 2) 20 0 [zr 4 13] [] (X)) _ = _
  refine zbind_of (C20_13 (d + 2) _ hX) ?_
  show zgo true (d + 3) 129 184 [zr 12 0, zi 13] [zr 4 13, zi 13, zr 51 0] (zdo D20_13 (X)) = _
  subst hN
  rfl
theorem H129_82 (M : zM) (hn : znx M = 1) : znx (N129_82 M) = 162 := by
  show znx (zdo D20_13 (N129_81 M)) = _
  rw [zdo_nx, H129_81 M hn]
  rfl
set_option maxRecDepth 100000 in
theorem G129_82_0 (M : zM) : zgR (N129_82 M) 12 0 4 = (50, 0) := by
  show zgR (zdo D20_13 (N129_81 M)) 12 0 4 = _
  rw [zdo_R _ _ (by decide), G129_81_0 M]
set_option maxRecDepth 100000 in
theorem G129_82_1 (M : zM) : zgR (N129_82 M) 12 0 5 = (51, 0) := by
  show zgR (zdo D20_13 (N129_81 M)) 12 0 5 = _
  rw [zdo_R _ _ (by decide), G129_81_1 M]
set_option maxRecDepth 100000 in
theorem G129_82_2 (M : zM) : zgR (N129_82 M) 12 0 7 = (53, 0) := by
  show zgR (zdo D20_13 (N129_81 M)) 12 0 7 = _
  rw [zdo_R _ _ (by decide), G129_81_2 M]
def N129_83 (M : zM) : zM := zdo [(1, 51, 0, 13, (4, 13), 0)] (N129_82 M)
set_option maxRecDepth 100000 in
theorem T129_93 (d : Nat) (M : zM) (hn : znx M = 1) : zgo true (d + 3) 129 184 [zr 12 0, zi 13] [zr 4 13, zi 13, zr 51 0] (N129_82 M) = zgo true (d + 3) 129 163 [zr 12 0, zi 14] [] (N129_83 M) := by
  have hX : znx (N129_82 M) = 162 := H129_82 M hn
  have hf0 : zgR (N129_82 M) 12 0 4 = (50, 0) := G129_82_0 M
  have hf1 : zgR (N129_82 M) 12 0 5 = (51, 0) := G129_82_1 M
  have hf2 : zgR (N129_82 M) 12 0 7 = (53, 0) := G129_82_2 M
  generalize hN : N129_82 M = X at hX hf0 hf1 hf2 ⊢
  refine (B129_184 (d + 3) 13 13 13 X).trans ?_
  show zgo true (d + 3) 129 163 [zr 12 0, zi 14] [] (zsR X 51 0 ((13 : Int32).toNatClampNeg) (4, 13)) = _
  rw [show zsR X 51 0 ((13 : Int32).toNatClampNeg) (4, 13) = zdo [(1, 51, 0, 13, (4, 13), 0)] X from rfl]
  subst hN
  rfl
theorem H129_83 (M : zM) (hn : znx M = 1) : znx (N129_83 M) = 162 := by
  show znx (zdo [(1, 51, 0, 13, (4, 13), 0)] (N129_82 M)) = _
  rw [zdo_nx, H129_82 M hn]
  rfl
set_option maxRecDepth 100000 in
theorem G129_83_0 (M : zM) : zgR (N129_83 M) 12 0 4 = (50, 0) := by
  show zgR (zdo [(1, 51, 0, 13, (4, 13), 0)] (N129_82 M)) 12 0 4 = _
  rw [zdo_R _ _ (by decide), G129_82_0 M]
set_option maxRecDepth 100000 in
theorem G129_83_1 (M : zM) : zgR (N129_83 M) 12 0 5 = (51, 0) := by
  show zgR (zdo [(1, 51, 0, 13, (4, 13), 0)] (N129_82 M)) 12 0 5 = _
  rw [zdo_R _ _ (by decide), G129_82_1 M]
set_option maxRecDepth 100000 in
theorem G129_83_2 (M : zM) : zgR (N129_83 M) 12 0 7 = (53, 0) := by
  show zgR (zdo [(1, 51, 0, 13, (4, 13), 0)] (N129_82 M)) 12 0 7 = _
  rw [zdo_R _ _ (by decide), G129_82_2 M]
def N129_84 (M : zM) : zM := zdo [(0, 4, 14, 0, (0, 0), 0)] (N129_83 M)
set_option maxRecDepth 100000 in
theorem T129_94 (d : Nat) (M : zM) (hn : znx M = 1) : zgo true (d + 3) 129 163 [zr 12 0, zi 14] [] (N129_83 M) = zgo true (d + 3) 129 180 [zr 12 0, zi 14] [zr 4 14, zi 14, zr 51 0] (N129_84 M) := by
  have hX : znx (N129_83 M) = 162 := H129_83 M hn
  have hf0 : zgR (N129_83 M) 12 0 4 = (50, 0) := G129_83_0 M
  have hf1 : zgR (N129_83 M) 12 0 5 = (51, 0) := G129_83_1 M
  have hf2 : zgR (N129_83 M) 12 0 7 = (53, 0) := G129_83_2 M
  generalize hN : N129_83 M = X at hX hf0 hf1 hf2 ⊢
  refine (B129_163 (d + 3) 14 X).trans ?_
  rw [show zgR (X) 12 0 5 = (51, 0) from hf1]
  have hz : znx X = 162 := hX
  rw [hz]
  clear hz
  show zgo true (d + 3) 129 180 [zr 12 0, zi 14] [zr 4 14, zi 14, zr 51 0] (znew X 4 14) = _
  rw [show znew X 4 14 = zdo [(0, 4, 14, 0, (0, 0), 0)] X from rfl]
  subst hN
  rfl
theorem H129_84 (M : zM) (hn : znx M = 1) : znx (N129_84 M) = 163 := by
  show znx (zdo [(0, 4, 14, 0, (0, 0), 0)] (N129_83 M)) = _
  rw [zdo_nx, H129_83 M hn]
  rfl
set_option maxRecDepth 100000 in
theorem G129_84_0 (M : zM) : zgR (N129_84 M) 12 0 4 = (50, 0) := by
  show zgR (zdo [(0, 4, 14, 0, (0, 0), 0)] (N129_83 M)) 12 0 4 = _
  rw [zdo_R _ _ (by decide), G129_83_0 M]
set_option maxRecDepth 100000 in
theorem G129_84_1 (M : zM) : zgR (N129_84 M) 12 0 5 = (51, 0) := by
  show zgR (zdo [(0, 4, 14, 0, (0, 0), 0)] (N129_83 M)) 12 0 5 = _
  rw [zdo_R _ _ (by decide), G129_83_1 M]
set_option maxRecDepth 100000 in
theorem G129_84_2 (M : zM) : zgR (N129_84 M) 12 0 7 = (53, 0) := by
  show zgR (zdo [(0, 4, 14, 0, (0, 0), 0)] (N129_83 M)) 12 0 7 = _
  rw [zdo_R _ _ (by decide), G129_83_2 M]
def D20_14 : List zOp := [(0, 24, 14, 0, (0, 0), 0), (1, 4, 14, 0, (24, 14), 0), (0, 25, 14, 0, (0, 0), 0), (1, 4, 14, 1, (25, 14), 0), (0, 26, 14, 0, (0, 0), 0), (1, 4, 14, 2, (26, 14), 0), (0, 27, 14, 0, (0, 0), 0), (1, 4, 14, 3, (27, 14), 0), (0, 28, 14, 0, (0, 0), 0), (1, 4, 14, 4, (28, 14), 0)]
set_option maxRecDepth 100000 in
set_option maxHeartbeats 4000000 in
theorem C20_14 (d : Nat) (M : zM) (hn : znx M = 163) : zgo true d 20 0 [zr 4 14] [] M = some (none, zdo D20_14 M) := by
  refine (B20_0 d 14 M).trans ?_
  have hz : znx M = 163 := hn
  rw [hz]
  clear hz
  show zgo true d 20 9 [zr 4 14] [zr 24 14, zr 4 14] (znew M 24 14) = _
  generalize hM1 : znew M 24 14 = M1
  have hn1 : znx M1 = 164 := by rw [← hM1]; exact congrArg (· + 1) hn
  refine (B20_9 d 14 14 24 14 M1).trans ?_
  have hz : znx (zsR M1 4 14 0 (24, 14)) = 164 := hn1
  rw [hz]
  clear hz
  show zgo true d 20 17 [zr 4 14] [zr 25 14, zr 4 14] (znew (zsR M1 4 14 0 (24, 14)) 25 14) = _
  generalize hM2 : znew (zsR M1 4 14 0 (24, 14)) 25 14 = M2
  have hn2 : znx M2 = 165 := by rw [← hM2]; exact congrArg (· + 1) hn1
  clear hn1
  refine (B20_17 d 14 14 25 14 M2).trans ?_
  have hz : znx (zsR M2 4 14 1 (25, 14)) = 165 := hn2
  rw [hz]
  clear hz
  show zgo true d 20 25 [zr 4 14] [zr 26 14, zr 4 14] (znew (zsR M2 4 14 1 (25, 14)) 26 14) = _
  generalize hM3 : znew (zsR M2 4 14 1 (25, 14)) 26 14 = M3
  have hn3 : znx M3 = 166 := by rw [← hM3]; exact congrArg (· + 1) hn2
  clear hn2
  refine (B20_25 d 14 14 26 14 M3).trans ?_
  show zgo true d 20 28 [zr 4 14] [] (zsR M3 4 14 2 (26, 14)) = _
  generalize hM4 : zsR M3 4 14 2 (26, 14) = M4
  have hn4 : znx M4 = 166 := by rw [← hM4]; exact hn3
  clear hn3
  refine (B20_28 d 14 M4).trans ?_
  have hz : znx M4 = 166 := hn4
  rw [hz]
  clear hz
  show zgo true d 20 33 [zr 4 14] [zr 27 14, zr 4 14] (znew M4 27 14) = _
  generalize hM5 : znew M4 27 14 = M5
  have hn5 : znx M5 = 167 := by rw [← hM5]; exact congrArg (· + 1) hn4
  clear hn4
  refine (B20_33 d 14 14 27 14 M5).trans ?_
  have hz : znx (zsR M5 4 14 3 (27, 14)) = 167 := hn5
  rw [hz]
  clear hz
  show zgo true d 20 41 [zr 4 14] [zr 28 14, zr 4 14] (znew (zsR M5 4 14 3 (27, 14)) 28 14) = _
  generalize hM6 : znew (zsR M5 4 14 3 (27, 14)) 28 14 = M6
  have hn6 : znx M6 = 168 := by rw [← hM6]; exact congrArg (· + 1) hn5
  clear hn5
  refine (B20_41 d 14 14 28 14 M6).trans ?_
  generalize hM7 : zsR M6 4 14 4 (28, 14) = M7
  have hn7 : znx M7 = 168 := by rw [← hM7]; exact hn6
  clear hn6
  subst hM7 hM6 hM5 hM4 hM3 hM2 hM1
  rfl
def N129_85 (M : zM) : zM := zdo D20_14 (N129_84 M)
set_option maxRecDepth 100000 in
theorem T129_95 (d : Nat) (M : zM) (hn : znx M = 1) : zgo true (d + 3) 129 180 [zr 12 0, zi 14] [zr 4 14, zi 14, zr 51 0] (N129_84 M) = zgo true (d + 3) 129 184 [zr 12 0, zi 14] [zr 4 14, zi 14, zr 51 0] (N129_85 M) := by
  have hX : znx (N129_84 M) = 163 := H129_84 M hn
  have hf0 : zgR (N129_84 M) 12 0 4 = (50, 0) := G129_84_0 M
  have hf1 : zgR (N129_84 M) 12 0 5 = (51, 0) := G129_84_1 M
  have hf2 : zgR (N129_84 M) 12 0 7 = (53, 0) := G129_84_2 M
  generalize hN : N129_84 M = X at hX hf0 hf1 hf2 ⊢
  refine (B129_180 (d + 2) 14 14 14 X).trans ?_
  show Option.bind (zgo true (d + 2) 20 0 [zr 4 14] [] (X)) _ = _
  refine zbind_of (C20_14 (d + 2) _ hX) ?_
  show zgo true (d + 3) 129 184 [zr 12 0, zi 14] [zr 4 14, zi 14, zr 51 0] (zdo D20_14 (X)) = _
  subst hN
  rfl
theorem H129_85 (M : zM) (hn : znx M = 1) : znx (N129_85 M) = 168 := by
  show znx (zdo D20_14 (N129_84 M)) = _
  rw [zdo_nx, H129_84 M hn]
  rfl
set_option maxRecDepth 100000 in
theorem G129_85_0 (M : zM) : zgR (N129_85 M) 12 0 4 = (50, 0) := by
  show zgR (zdo D20_14 (N129_84 M)) 12 0 4 = _
  rw [zdo_R _ _ (by decide), G129_84_0 M]
set_option maxRecDepth 100000 in
theorem G129_85_1 (M : zM) : zgR (N129_85 M) 12 0 5 = (51, 0) := by
  show zgR (zdo D20_14 (N129_84 M)) 12 0 5 = _
  rw [zdo_R _ _ (by decide), G129_84_1 M]
set_option maxRecDepth 100000 in
theorem G129_85_2 (M : zM) : zgR (N129_85 M) 12 0 7 = (53, 0) := by
  show zgR (zdo D20_14 (N129_84 M)) 12 0 7 = _
  rw [zdo_R _ _ (by decide), G129_84_2 M]
def N129_86 (M : zM) : zM := zdo [(1, 51, 0, 14, (4, 14), 0)] (N129_85 M)
set_option maxRecDepth 100000 in
theorem T129_96 (d : Nat) (M : zM) (hn : znx M = 1) : zgo true (d + 3) 129 184 [zr 12 0, zi 14] [zr 4 14, zi 14, zr 51 0] (N129_85 M) = zgo true (d + 3) 129 163 [zr 12 0, zi 15] [] (N129_86 M) := by
  have hX : znx (N129_85 M) = 168 := H129_85 M hn
  have hf0 : zgR (N129_85 M) 12 0 4 = (50, 0) := G129_85_0 M
  have hf1 : zgR (N129_85 M) 12 0 5 = (51, 0) := G129_85_1 M
  have hf2 : zgR (N129_85 M) 12 0 7 = (53, 0) := G129_85_2 M
  generalize hN : N129_85 M = X at hX hf0 hf1 hf2 ⊢
  refine (B129_184 (d + 3) 14 14 14 X).trans ?_
  show zgo true (d + 3) 129 163 [zr 12 0, zi 15] [] (zsR X 51 0 ((14 : Int32).toNatClampNeg) (4, 14)) = _
  rw [show zsR X 51 0 ((14 : Int32).toNatClampNeg) (4, 14) = zdo [(1, 51, 0, 14, (4, 14), 0)] X from rfl]
  subst hN
  rfl
theorem H129_86 (M : zM) (hn : znx M = 1) : znx (N129_86 M) = 168 := by
  show znx (zdo [(1, 51, 0, 14, (4, 14), 0)] (N129_85 M)) = _
  rw [zdo_nx, H129_85 M hn]
  rfl
set_option maxRecDepth 100000 in
theorem G129_86_0 (M : zM) : zgR (N129_86 M) 12 0 4 = (50, 0) := by
  show zgR (zdo [(1, 51, 0, 14, (4, 14), 0)] (N129_85 M)) 12 0 4 = _
  rw [zdo_R _ _ (by decide), G129_85_0 M]
set_option maxRecDepth 100000 in
theorem G129_86_1 (M : zM) : zgR (N129_86 M) 12 0 5 = (51, 0) := by
  show zgR (zdo [(1, 51, 0, 14, (4, 14), 0)] (N129_85 M)) 12 0 5 = _
  rw [zdo_R _ _ (by decide), G129_85_1 M]
set_option maxRecDepth 100000 in
theorem G129_86_2 (M : zM) : zgR (N129_86 M) 12 0 7 = (53, 0) := by
  show zgR (zdo [(1, 51, 0, 14, (4, 14), 0)] (N129_85 M)) 12 0 7 = _
  rw [zdo_R _ _ (by decide), G129_85_2 M]
def N129_87 (M : zM) : zM := zdo [(0, 4, 15, 0, (0, 0), 0)] (N129_86 M)
set_option maxRecDepth 100000 in
theorem T129_97 (d : Nat) (M : zM) (hn : znx M = 1) : zgo true (d + 3) 129 163 [zr 12 0, zi 15] [] (N129_86 M) = zgo true (d + 3) 129 180 [zr 12 0, zi 15] [zr 4 15, zi 15, zr 51 0] (N129_87 M) := by
  have hX : znx (N129_86 M) = 168 := H129_86 M hn
  have hf0 : zgR (N129_86 M) 12 0 4 = (50, 0) := G129_86_0 M
  have hf1 : zgR (N129_86 M) 12 0 5 = (51, 0) := G129_86_1 M
  have hf2 : zgR (N129_86 M) 12 0 7 = (53, 0) := G129_86_2 M
  generalize hN : N129_86 M = X at hX hf0 hf1 hf2 ⊢
  refine (B129_163 (d + 3) 15 X).trans ?_
  rw [show zgR (X) 12 0 5 = (51, 0) from hf1]
  have hz : znx X = 168 := hX
  rw [hz]
  clear hz
  show zgo true (d + 3) 129 180 [zr 12 0, zi 15] [zr 4 15, zi 15, zr 51 0] (znew X 4 15) = _
  rw [show znew X 4 15 = zdo [(0, 4, 15, 0, (0, 0), 0)] X from rfl]
  subst hN
  rfl
theorem H129_87 (M : zM) (hn : znx M = 1) : znx (N129_87 M) = 169 := by
  show znx (zdo [(0, 4, 15, 0, (0, 0), 0)] (N129_86 M)) = _
  rw [zdo_nx, H129_86 M hn]
  rfl
set_option maxRecDepth 100000 in
theorem G129_87_0 (M : zM) : zgR (N129_87 M) 12 0 4 = (50, 0) := by
  show zgR (zdo [(0, 4, 15, 0, (0, 0), 0)] (N129_86 M)) 12 0 4 = _
  rw [zdo_R _ _ (by decide), G129_86_0 M]
set_option maxRecDepth 100000 in
theorem G129_87_1 (M : zM) : zgR (N129_87 M) 12 0 5 = (51, 0) := by
  show zgR (zdo [(0, 4, 15, 0, (0, 0), 0)] (N129_86 M)) 12 0 5 = _
  rw [zdo_R _ _ (by decide), G129_86_1 M]
set_option maxRecDepth 100000 in
theorem G129_87_2 (M : zM) : zgR (N129_87 M) 12 0 7 = (53, 0) := by
  show zgR (zdo [(0, 4, 15, 0, (0, 0), 0)] (N129_86 M)) 12 0 7 = _
  rw [zdo_R _ _ (by decide), G129_86_2 M]
def D20_15 : List zOp := [(0, 24, 15, 0, (0, 0), 0), (1, 4, 15, 0, (24, 15), 0), (0, 25, 15, 0, (0, 0), 0), (1, 4, 15, 1, (25, 15), 0), (0, 26, 15, 0, (0, 0), 0), (1, 4, 15, 2, (26, 15), 0), (0, 27, 15, 0, (0, 0), 0), (1, 4, 15, 3, (27, 15), 0), (0, 28, 15, 0, (0, 0), 0), (1, 4, 15, 4, (28, 15), 0)]
set_option maxRecDepth 100000 in
set_option maxHeartbeats 4000000 in
theorem C20_15 (d : Nat) (M : zM) (hn : znx M = 169) : zgo true d 20 0 [zr 4 15] [] M = some (none, zdo D20_15 M) := by
  refine (B20_0 d 15 M).trans ?_
  have hz : znx M = 169 := hn
  rw [hz]
  clear hz
  show zgo true d 20 9 [zr 4 15] [zr 24 15, zr 4 15] (znew M 24 15) = _
  generalize hM1 : znew M 24 15 = M1
  have hn1 : znx M1 = 170 := by rw [← hM1]; exact congrArg (· + 1) hn
  refine (B20_9 d 15 15 24 15 M1).trans ?_
  have hz : znx (zsR M1 4 15 0 (24, 15)) = 170 := hn1
  rw [hz]
  clear hz
  show zgo true d 20 17 [zr 4 15] [zr 25 15, zr 4 15] (znew (zsR M1 4 15 0 (24, 15)) 25 15) = _
  generalize hM2 : znew (zsR M1 4 15 0 (24, 15)) 25 15 = M2
  have hn2 : znx M2 = 171 := by rw [← hM2]; exact congrArg (· + 1) hn1
  clear hn1
  refine (B20_17 d 15 15 25 15 M2).trans ?_
  have hz : znx (zsR M2 4 15 1 (25, 15)) = 171 := hn2
  rw [hz]
  clear hz
  show zgo true d 20 25 [zr 4 15] [zr 26 15, zr 4 15] (znew (zsR M2 4 15 1 (25, 15)) 26 15) = _
  generalize hM3 : znew (zsR M2 4 15 1 (25, 15)) 26 15 = M3
  have hn3 : znx M3 = 172 := by rw [← hM3]; exact congrArg (· + 1) hn2
  clear hn2
  refine (B20_25 d 15 15 26 15 M3).trans ?_
  show zgo true d 20 28 [zr 4 15] [] (zsR M3 4 15 2 (26, 15)) = _
  generalize hM4 : zsR M3 4 15 2 (26, 15) = M4
  have hn4 : znx M4 = 172 := by rw [← hM4]; exact hn3
  clear hn3
  refine (B20_28 d 15 M4).trans ?_
  have hz : znx M4 = 172 := hn4
  rw [hz]
  clear hz
  show zgo true d 20 33 [zr 4 15] [zr 27 15, zr 4 15] (znew M4 27 15) = _
  generalize hM5 : znew M4 27 15 = M5
  have hn5 : znx M5 = 173 := by rw [← hM5]; exact congrArg (· + 1) hn4
  clear hn4
  refine (B20_33 d 15 15 27 15 M5).trans ?_
  have hz : znx (zsR M5 4 15 3 (27, 15)) = 173 := hn5
  rw [hz]
  clear hz
  show zgo true d 20 41 [zr 4 15] [zr 28 15, zr 4 15] (znew (zsR M5 4 15 3 (27, 15)) 28 15) = _
  generalize hM6 : znew (zsR M5 4 15 3 (27, 15)) 28 15 = M6
  have hn6 : znx M6 = 174 := by rw [← hM6]; exact congrArg (· + 1) hn5
  clear hn5
  refine (B20_41 d 15 15 28 15 M6).trans ?_
  generalize hM7 : zsR M6 4 15 4 (28, 15) = M7
  have hn7 : znx M7 = 174 := by rw [← hM7]; exact hn6
  clear hn6
  subst hM7 hM6 hM5 hM4 hM3 hM2 hM1
  rfl
def N129_88 (M : zM) : zM := zdo D20_15 (N129_87 M)
set_option maxRecDepth 100000 in
theorem T129_98 (d : Nat) (M : zM) (hn : znx M = 1) : zgo true (d + 3) 129 180 [zr 12 0, zi 15] [zr 4 15, zi 15, zr 51 0] (N129_87 M) = zgo true (d + 3) 129 184 [zr 12 0, zi 15] [zr 4 15, zi 15, zr 51 0] (N129_88 M) := by
  have hX : znx (N129_87 M) = 169 := H129_87 M hn
  have hf0 : zgR (N129_87 M) 12 0 4 = (50, 0) := G129_87_0 M
  have hf1 : zgR (N129_87 M) 12 0 5 = (51, 0) := G129_87_1 M
  have hf2 : zgR (N129_87 M) 12 0 7 = (53, 0) := G129_87_2 M
  generalize hN : N129_87 M = X at hX hf0 hf1 hf2 ⊢
  refine (B129_180 (d + 2) 15 15 15 X).trans ?_
  show Option.bind (zgo true (d + 2) 20 0 [zr 4 15] [] (X)) _ = _
  refine zbind_of (C20_15 (d + 2) _ hX) ?_
  show zgo true (d + 3) 129 184 [zr 12 0, zi 15] [zr 4 15, zi 15, zr 51 0] (zdo D20_15 (X)) = _
  subst hN
  rfl
theorem H129_88 (M : zM) (hn : znx M = 1) : znx (N129_88 M) = 174 := by
  show znx (zdo D20_15 (N129_87 M)) = _
  rw [zdo_nx, H129_87 M hn]
  rfl
set_option maxRecDepth 100000 in
theorem G129_88_0 (M : zM) : zgR (N129_88 M) 12 0 4 = (50, 0) := by
  show zgR (zdo D20_15 (N129_87 M)) 12 0 4 = _
  rw [zdo_R _ _ (by decide), G129_87_0 M]
set_option maxRecDepth 100000 in
theorem G129_88_1 (M : zM) : zgR (N129_88 M) 12 0 5 = (51, 0) := by
  show zgR (zdo D20_15 (N129_87 M)) 12 0 5 = _
  rw [zdo_R _ _ (by decide), G129_87_1 M]
set_option maxRecDepth 100000 in
theorem G129_88_2 (M : zM) : zgR (N129_88 M) 12 0 7 = (53, 0) := by
  show zgR (zdo D20_15 (N129_87 M)) 12 0 7 = _
  rw [zdo_R _ _ (by decide), G129_87_2 M]
def N129_89 (M : zM) : zM := zdo [(1, 51, 0, 15, (4, 15), 0)] (N129_88 M)
set_option maxRecDepth 100000 in
theorem T129_99 (d : Nat) (M : zM) (hn : znx M = 1) : zgo true (d + 3) 129 184 [zr 12 0, zi 15] [zr 4 15, zi 15, zr 51 0] (N129_88 M) = zgo true (d + 3) 129 163 [zr 12 0, zi 16] [] (N129_89 M) := by
  have hX : znx (N129_88 M) = 174 := H129_88 M hn
  have hf0 : zgR (N129_88 M) 12 0 4 = (50, 0) := G129_88_0 M
  have hf1 : zgR (N129_88 M) 12 0 5 = (51, 0) := G129_88_1 M
  have hf2 : zgR (N129_88 M) 12 0 7 = (53, 0) := G129_88_2 M
  generalize hN : N129_88 M = X at hX hf0 hf1 hf2 ⊢
  refine (B129_184 (d + 3) 15 15 15 X).trans ?_
  show zgo true (d + 3) 129 163 [zr 12 0, zi 16] [] (zsR X 51 0 ((15 : Int32).toNatClampNeg) (4, 15)) = _
  rw [show zsR X 51 0 ((15 : Int32).toNatClampNeg) (4, 15) = zdo [(1, 51, 0, 15, (4, 15), 0)] X from rfl]
  subst hN
  rfl
theorem H129_89 (M : zM) (hn : znx M = 1) : znx (N129_89 M) = 174 := by
  show znx (zdo [(1, 51, 0, 15, (4, 15), 0)] (N129_88 M)) = _
  rw [zdo_nx, H129_88 M hn]
  rfl
set_option maxRecDepth 100000 in
theorem G129_89_0 (M : zM) : zgR (N129_89 M) 12 0 4 = (50, 0) := by
  show zgR (zdo [(1, 51, 0, 15, (4, 15), 0)] (N129_88 M)) 12 0 4 = _
  rw [zdo_R _ _ (by decide), G129_88_0 M]
set_option maxRecDepth 100000 in
theorem G129_89_1 (M : zM) : zgR (N129_89 M) 12 0 5 = (51, 0) := by
  show zgR (zdo [(1, 51, 0, 15, (4, 15), 0)] (N129_88 M)) 12 0 5 = _
  rw [zdo_R _ _ (by decide), G129_88_1 M]
set_option maxRecDepth 100000 in
theorem G129_89_2 (M : zM) : zgR (N129_89 M) 12 0 7 = (53, 0) := by
  show zgR (zdo [(1, 51, 0, 15, (4, 15), 0)] (N129_88 M)) 12 0 7 = _
  rw [zdo_R _ _ (by decide), G129_88_2 M]
def N129_90 (M : zM) : zM := zdo [(0, 4, 16, 0, (0, 0), 0)] (N129_89 M)
set_option maxRecDepth 100000 in
theorem T129_100 (d : Nat) (M : zM) (hn : znx M = 1) : zgo true (d + 3) 129 163 [zr 12 0, zi 16] [] (N129_89 M) = zgo true (d + 3) 129 180 [zr 12 0, zi 16] [zr 4 16, zi 16, zr 51 0] (N129_90 M) := by
  have hX : znx (N129_89 M) = 174 := H129_89 M hn
  have hf0 : zgR (N129_89 M) 12 0 4 = (50, 0) := G129_89_0 M
  have hf1 : zgR (N129_89 M) 12 0 5 = (51, 0) := G129_89_1 M
  have hf2 : zgR (N129_89 M) 12 0 7 = (53, 0) := G129_89_2 M
  generalize hN : N129_89 M = X at hX hf0 hf1 hf2 ⊢
  refine (B129_163 (d + 3) 16 X).trans ?_
  rw [show zgR (X) 12 0 5 = (51, 0) from hf1]
  have hz : znx X = 174 := hX
  rw [hz]
  clear hz
  show zgo true (d + 3) 129 180 [zr 12 0, zi 16] [zr 4 16, zi 16, zr 51 0] (znew X 4 16) = _
  rw [show znew X 4 16 = zdo [(0, 4, 16, 0, (0, 0), 0)] X from rfl]
  subst hN
  rfl
theorem H129_90 (M : zM) (hn : znx M = 1) : znx (N129_90 M) = 175 := by
  show znx (zdo [(0, 4, 16, 0, (0, 0), 0)] (N129_89 M)) = _
  rw [zdo_nx, H129_89 M hn]
  rfl
set_option maxRecDepth 100000 in
theorem G129_90_0 (M : zM) : zgR (N129_90 M) 12 0 4 = (50, 0) := by
  show zgR (zdo [(0, 4, 16, 0, (0, 0), 0)] (N129_89 M)) 12 0 4 = _
  rw [zdo_R _ _ (by decide), G129_89_0 M]
set_option maxRecDepth 100000 in
theorem G129_90_1 (M : zM) : zgR (N129_90 M) 12 0 5 = (51, 0) := by
  show zgR (zdo [(0, 4, 16, 0, (0, 0), 0)] (N129_89 M)) 12 0 5 = _
  rw [zdo_R _ _ (by decide), G129_89_1 M]
set_option maxRecDepth 100000 in
theorem G129_90_2 (M : zM) : zgR (N129_90 M) 12 0 7 = (53, 0) := by
  show zgR (zdo [(0, 4, 16, 0, (0, 0), 0)] (N129_89 M)) 12 0 7 = _
  rw [zdo_R _ _ (by decide), G129_89_2 M]
def D20_16 : List zOp := [(0, 24, 16, 0, (0, 0), 0), (1, 4, 16, 0, (24, 16), 0), (0, 25, 16, 0, (0, 0), 0), (1, 4, 16, 1, (25, 16), 0), (0, 26, 16, 0, (0, 0), 0), (1, 4, 16, 2, (26, 16), 0), (0, 27, 16, 0, (0, 0), 0), (1, 4, 16, 3, (27, 16), 0), (0, 28, 16, 0, (0, 0), 0), (1, 4, 16, 4, (28, 16), 0)]
set_option maxRecDepth 100000 in
set_option maxHeartbeats 4000000 in
theorem C20_16 (d : Nat) (M : zM) (hn : znx M = 175) : zgo true d 20 0 [zr 4 16] [] M = some (none, zdo D20_16 M) := by
  refine (B20_0 d 16 M).trans ?_
  have hz : znx M = 175 := hn
  rw [hz]
  clear hz
  show zgo true d 20 9 [zr 4 16] [zr 24 16, zr 4 16] (znew M 24 16) = _
  generalize hM1 : znew M 24 16 = M1
  have hn1 : znx M1 = 176 := by rw [← hM1]; exact congrArg (· + 1) hn
  refine (B20_9 d 16 16 24 16 M1).trans ?_
  have hz : znx (zsR M1 4 16 0 (24, 16)) = 176 := hn1
  rw [hz]
  clear hz
  show zgo true d 20 17 [zr 4 16] [zr 25 16, zr 4 16] (znew (zsR M1 4 16 0 (24, 16)) 25 16) = _
  generalize hM2 : znew (zsR M1 4 16 0 (24, 16)) 25 16 = M2
  have hn2 : znx M2 = 177 := by rw [← hM2]; exact congrArg (· + 1) hn1
  clear hn1
  refine (B20_17 d 16 16 25 16 M2).trans ?_
  have hz : znx (zsR M2 4 16 1 (25, 16)) = 177 := hn2
  rw [hz]
  clear hz
  show zgo true d 20 25 [zr 4 16] [zr 26 16, zr 4 16] (znew (zsR M2 4 16 1 (25, 16)) 26 16) = _
  generalize hM3 : znew (zsR M2 4 16 1 (25, 16)) 26 16 = M3
  have hn3 : znx M3 = 178 := by rw [← hM3]; exact congrArg (· + 1) hn2
  clear hn2
  refine (B20_25 d 16 16 26 16 M3).trans ?_
  show zgo true d 20 28 [zr 4 16] [] (zsR M3 4 16 2 (26, 16)) = _
  generalize hM4 : zsR M3 4 16 2 (26, 16) = M4
  have hn4 : znx M4 = 178 := by rw [← hM4]; exact hn3
  clear hn3
  refine (B20_28 d 16 M4).trans ?_
  have hz : znx M4 = 178 := hn4
  rw [hz]
  clear hz
  show zgo true d 20 33 [zr 4 16] [zr 27 16, zr 4 16] (znew M4 27 16) = _
  generalize hM5 : znew M4 27 16 = M5
  have hn5 : znx M5 = 179 := by rw [← hM5]; exact congrArg (· + 1) hn4
  clear hn4
  refine (B20_33 d 16 16 27 16 M5).trans ?_
  have hz : znx (zsR M5 4 16 3 (27, 16)) = 179 := hn5
  rw [hz]
  clear hz
  show zgo true d 20 41 [zr 4 16] [zr 28 16, zr 4 16] (znew (zsR M5 4 16 3 (27, 16)) 28 16) = _
  generalize hM6 : znew (zsR M5 4 16 3 (27, 16)) 28 16 = M6
  have hn6 : znx M6 = 180 := by rw [← hM6]; exact congrArg (· + 1) hn5
  clear hn5
  refine (B20_41 d 16 16 28 16 M6).trans ?_
  generalize hM7 : zsR M6 4 16 4 (28, 16) = M7
  have hn7 : znx M7 = 180 := by rw [← hM7]; exact hn6
  clear hn6
  subst hM7 hM6 hM5 hM4 hM3 hM2 hM1
  rfl
def N129_91 (M : zM) : zM := zdo D20_16 (N129_90 M)
set_option maxRecDepth 100000 in
theorem T129_101 (d : Nat) (M : zM) (hn : znx M = 1) : zgo true (d + 3) 129 180 [zr 12 0, zi 16] [zr 4 16, zi 16, zr 51 0] (N129_90 M) = zgo true (d + 3) 129 184 [zr 12 0, zi 16] [zr 4 16, zi 16, zr 51 0] (N129_91 M) := by
  have hX : znx (N129_90 M) = 175 := H129_90 M hn
  have hf0 : zgR (N129_90 M) 12 0 4 = (50, 0) := G129_90_0 M
  have hf1 : zgR (N129_90 M) 12 0 5 = (51, 0) := G129_90_1 M
  have hf2 : zgR (N129_90 M) 12 0 7 = (53, 0) := G129_90_2 M
  generalize hN : N129_90 M = X at hX hf0 hf1 hf2 ⊢
  refine (B129_180 (d + 2) 16 16 16 X).trans ?_
  show Option.bind (zgo true (d + 2) 20 0 [zr 4 16] [] (X)) _ = _
  refine zbind_of (C20_16 (d + 2) _ hX) ?_
  show zgo true (d + 3) 129 184 [zr 12 0, zi 16] [zr 4 16, zi 16, zr 51 0] (zdo D20_16 (X)) = _
  subst hN
  rfl
theorem H129_91 (M : zM) (hn : znx M = 1) : znx (N129_91 M) = 180 := by
  show znx (zdo D20_16 (N129_90 M)) = _
  rw [zdo_nx, H129_90 M hn]
  rfl
set_option maxRecDepth 100000 in
theorem G129_91_0 (M : zM) : zgR (N129_91 M) 12 0 4 = (50, 0) := by
  show zgR (zdo D20_16 (N129_90 M)) 12 0 4 = _
  rw [zdo_R _ _ (by decide), G129_90_0 M]
set_option maxRecDepth 100000 in
theorem G129_91_1 (M : zM) : zgR (N129_91 M) 12 0 5 = (51, 0) := by
  show zgR (zdo D20_16 (N129_90 M)) 12 0 5 = _
  rw [zdo_R _ _ (by decide), G129_90_1 M]
set_option maxRecDepth 100000 in
theorem G129_91_2 (M : zM) : zgR (N129_91 M) 12 0 7 = (53, 0) := by
  show zgR (zdo D20_16 (N129_90 M)) 12 0 7 = _
  rw [zdo_R _ _ (by decide), G129_90_2 M]
def N129_92 (M : zM) : zM := zdo [(1, 51, 0, 16, (4, 16), 0)] (N129_91 M)
set_option maxRecDepth 100000 in
theorem T129_102 (d : Nat) (M : zM) (hn : znx M = 1) : zgo true (d + 3) 129 184 [zr 12 0, zi 16] [zr 4 16, zi 16, zr 51 0] (N129_91 M) = zgo true (d + 3) 129 163 [zr 12 0, zi 17] [] (N129_92 M) := by
  have hX : znx (N129_91 M) = 180 := H129_91 M hn
  have hf0 : zgR (N129_91 M) 12 0 4 = (50, 0) := G129_91_0 M
  have hf1 : zgR (N129_91 M) 12 0 5 = (51, 0) := G129_91_1 M
  have hf2 : zgR (N129_91 M) 12 0 7 = (53, 0) := G129_91_2 M
  generalize hN : N129_91 M = X at hX hf0 hf1 hf2 ⊢
  refine (B129_184 (d + 3) 16 16 16 X).trans ?_
  show zgo true (d + 3) 129 163 [zr 12 0, zi 17] [] (zsR X 51 0 ((16 : Int32).toNatClampNeg) (4, 16)) = _
  rw [show zsR X 51 0 ((16 : Int32).toNatClampNeg) (4, 16) = zdo [(1, 51, 0, 16, (4, 16), 0)] X from rfl]
  subst hN
  rfl
theorem H129_92 (M : zM) (hn : znx M = 1) : znx (N129_92 M) = 180 := by
  show znx (zdo [(1, 51, 0, 16, (4, 16), 0)] (N129_91 M)) = _
  rw [zdo_nx, H129_91 M hn]
  rfl
set_option maxRecDepth 100000 in
theorem G129_92_0 (M : zM) : zgR (N129_92 M) 12 0 4 = (50, 0) := by
  show zgR (zdo [(1, 51, 0, 16, (4, 16), 0)] (N129_91 M)) 12 0 4 = _
  rw [zdo_R _ _ (by decide), G129_91_0 M]
set_option maxRecDepth 100000 in
theorem G129_92_1 (M : zM) : zgR (N129_92 M) 12 0 5 = (51, 0) := by
  show zgR (zdo [(1, 51, 0, 16, (4, 16), 0)] (N129_91 M)) 12 0 5 = _
  rw [zdo_R _ _ (by decide), G129_91_1 M]
set_option maxRecDepth 100000 in
theorem G129_92_2 (M : zM) : zgR (N129_92 M) 12 0 7 = (53, 0) := by
  show zgR (zdo [(1, 51, 0, 16, (4, 16), 0)] (N129_91 M)) 12 0 7 = _
  rw [zdo_R _ _ (by decide), G129_91_2 M]
def N129_93 (M : zM) : zM := zdo [(0, 4, 17, 0, (0, 0), 0)] (N129_92 M)
set_option maxRecDepth 100000 in
theorem T129_103 (d : Nat) (M : zM) (hn : znx M = 1) : zgo true (d + 3) 129 163 [zr 12 0, zi 17] [] (N129_92 M) = zgo true (d + 3) 129 180 [zr 12 0, zi 17] [zr 4 17, zi 17, zr 51 0] (N129_93 M) := by
  have hX : znx (N129_92 M) = 180 := H129_92 M hn
  have hf0 : zgR (N129_92 M) 12 0 4 = (50, 0) := G129_92_0 M
  have hf1 : zgR (N129_92 M) 12 0 5 = (51, 0) := G129_92_1 M
  have hf2 : zgR (N129_92 M) 12 0 7 = (53, 0) := G129_92_2 M
  generalize hN : N129_92 M = X at hX hf0 hf1 hf2 ⊢
  refine (B129_163 (d + 3) 17 X).trans ?_
  rw [show zgR (X) 12 0 5 = (51, 0) from hf1]
  have hz : znx X = 180 := hX
  rw [hz]
  clear hz
  show zgo true (d + 3) 129 180 [zr 12 0, zi 17] [zr 4 17, zi 17, zr 51 0] (znew X 4 17) = _
  rw [show znew X 4 17 = zdo [(0, 4, 17, 0, (0, 0), 0)] X from rfl]
  subst hN
  rfl
theorem H129_93 (M : zM) (hn : znx M = 1) : znx (N129_93 M) = 181 := by
  show znx (zdo [(0, 4, 17, 0, (0, 0), 0)] (N129_92 M)) = _
  rw [zdo_nx, H129_92 M hn]
  rfl
set_option maxRecDepth 100000 in
theorem G129_93_0 (M : zM) : zgR (N129_93 M) 12 0 4 = (50, 0) := by
  show zgR (zdo [(0, 4, 17, 0, (0, 0), 0)] (N129_92 M)) 12 0 4 = _
  rw [zdo_R _ _ (by decide), G129_92_0 M]
set_option maxRecDepth 100000 in
theorem G129_93_1 (M : zM) : zgR (N129_93 M) 12 0 5 = (51, 0) := by
  show zgR (zdo [(0, 4, 17, 0, (0, 0), 0)] (N129_92 M)) 12 0 5 = _
  rw [zdo_R _ _ (by decide), G129_92_1 M]
set_option maxRecDepth 100000 in
theorem G129_93_2 (M : zM) : zgR (N129_93 M) 12 0 7 = (53, 0) := by
  show zgR (zdo [(0, 4, 17, 0, (0, 0), 0)] (N129_92 M)) 12 0 7 = _
  rw [zdo_R _ _ (by decide), G129_92_2 M]
def D20_17 : List zOp := [(0, 24, 17, 0, (0, 0), 0), (1, 4, 17, 0, (24, 17), 0), (0, 25, 17, 0, (0, 0), 0), (1, 4, 17, 1, (25, 17), 0), (0, 26, 17, 0, (0, 0), 0), (1, 4, 17, 2, (26, 17), 0), (0, 27, 17, 0, (0, 0), 0), (1, 4, 17, 3, (27, 17), 0), (0, 28, 17, 0, (0, 0), 0), (1, 4, 17, 4, (28, 17), 0)]
set_option maxRecDepth 100000 in
set_option maxHeartbeats 4000000 in
theorem C20_17 (d : Nat) (M : zM) (hn : znx M = 181) : zgo true d 20 0 [zr 4 17] [] M = some (none, zdo D20_17 M) := by
  refine (B20_0 d 17 M).trans ?_
  have hz : znx M = 181 := hn
  rw [hz]
  clear hz
  show zgo true d 20 9 [zr 4 17] [zr 24 17, zr 4 17] (znew M 24 17) = _
  generalize hM1 : znew M 24 17 = M1
  have hn1 : znx M1 = 182 := by rw [← hM1]; exact congrArg (· + 1) hn
  refine (B20_9 d 17 17 24 17 M1).trans ?_
  have hz : znx (zsR M1 4 17 0 (24, 17)) = 182 := hn1
  rw [hz]
  clear hz
  show zgo true d 20 17 [zr 4 17] [zr 25 17, zr 4 17] (znew (zsR M1 4 17 0 (24, 17)) 25 17) = _
  generalize hM2 : znew (zsR M1 4 17 0 (24, 17)) 25 17 = M2
  have hn2 : znx M2 = 183 := by rw [← hM2]; exact congrArg (· + 1) hn1
  clear hn1
  refine (B20_17 d 17 17 25 17 M2).trans ?_
  have hz : znx (zsR M2 4 17 1 (25, 17)) = 183 := hn2
  rw [hz]
  clear hz
  show zgo true d 20 25 [zr 4 17] [zr 26 17, zr 4 17] (znew (zsR M2 4 17 1 (25, 17)) 26 17) = _
  generalize hM3 : znew (zsR M2 4 17 1 (25, 17)) 26 17 = M3
  have hn3 : znx M3 = 184 := by rw [← hM3]; exact congrArg (· + 1) hn2
  clear hn2
  refine (B20_25 d 17 17 26 17 M3).trans ?_
  show zgo true d 20 28 [zr 4 17] [] (zsR M3 4 17 2 (26, 17)) = _
  generalize hM4 : zsR M3 4 17 2 (26, 17) = M4
  have hn4 : znx M4 = 184 := by rw [← hM4]; exact hn3
  clear hn3
  refine (B20_28 d 17 M4).trans ?_
  have hz : znx M4 = 184 := hn4
  rw [hz]
  clear hz
  show zgo true d 20 33 [zr 4 17] [zr 27 17, zr 4 17] (znew M4 27 17) = _
  generalize hM5 : znew M4 27 17 = M5
  have hn5 : znx M5 = 185 := by rw [← hM5]; exact congrArg (· + 1) hn4
  clear hn4
  refine (B20_33 d 17 17 27 17 M5).trans ?_
  have hz : znx (zsR M5 4 17 3 (27, 17)) = 185 := hn5
  rw [hz]
  clear hz
  show zgo true d 20 41 [zr 4 17] [zr 28 17, zr 4 17] (znew (zsR M5 4 17 3 (27, 17)) 28 17) = _
  generalize hM6 : znew (zsR M5 4 17 3 (27, 17)) 28 17 = M6
  have hn6 : znx M6 = 186 := by rw [← hM6]; exact congrArg (· + 1) hn5
  clear hn5
  refine (B20_41 d 17 17 28 17 M6).trans ?_
  generalize hM7 : zsR M6 4 17 4 (28, 17) = M7
  have hn7 : znx M7 = 186 := by rw [← hM7]; exact hn6
  clear hn6
  subst hM7 hM6 hM5 hM4 hM3 hM2 hM1
  rfl
def N129_94 (M : zM) : zM := zdo D20_17 (N129_93 M)
set_option maxRecDepth 100000 in
theorem T129_104 (d : Nat) (M : zM) (hn : znx M = 1) : zgo true (d + 3) 129 180 [zr 12 0, zi 17] [zr 4 17, zi 17, zr 51 0] (N129_93 M) = zgo true (d + 3) 129 184 [zr 12 0, zi 17] [zr 4 17, zi 17, zr 51 0] (N129_94 M) := by
  have hX : znx (N129_93 M) = 181 := H129_93 M hn
  have hf0 : zgR (N129_93 M) 12 0 4 = (50, 0) := G129_93_0 M
  have hf1 : zgR (N129_93 M) 12 0 5 = (51, 0) := G129_93_1 M
  have hf2 : zgR (N129_93 M) 12 0 7 = (53, 0) := G129_93_2 M
  generalize hN : N129_93 M = X at hX hf0 hf1 hf2 ⊢
  refine (B129_180 (d + 2) 17 17 17 X).trans ?_
  show Option.bind (zgo true (d + 2) 20 0 [zr 4 17] [] (X)) _ = _
  refine zbind_of (C20_17 (d + 2) _ hX) ?_
  show zgo true (d + 3) 129 184 [zr 12 0, zi 17] [zr 4 17, zi 17, zr 51 0] (zdo D20_17 (X)) = _
  subst hN
  rfl
theorem H129_94 (M : zM) (hn : znx M = 1) : znx (N129_94 M) = 186 := by
  show znx (zdo D20_17 (N129_93 M)) = _
  rw [zdo_nx, H129_93 M hn]
  rfl
set_option maxRecDepth 100000 in
theorem G129_94_0 (M : zM) : zgR (N129_94 M) 12 0 4 = (50, 0) := by
  show zgR (zdo D20_17 (N129_93 M)) 12 0 4 = _
  rw [zdo_R _ _ (by decide), G129_93_0 M]
set_option maxRecDepth 100000 in
theorem G129_94_1 (M : zM) : zgR (N129_94 M) 12 0 5 = (51, 0) := by
  show zgR (zdo D20_17 (N129_93 M)) 12 0 5 = _
  rw [zdo_R _ _ (by decide), G129_93_1 M]
set_option maxRecDepth 100000 in
theorem G129_94_2 (M : zM) : zgR (N129_94 M) 12 0 7 = (53, 0) := by
  show zgR (zdo D20_17 (N129_93 M)) 12 0 7 = _
  rw [zdo_R _ _ (by decide), G129_93_2 M]
def N129_95 (M : zM) : zM := zdo [(1, 51, 0, 17, (4, 17), 0)] (N129_94 M)
set_option maxRecDepth 100000 in
theorem T129_105 (d : Nat) (M : zM) (hn : znx M = 1) : zgo true (d + 3) 129 184 [zr 12 0, zi 17] [zr 4 17, zi 17, zr 51 0] (N129_94 M) = zgo true (d + 3) 129 163 [zr 12 0, zi 18] [] (N129_95 M) := by
  have hX : znx (N129_94 M) = 186 := H129_94 M hn
  have hf0 : zgR (N129_94 M) 12 0 4 = (50, 0) := G129_94_0 M
  have hf1 : zgR (N129_94 M) 12 0 5 = (51, 0) := G129_94_1 M
  have hf2 : zgR (N129_94 M) 12 0 7 = (53, 0) := G129_94_2 M
  generalize hN : N129_94 M = X at hX hf0 hf1 hf2 ⊢
  refine (B129_184 (d + 3) 17 17 17 X).trans ?_
  show zgo true (d + 3) 129 163 [zr 12 0, zi 18] [] (zsR X 51 0 ((17 : Int32).toNatClampNeg) (4, 17)) = _
  rw [show zsR X 51 0 ((17 : Int32).toNatClampNeg) (4, 17) = zdo [(1, 51, 0, 17, (4, 17), 0)] X from rfl]
  subst hN
  rfl
theorem H129_95 (M : zM) (hn : znx M = 1) : znx (N129_95 M) = 186 := by
  show znx (zdo [(1, 51, 0, 17, (4, 17), 0)] (N129_94 M)) = _
  rw [zdo_nx, H129_94 M hn]
  rfl
set_option maxRecDepth 100000 in
theorem G129_95_0 (M : zM) : zgR (N129_95 M) 12 0 4 = (50, 0) := by
  show zgR (zdo [(1, 51, 0, 17, (4, 17), 0)] (N129_94 M)) 12 0 4 = _
  rw [zdo_R _ _ (by decide), G129_94_0 M]
set_option maxRecDepth 100000 in
theorem G129_95_1 (M : zM) : zgR (N129_95 M) 12 0 5 = (51, 0) := by
  show zgR (zdo [(1, 51, 0, 17, (4, 17), 0)] (N129_94 M)) 12 0 5 = _
  rw [zdo_R _ _ (by decide), G129_94_1 M]
set_option maxRecDepth 100000 in
theorem G129_95_2 (M : zM) : zgR (N129_95 M) 12 0 7 = (53, 0) := by
  show zgR (zdo [(1, 51, 0, 17, (4, 17), 0)] (N129_94 M)) 12 0 7 = _
  rw [zdo_R _ _ (by decide), G129_94_2 M]
def N129_96 (M : zM) : zM := zdo [(0, 4, 18, 0, (0, 0), 0)] (N129_95 M)
set_option maxRecDepth 100000 in
theorem T129_106 (d : Nat) (M : zM) (hn : znx M = 1) : zgo true (d + 3) 129 163 [zr 12 0, zi 18] [] (N129_95 M) = zgo true (d + 3) 129 180 [zr 12 0, zi 18] [zr 4 18, zi 18, zr 51 0] (N129_96 M) := by
  have hX : znx (N129_95 M) = 186 := H129_95 M hn
  have hf0 : zgR (N129_95 M) 12 0 4 = (50, 0) := G129_95_0 M
  have hf1 : zgR (N129_95 M) 12 0 5 = (51, 0) := G129_95_1 M
  have hf2 : zgR (N129_95 M) 12 0 7 = (53, 0) := G129_95_2 M
  generalize hN : N129_95 M = X at hX hf0 hf1 hf2 ⊢
  refine (B129_163 (d + 3) 18 X).trans ?_
  rw [show zgR (X) 12 0 5 = (51, 0) from hf1]
  have hz : znx X = 186 := hX
  rw [hz]
  clear hz
  show zgo true (d + 3) 129 180 [zr 12 0, zi 18] [zr 4 18, zi 18, zr 51 0] (znew X 4 18) = _
  rw [show znew X 4 18 = zdo [(0, 4, 18, 0, (0, 0), 0)] X from rfl]
  subst hN
  rfl
theorem H129_96 (M : zM) (hn : znx M = 1) : znx (N129_96 M) = 187 := by
  show znx (zdo [(0, 4, 18, 0, (0, 0), 0)] (N129_95 M)) = _
  rw [zdo_nx, H129_95 M hn]
  rfl
set_option maxRecDepth 100000 in
theorem G129_96_0 (M : zM) : zgR (N129_96 M) 12 0 4 = (50, 0) := by
  show zgR (zdo [(0, 4, 18, 0, (0, 0), 0)] (N129_95 M)) 12 0 4 = _
  rw [zdo_R _ _ (by decide), G129_95_0 M]
set_option maxRecDepth 100000 in
theorem G129_96_1 (M : zM) : zgR (N129_96 M) 12 0 5 = (51, 0) := by
  show zgR (zdo [(0, 4, 18, 0, (0, 0), 0)] (N129_95 M)) 12 0 5 = _
  rw [zdo_R _ _ (by decide), G129_95_1 M]
set_option maxRecDepth 100000 in
theorem G129_96_2 (M : zM) : zgR (N129_96 M) 12 0 7 = (53, 0) := by
  show zgR (zdo [(0, 4, 18, 0, (0, 0), 0)] (N129_95 M)) 12 0 7 = _
  rw [zdo_R _ _ (by decide), G129_95_2 M]
def D20_18 : List zOp := [(0, 24, 18, 0, (0, 0), 0), (1, 4, 18, 0, (24, 18), 0), (0, 25, 18, 0, (0, 0), 0), (1, 4, 18, 1, (25, 18), 0), (0, 26, 18, 0, (0, 0), 0), (1, 4, 18, 2, (26, 18), 0), (0, 27, 18, 0, (0, 0), 0), (1, 4, 18, 3, (27, 18), 0), (0, 28, 18, 0, (0, 0), 0), (1, 4, 18, 4, (28, 18), 0)]
set_option maxRecDepth 100000 in
set_option maxHeartbeats 4000000 in
theorem C20_18 (d : Nat) (M : zM) (hn : znx M = 187) : zgo true d 20 0 [zr 4 18] [] M = some (none, zdo D20_18 M) := by
  refine (B20_0 d 18 M).trans ?_
  have hz : znx M = 187 := hn
  rw [hz]
  clear hz
  show zgo true d 20 9 [zr 4 18] [zr 24 18, zr 4 18] (znew M 24 18) = _
  generalize hM1 : znew M 24 18 = M1
  have hn1 : znx M1 = 188 := by rw [← hM1]; exact congrArg (· + 1) hn
  refine (B20_9 d 18 18 24 18 M1).trans ?_
  have hz : znx (zsR M1 4 18 0 (24, 18)) = 188 := hn1
  rw [hz]
  clear hz
  show zgo true d 20 17 [zr 4 18] [zr 25 18, zr 4 18] (znew (zsR M1 4 18 0 (24, 18)) 25 18) = _
  generalize hM2 : znew (zsR M1 4 18 0 (24, 18)) 25 18 = M2
  have hn2 : znx M2 = 189 := by rw [← hM2]; exact congrArg (· + 1) hn1
  clear hn1
  refine (B20_17 d 18 18 25 18 M2).trans ?_
  have hz : znx (zsR M2 4 18 1 (25, 18)) = 189 := hn2
  rw [hz]
  clear hz
  show zgo true d 20 25 [zr 4 18] [zr 26 18, zr 4 18] (znew (zsR M2 4 18 1 (25, 18)) 26 18) = _
  generalize hM3 : znew (zsR M2 4 18 1 (25, 18)) 26 18 = M3
  have hn3 : znx M3 = 190 := by rw [← hM3]; exact congrArg (· + 1) hn2
  clear hn2
  refine (B20_25 d 18 18 26 18 M3).trans ?_
  show zgo true d 20 28 [zr 4 18] [] (zsR M3 4 18 2 (26, 18)) = _
  generalize hM4 : zsR M3 4 18 2 (26, 18) = M4
  have hn4 : znx M4 = 190 := by rw [← hM4]; exact hn3
  clear hn3
  refine (B20_28 d 18 M4).trans ?_
  have hz : znx M4 = 190 := hn4
  rw [hz]
  clear hz
  show zgo true d 20 33 [zr 4 18] [zr 27 18, zr 4 18] (znew M4 27 18) = _
  generalize hM5 : znew M4 27 18 = M5
  have hn5 : znx M5 = 191 := by rw [← hM5]; exact congrArg (· + 1) hn4
  clear hn4
  refine (B20_33 d 18 18 27 18 M5).trans ?_
  have hz : znx (zsR M5 4 18 3 (27, 18)) = 191 := hn5
  rw [hz]
  clear hz
  show zgo true d 20 41 [zr 4 18] [zr 28 18, zr 4 18] (znew (zsR M5 4 18 3 (27, 18)) 28 18) = _
  generalize hM6 : znew (zsR M5 4 18 3 (27, 18)) 28 18 = M6
  have hn6 : znx M6 = 192 := by rw [← hM6]; exact congrArg (· + 1) hn5
  clear hn5
  refine (B20_41 d 18 18 28 18 M6).trans ?_
  generalize hM7 : zsR M6 4 18 4 (28, 18) = M7
  have hn7 : znx M7 = 192 := by rw [← hM7]; exact hn6
  clear hn6
  subst hM7 hM6 hM5 hM4 hM3 hM2 hM1
  rfl
def N129_97 (M : zM) : zM := zdo D20_18 (N129_96 M)
set_option maxRecDepth 100000 in
theorem T129_107 (d : Nat) (M : zM) (hn : znx M = 1) : zgo true (d + 3) 129 180 [zr 12 0, zi 18] [zr 4 18, zi 18, zr 51 0] (N129_96 M) = zgo true (d + 3) 129 184 [zr 12 0, zi 18] [zr 4 18, zi 18, zr 51 0] (N129_97 M) := by
  have hX : znx (N129_96 M) = 187 := H129_96 M hn
  have hf0 : zgR (N129_96 M) 12 0 4 = (50, 0) := G129_96_0 M
  have hf1 : zgR (N129_96 M) 12 0 5 = (51, 0) := G129_96_1 M
  have hf2 : zgR (N129_96 M) 12 0 7 = (53, 0) := G129_96_2 M
  generalize hN : N129_96 M = X at hX hf0 hf1 hf2 ⊢
  refine (B129_180 (d + 2) 18 18 18 X).trans ?_
  show Option.bind (zgo true (d + 2) 20 0 [zr 4 18] [] (X)) _ = _
  refine zbind_of (C20_18 (d + 2) _ hX) ?_
  show zgo true (d + 3) 129 184 [zr 12 0, zi 18] [zr 4 18, zi 18, zr 51 0] (zdo D20_18 (X)) = _
  subst hN
  rfl
theorem H129_97 (M : zM) (hn : znx M = 1) : znx (N129_97 M) = 192 := by
  show znx (zdo D20_18 (N129_96 M)) = _
  rw [zdo_nx, H129_96 M hn]
  rfl
set_option maxRecDepth 100000 in
theorem G129_97_0 (M : zM) : zgR (N129_97 M) 12 0 4 = (50, 0) := by
  show zgR (zdo D20_18 (N129_96 M)) 12 0 4 = _
  rw [zdo_R _ _ (by decide), G129_96_0 M]
set_option maxRecDepth 100000 in
theorem G129_97_1 (M : zM) : zgR (N129_97 M) 12 0 5 = (51, 0) := by
  show zgR (zdo D20_18 (N129_96 M)) 12 0 5 = _
  rw [zdo_R _ _ (by decide), G129_96_1 M]
set_option maxRecDepth 100000 in
theorem G129_97_2 (M : zM) : zgR (N129_97 M) 12 0 7 = (53, 0) := by
  show zgR (zdo D20_18 (N129_96 M)) 12 0 7 = _
  rw [zdo_R _ _ (by decide), G129_96_2 M]
def N129_98 (M : zM) : zM := zdo [(1, 51, 0, 18, (4, 18), 0)] (N129_97 M)
set_option maxRecDepth 100000 in
theorem T129_108 (d : Nat) (M : zM) (hn : znx M = 1) : zgo true (d + 3) 129 184 [zr 12 0, zi 18] [zr 4 18, zi 18, zr 51 0] (N129_97 M) = zgo true (d + 3) 129 163 [zr 12 0, zi 19] [] (N129_98 M) := by
  have hX : znx (N129_97 M) = 192 := H129_97 M hn
  have hf0 : zgR (N129_97 M) 12 0 4 = (50, 0) := G129_97_0 M
  have hf1 : zgR (N129_97 M) 12 0 5 = (51, 0) := G129_97_1 M
  have hf2 : zgR (N129_97 M) 12 0 7 = (53, 0) := G129_97_2 M
  generalize hN : N129_97 M = X at hX hf0 hf1 hf2 ⊢
  refine (B129_184 (d + 3) 18 18 18 X).trans ?_
  show zgo true (d + 3) 129 163 [zr 12 0, zi 19] [] (zsR X 51 0 ((18 : Int32).toNatClampNeg) (4, 18)) = _
  rw [show zsR X 51 0 ((18 : Int32).toNatClampNeg) (4, 18) = zdo [(1, 51, 0, 18, (4, 18), 0)] X from rfl]
  subst hN
  rfl
theorem H129_98 (M : zM) (hn : znx M = 1) : znx (N129_98 M) = 192 := by
  show znx (zdo [(1, 51, 0, 18, (4, 18), 0)] (N129_97 M)) = _
  rw [zdo_nx, H129_97 M hn]
  rfl
set_option maxRecDepth 100000 in
theorem G129_98_0 (M : zM) : zgR (N129_98 M) 12 0 4 = (50, 0) := by
  show zgR (zdo [(1, 51, 0, 18, (4, 18), 0)] (N129_97 M)) 12 0 4 = _
  rw [zdo_R _ _ (by decide), G129_97_0 M]
set_option maxRecDepth 100000 in
theorem G129_98_1 (M : zM) : zgR (N129_98 M) 12 0 5 = (51, 0) := by
  show zgR (zdo [(1, 51, 0, 18, (4, 18), 0)] (N129_97 M)) 12 0 5 = _
  rw [zdo_R _ _ (by decide), G129_97_1 M]
set_option maxRecDepth 100000 in
theorem G129_98_2 (M : zM) : zgR (N129_98 M) 12 0 7 = (53, 0) := by
  show zgR (zdo [(1, 51, 0, 18, (4, 18), 0)] (N129_97 M)) 12 0 7 = _
  rw [zdo_R _ _ (by decide), G129_97_2 M]
def N129_99 (M : zM) : zM := zdo [(0, 4, 19, 0, (0, 0), 0)] (N129_98 M)
set_option maxRecDepth 100000 in
theorem T129_109 (d : Nat) (M : zM) (hn : znx M = 1) : zgo true (d + 3) 129 163 [zr 12 0, zi 19] [] (N129_98 M) = zgo true (d + 3) 129 180 [zr 12 0, zi 19] [zr 4 19, zi 19, zr 51 0] (N129_99 M) := by
  have hX : znx (N129_98 M) = 192 := H129_98 M hn
  have hf0 : zgR (N129_98 M) 12 0 4 = (50, 0) := G129_98_0 M
  have hf1 : zgR (N129_98 M) 12 0 5 = (51, 0) := G129_98_1 M
  have hf2 : zgR (N129_98 M) 12 0 7 = (53, 0) := G129_98_2 M
  generalize hN : N129_98 M = X at hX hf0 hf1 hf2 ⊢
  refine (B129_163 (d + 3) 19 X).trans ?_
  rw [show zgR (X) 12 0 5 = (51, 0) from hf1]
  have hz : znx X = 192 := hX
  rw [hz]
  clear hz
  show zgo true (d + 3) 129 180 [zr 12 0, zi 19] [zr 4 19, zi 19, zr 51 0] (znew X 4 19) = _
  rw [show znew X 4 19 = zdo [(0, 4, 19, 0, (0, 0), 0)] X from rfl]
  subst hN
  rfl
theorem H129_99 (M : zM) (hn : znx M = 1) : znx (N129_99 M) = 193 := by
  show znx (zdo [(0, 4, 19, 0, (0, 0), 0)] (N129_98 M)) = _
  rw [zdo_nx, H129_98 M hn]
  rfl
set_option maxRecDepth 100000 in
theorem G129_99_0 (M : zM) : zgR (N129_99 M) 12 0 4 = (50, 0) := by
  show zgR (zdo [(0, 4, 19, 0, (0, 0), 0)] (N129_98 M)) 12 0 4 = _
  rw [zdo_R _ _ (by decide), G129_98_0 M]
set_option maxRecDepth 100000 in
theorem G129_99_1 (M : zM) : zgR (N129_99 M) 12 0 5 = (51, 0) := by
  show zgR (zdo [(0, 4, 19, 0, (0, 0), 0)] (N129_98 M)) 12 0 5 = _
  rw [zdo_R _ _ (by decide), G129_98_1 M]
set_option maxRecDepth 100000 in
theorem G129_99_2 (M : zM) : zgR (N129_99 M) 12 0 7 = (53, 0) := by
  show zgR (zdo [(0, 4, 19, 0, (0, 0), 0)] (N129_98 M)) 12 0 7 = _
  rw [zdo_R _ _ (by decide), G129_98_2 M]
def D20_19 : List zOp := [(0, 24, 19, 0, (0, 0), 0), (1, 4, 19, 0, (24, 19), 0), (0, 25, 19, 0, (0, 0), 0), (1, 4, 19, 1, (25, 19), 0), (0, 26, 19, 0, (0, 0), 0), (1, 4, 19, 2, (26, 19), 0), (0, 27, 19, 0, (0, 0), 0), (1, 4, 19, 3, (27, 19), 0), (0, 28, 19, 0, (0, 0), 0), (1, 4, 19, 4, (28, 19), 0)]
set_option maxRecDepth 100000 in
set_option maxHeartbeats 4000000 in
theorem C20_19 (d : Nat) (M : zM) (hn : znx M = 193) : zgo true d 20 0 [zr 4 19] [] M = some (none, zdo D20_19 M) := by
  refine (B20_0 d 19 M).trans ?_
  have hz : znx M = 193 := hn
  rw [hz]
  clear hz
  show zgo true d 20 9 [zr 4 19] [zr 24 19, zr 4 19] (znew M 24 19) = _
  generalize hM1 : znew M 24 19 = M1
  have hn1 : znx M1 = 194 := by rw [← hM1]; exact congrArg (· + 1) hn
  refine (B20_9 d 19 19 24 19 M1).trans ?_
  have hz : znx (zsR M1 4 19 0 (24, 19)) = 194 := hn1
  rw [hz]
  clear hz
  show zgo true d 20 17 [zr 4 19] [zr 25 19, zr 4 19] (znew (zsR M1 4 19 0 (24, 19)) 25 19) = _
  generalize hM2 : znew (zsR M1 4 19 0 (24, 19)) 25 19 = M2
  have hn2 : znx M2 = 195 := by rw [← hM2]; exact congrArg (· + 1) hn1
  clear hn1
  refine (B20_17 d 19 19 25 19 M2).trans ?_
  have hz : znx (zsR M2 4 19 1 (25, 19)) = 195 := hn2
  rw [hz]
  clear hz
  show zgo true d 20 25 [zr 4 19] [zr 26 19, zr 4 19] (znew (zsR M2 4 19 1 (25, 19)) 26 19) = _
  generalize hM3 : znew (zsR M2 4 19 1 (25, 19)) 26 19 = M3
  have hn3 : znx M3 = 196 := by rw [← hM3]; exact congrArg (· + 1) hn2
  clear hn2
  refine (B20_25 d 19 19 26 19 M3).trans ?_
  show zgo true d 20 28 [zr 4 19] [] (zsR M3 4 19 2 (26, 19)) = _
  generalize hM4 : zsR M3 4 19 2 (26, 19) = M4
  have hn4 : znx M4 = 196 := by rw [← hM4]; exact hn3
  clear hn3
  refine (B20_28 d 19 M4).trans ?_
  have hz : znx M4 = 196 := hn4
  rw [hz]
  clear hz
  show zgo true d 20 33 [zr 4 19] [zr 27 19, zr 4 19] (znew M4 27 19) = _
  generalize hM5 : znew M4 27 19 = M5
  have hn5 : znx M5 = 197 := by rw [← hM5]; exact congrArg (· + 1) hn4
  clear hn4
  refine (B20_33 d 19 19 27 19 M5).trans ?_
  have hz : znx (zsR M5 4 19 3 (27, 19)) = 197 := hn5
  rw [hz]
  clear hz
  show zgo true d 20 41 [zr 4 19] [zr 28 19, zr 4 19] (znew (zsR M5 4 19 3 (27, 19)) 28 19) = _
  generalize hM6 : znew (zsR M5 4 19 3 (27, 19)) 28 19 = M6
  have hn6 : znx M6 = 198 := by rw [← hM6]; exact congrArg (· + 1) hn5
  clear hn5
  refine (B20_41 d 19 19 28 19 M6).trans ?_
  generalize hM7 : zsR M6 4 19 4 (28, 19) = M7
  have hn7 : znx M7 = 198 := by rw [← hM7]; exact hn6
  clear hn6
  subst hM7 hM6 hM5 hM4 hM3 hM2 hM1
  rfl
def N129_100 (M : zM) : zM := zdo D20_19 (N129_99 M)
set_option maxRecDepth 100000 in
theorem T129_110 (d : Nat) (M : zM) (hn : znx M = 1) : zgo true (d + 3) 129 180 [zr 12 0, zi 19] [zr 4 19, zi 19, zr 51 0] (N129_99 M) = zgo true (d + 3) 129 184 [zr 12 0, zi 19] [zr 4 19, zi 19, zr 51 0] (N129_100 M) := by
  have hX : znx (N129_99 M) = 193 := H129_99 M hn
  have hf0 : zgR (N129_99 M) 12 0 4 = (50, 0) := G129_99_0 M
  have hf1 : zgR (N129_99 M) 12 0 5 = (51, 0) := G129_99_1 M
  have hf2 : zgR (N129_99 M) 12 0 7 = (53, 0) := G129_99_2 M
  generalize hN : N129_99 M = X at hX hf0 hf1 hf2 ⊢
  refine (B129_180 (d + 2) 19 19 19 X).trans ?_
  show Option.bind (zgo true (d + 2) 20 0 [zr 4 19] [] (X)) _ = _
  refine zbind_of (C20_19 (d + 2) _ hX) ?_
  show zgo true (d + 3) 129 184 [zr 12 0, zi 19] [zr 4 19, zi 19, zr 51 0] (zdo D20_19 (X)) = _
  subst hN
  rfl
theorem H129_100 (M : zM) (hn : znx M = 1) : znx (N129_100 M) = 198 := by
  show znx (zdo D20_19 (N129_99 M)) = _
  rw [zdo_nx, H129_99 M hn]
  rfl
set_option maxRecDepth 100000 in
theorem G129_100_0 (M : zM) : zgR (N129_100 M) 12 0 4 = (50, 0) := by
  show zgR (zdo D20_19 (N129_99 M)) 12 0 4 = _
  rw [zdo_R _ _ (by decide), G129_99_0 M]
set_option maxRecDepth 100000 in
theorem G129_100_1 (M : zM) : zgR (N129_100 M) 12 0 5 = (51, 0) := by
  show zgR (zdo D20_19 (N129_99 M)) 12 0 5 = _
  rw [zdo_R _ _ (by decide), G129_99_1 M]
set_option maxRecDepth 100000 in
theorem G129_100_2 (M : zM) : zgR (N129_100 M) 12 0 7 = (53, 0) := by
  show zgR (zdo D20_19 (N129_99 M)) 12 0 7 = _
  rw [zdo_R _ _ (by decide), G129_99_2 M]
def N129_101 (M : zM) : zM := zdo [(1, 51, 0, 19, (4, 19), 0)] (N129_100 M)
set_option maxRecDepth 100000 in
theorem T129_111 (d : Nat) (M : zM) (hn : znx M = 1) : zgo true (d + 3) 129 184 [zr 12 0, zi 19] [zr 4 19, zi 19, zr 51 0] (N129_100 M) = zgo true (d + 3) 129 163 [zr 12 0, zi 20] [] (N129_101 M) := by
  have hX : znx (N129_100 M) = 198 := H129_100 M hn
  have hf0 : zgR (N129_100 M) 12 0 4 = (50, 0) := G129_100_0 M
  have hf1 : zgR (N129_100 M) 12 0 5 = (51, 0) := G129_100_1 M
  have hf2 : zgR (N129_100 M) 12 0 7 = (53, 0) := G129_100_2 M
  generalize hN : N129_100 M = X at hX hf0 hf1 hf2 ⊢
  refine (B129_184 (d + 3) 19 19 19 X).trans ?_
  show zgo true (d + 3) 129 163 [zr 12 0, zi 20] [] (zsR X 51 0 ((19 : Int32).toNatClampNeg) (4, 19)) = _
  rw [show zsR X 51 0 ((19 : Int32).toNatClampNeg) (4, 19) = zdo [(1, 51, 0, 19, (4, 19), 0)] X from rfl]
  subst hN
  rfl
theorem H129_101 (M : zM) (hn : znx M = 1) : znx (N129_101 M) = 198 := by
  show znx (zdo [(1, 51, 0, 19, (4, 19), 0)] (N129_100 M)) = _
  rw [zdo_nx, H129_100 M hn]
  rfl
set_option maxRecDepth 100000 in
theorem G129_101_0 (M : zM) : zgR (N129_101 M) 12 0 4 = (50, 0) := by
  show zgR (zdo [(1, 51, 0, 19, (4, 19), 0)] (N129_100 M)) 12 0 4 = _
  rw [zdo_R _ _ (by decide), G129_100_0 M]
set_option maxRecDepth 100000 in
theorem G129_101_1 (M : zM) : zgR (N129_101 M) 12 0 5 = (51, 0) := by
  show zgR (zdo [(1, 51, 0, 19, (4, 19), 0)] (N129_100 M)) 12 0 5 = _
  rw [zdo_R _ _ (by decide), G129_100_1 M]
set_option maxRecDepth 100000 in
theorem G129_101_2 (M : zM) : zgR (N129_101 M) 12 0 7 = (53, 0) := by
  show zgR (zdo [(1, 51, 0, 19, (4, 19), 0)] (N129_100 M)) 12 0 7 = _
  rw [zdo_R _ _ (by decide), G129_100_2 M]
def N129_102 (M : zM) : zM := zdo [(0, 4, 20, 0, (0, 0), 0)] (N129_101 M)
set_option maxRecDepth 100000 in
theorem T129_112 (d : Nat) (M : zM) (hn : znx M = 1) : zgo true (d + 3) 129 163 [zr 12 0, zi 20] [] (N129_101 M) = zgo true (d + 3) 129 180 [zr 12 0, zi 20] [zr 4 20, zi 20, zr 51 0] (N129_102 M) := by
  have hX : znx (N129_101 M) = 198 := H129_101 M hn
  have hf0 : zgR (N129_101 M) 12 0 4 = (50, 0) := G129_101_0 M
  have hf1 : zgR (N129_101 M) 12 0 5 = (51, 0) := G129_101_1 M
  have hf2 : zgR (N129_101 M) 12 0 7 = (53, 0) := G129_101_2 M
  generalize hN : N129_101 M = X at hX hf0 hf1 hf2 ⊢
  refine (B129_163 (d + 3) 20 X).trans ?_
  rw [show zgR (X) 12 0 5 = (51, 0) from hf1]
  have hz : znx X = 198 := hX
  rw [hz]
  clear hz
  show zgo true (d + 3) 129 180 [zr 12 0, zi 20] [zr 4 20, zi 20, zr 51 0] (znew X 4 20) = _
  rw [show znew X 4 20 = zdo [(0, 4, 20, 0, (0, 0), 0)] X from rfl]
  subst hN
  rfl
theorem H129_102 (M : zM) (hn : znx M = 1) : znx (N129_102 M) = 199 := by
  show znx (zdo [(0, 4, 20, 0, (0, 0), 0)] (N129_101 M)) = _
  rw [zdo_nx, H129_101 M hn]
  rfl
set_option maxRecDepth 100000 in
theorem G129_102_0 (M : zM) : zgR (N129_102 M) 12 0 4 = (50, 0) := by
  show zgR (zdo [(0, 4, 20, 0, (0, 0), 0)] (N129_101 M)) 12 0 4 = _
  rw [zdo_R _ _ (by decide), G129_101_0 M]
set_option maxRecDepth 100000 in
theorem G129_102_1 (M : zM) : zgR (N129_102 M) 12 0 5 = (51, 0) := by
  show zgR (zdo [(0, 4, 20, 0, (0, 0), 0)] (N129_101 M)) 12 0 5 = _
  rw [zdo_R _ _ (by decide), G129_101_1 M]
set_option maxRecDepth 100000 in
theorem G129_102_2 (M : zM) : zgR (N129_102 M) 12 0 7 = (53, 0) := by
  show zgR (zdo [(0, 4, 20, 0, (0, 0), 0)] (N129_101 M)) 12 0 7 = _
  rw [zdo_R _ _ (by decide), G129_101_2 M]
def D20_20 : List zOp := [(0, 24, 20, 0, (0, 0), 0), (1, 4, 20, 0, (24, 20), 0), (0, 25, 20, 0, (0, 0), 0), (1, 4, 20, 1, (25, 20), 0), (0, 26, 20, 0, (0, 0), 0), (1, 4, 20, 2, (26, 20), 0), (0, 27, 20, 0, (0, 0), 0), (1, 4, 20, 3, (27, 20), 0), (0, 28, 20, 0, (0, 0), 0), (1, 4, 20, 4, (28, 20), 0)]
set_option maxRecDepth 100000 in
set_option maxHeartbeats 4000000 in
theorem C20_20 (d : Nat) (M : zM) (hn : znx M = 199) : zgo true d 20 0 [zr 4 20] [] M = some (none, zdo D20_20 M) := by
  refine (B20_0 d 20 M).trans ?_
  have hz : znx M = 199 := hn
  rw [hz]
  clear hz
  show zgo true d 20 9 [zr 4 20] [zr 24 20, zr 4 20] (znew M 24 20) = _
  generalize hM1 : znew M 24 20 = M1
  have hn1 : znx M1 = 200 := by rw [← hM1]; exact congrArg (· + 1) hn
  refine (B20_9 d 20 20 24 20 M1).trans ?_
  have hz : znx (zsR M1 4 20 0 (24, 20)) = 200 := hn1
  rw [hz]
  clear hz
  show zgo true d 20 17 [zr 4 20] [zr 25 20, zr 4 20] (znew (zsR M1 4 20 0 (24, 20)) 25 20) = _
  generalize hM2 : znew (zsR M1 4 20 0 (24, 20)) 25 20 = M2
  have hn2 : znx M2 = 201 := by rw [← hM2]; exact congrArg (· + 1) hn1
  clear hn1
  refine (B20_17 d 20 20 25 20 M2).trans ?_
  have hz : znx (zsR M2 4 20 1 (25, 20)) = 201 := hn2
  rw [hz]
  clear hz
  show zgo true d 20 25 [zr 4 20] [zr 26 20, zr 4 20] (znew (zsR M2 4 20 1 (25, 20)) 26 20) = _
  generalize hM3 : znew (zsR M2 4 20 1 (25, 20)) 26 20 = M3
  have hn3 : znx M3 = 202 := by rw [← hM3]; exact congrArg (· + 1) hn2
  clear hn2
  refine (B20_25 d 20 20 26 20 M3).trans ?_
  show zgo true d 20 28 [zr 4 20] [] (zsR M3 4 20 2 (26, 20)) = _
  generalize hM4 : zsR M3 4 20 2 (26, 20) = M4
  have hn4 : znx M4 = 202 := by rw [← hM4]; exact hn3
  clear hn3
  refine (B20_28 d 20 M4).trans ?_
  have hz : znx M4 = 202 := hn4
  rw [hz]
  clear hz
  show zgo true d 20 33 [zr 4 20] [zr 27 20, zr 4 20] (znew M4 27 20) = _
  generalize hM5 : znew M4 27 20 = M5
  have hn5 : znx M5 = 203 := by rw [← hM5]; exact congrArg (· + 1) hn4
  clear hn4
  refine (B20_33 d 20 20 27 20 M5).trans ?_
  have hz : znx (zsR M5 4 20 3 (27, 20)) = 203 := hn5
  rw [hz]
  clear hz
  show zgo true d 20 41 [zr 4 20] [zr 28 20, zr 4 20] (znew (zsR M5 4 20 3 (27, 20)) 28 20) = _
  generalize hM6 : znew (zsR M5 4 20 3 (27, 20)) 28 20 = M6
  have hn6 : znx M6 = 204 := by rw [← hM6]; exact congrArg (· + 1) hn5
  clear hn5
  refine (B20_41 d 20 20 28 20 M6).trans ?_
  generalize hM7 : zsR M6 4 20 4 (28, 20) = M7
  have hn7 : znx M7 = 204 := by rw [← hM7]; exact hn6
  clear hn6
  subst hM7 hM6 hM5 hM4 hM3 hM2 hM1
  rfl
def N129_103 (M : zM) : zM := zdo D20_20 (N129_102 M)
set_option maxRecDepth 100000 in
theorem T129_113 (d : Nat) (M : zM) (hn : znx M = 1) : zgo true (d + 3) 129 180 [zr 12 0, zi 20] [zr 4 20, zi 20, zr 51 0] (N129_102 M) = zgo true (d + 3) 129 184 [zr 12 0, zi 20] [zr 4 20, zi 20, zr 51 0] (N129_103 M) := by
  have hX : znx (N129_102 M) = 199 := H129_102 M hn
  have hf0 : zgR (N129_102 M) 12 0 4 = (50, 0) := G129_102_0 M
  have hf1 : zgR (N129_102 M) 12 0 5 = (51, 0) := G129_102_1 M
  have hf2 : zgR (N129_102 M) 12 0 7 = (53, 0) := G129_102_2 M
  generalize hN : N129_102 M = X at hX hf0 hf1 hf2 ⊢
  refine (B129_180 (d + 2) 20 20 20 X).trans ?_
  show Option.bind (zgo true (d + 2) 20 0 [zr 4 20] [] (X)) _ = _
  refine zbind_of (C20_20 (d + 2) _ hX) ?_
  show zgo true (d + 3) 129 184 [zr 12 0, zi 20] [zr 4 20, zi 20, zr 51 0] (zdo D20_20 (X)) = _
  subst hN
  rfl
theorem H129_103 (M : zM) (hn : znx M = 1) : znx (N129_103 M) = 204 := by
  show znx (zdo D20_20 (N129_102 M)) = _
  rw [zdo_nx, H129_102 M hn]
  rfl
set_option maxRecDepth 100000 in
theorem G129_103_0 (M : zM) : zgR (N129_103 M) 12 0 4 = (50, 0) := by
  show zgR (zdo D20_20 (N129_102 M)) 12 0 4 = _
  rw [zdo_R _ _ (by decide), G129_102_0 M]
set_option maxRecDepth 100000 in
theorem G129_103_1 (M : zM) : zgR (N129_103 M) 12 0 5 = (51, 0) := by
  show zgR (zdo D20_20 (N129_102 M)) 12 0 5 = _
  rw [zdo_R _ _ (by decide), G129_102_1 M]
set_option maxRecDepth 100000 in
theorem G129_103_2 (M : zM) : zgR (N129_103 M) 12 0 7 = (53, 0) := by
  show zgR (zdo D20_20 (N129_102 M)) 12 0 7 = _
  rw [zdo_R _ _ (by decide), G129_102_2 M]
def N129_104 (M : zM) : zM := zdo [(1, 51, 0, 20, (4, 20), 0)] (N129_103 M)
set_option maxRecDepth 100000 in
theorem T129_114 (d : Nat) (M : zM) (hn : znx M = 1) : zgo true (d + 3) 129 184 [zr 12 0, zi 20] [zr 4 20, zi 20, zr 51 0] (N129_103 M) = zgo true (d + 3) 129 163 [zr 12 0, zi 21] [] (N129_104 M) := by
  have hX : znx (N129_103 M) = 204 := H129_103 M hn
  have hf0 : zgR (N129_103 M) 12 0 4 = (50, 0) := G129_103_0 M
  have hf1 : zgR (N129_103 M) 12 0 5 = (51, 0) := G129_103_1 M
  have hf2 : zgR (N129_103 M) 12 0 7 = (53, 0) := G129_103_2 M
  generalize hN : N129_103 M = X at hX hf0 hf1 hf2 ⊢
  refine (B129_184 (d + 3) 20 20 20 X).trans ?_
  show zgo true (d + 3) 129 163 [zr 12 0, zi 21] [] (zsR X 51 0 ((20 : Int32).toNatClampNeg) (4, 20)) = _
  rw [show zsR X 51 0 ((20 : Int32).toNatClampNeg) (4, 20) = zdo [(1, 51, 0, 20, (4, 20), 0)] X from rfl]
  subst hN
  rfl
theorem H129_104 (M : zM) (hn : znx M = 1) : znx (N129_104 M) = 204 := by
  show znx (zdo [(1, 51, 0, 20, (4, 20), 0)] (N129_103 M)) = _
  rw [zdo_nx, H129_103 M hn]
  rfl
set_option maxRecDepth 100000 in
theorem G129_104_0 (M : zM) : zgR (N129_104 M) 12 0 4 = (50, 0) := by
  show zgR (zdo [(1, 51, 0, 20, (4, 20), 0)] (N129_103 M)) 12 0 4 = _
  rw [zdo_R _ _ (by decide), G129_103_0 M]
set_option maxRecDepth 100000 in
theorem G129_104_1 (M : zM) : zgR (N129_104 M) 12 0 5 = (51, 0) := by
  show zgR (zdo [(1, 51, 0, 20, (4, 20), 0)] (N129_103 M)) 12 0 5 = _
  rw [zdo_R _ _ (by decide), G129_103_1 M]
set_option maxRecDepth 100000 in
theorem G129_104_2 (M : zM) : zgR (N129_104 M) 12 0 7 = (53, 0) := by
  show zgR (zdo [(1, 51, 0, 20, (4, 20), 0)] (N129_103 M)) 12 0 7 = _
  rw [zdo_R _ _ (by decide), G129_103_2 M]
def N129_105 (M : zM) : zM := zdo [(0, 4, 21, 0, (0, 0), 0)] (N129_104 M)
set_option maxRecDepth 100000 in
theorem T129_115 (d : Nat) (M : zM) (hn : znx M = 1) : zgo true (d + 3) 129 163 [zr 12 0, zi 21] [] (N129_104 M) = zgo true (d + 3) 129 180 [zr 12 0, zi 21] [zr 4 21, zi 21, zr 51 0] (N129_105 M) := by
  have hX : znx (N129_104 M) = 204 := H129_104 M hn
  have hf0 : zgR (N129_104 M) 12 0 4 = (50, 0) := G129_104_0 M
  have hf1 : zgR (N129_104 M) 12 0 5 = (51, 0) := G129_104_1 M
  have hf2 : zgR (N129_104 M) 12 0 7 = (53, 0) := G129_104_2 M
  generalize hN : N129_104 M = X at hX hf0 hf1 hf2 ⊢
  refine (B129_163 (d + 3) 21 X).trans ?_
  rw [show zgR (X) 12 0 5 = (51, 0) from hf1]
  have hz : znx X = 204 := hX
  rw [hz]
  clear hz
  show zgo true (d + 3) 129 180 [zr 12 0, zi 21] [zr 4 21, zi 21, zr 51 0] (znew X 4 21) = _
  rw [show znew X 4 21 = zdo [(0, 4, 21, 0, (0, 0), 0)] X from rfl]
  subst hN
  rfl
theorem H129_105 (M : zM) (hn : znx M = 1) : znx (N129_105 M) = 205 := by
  show znx (zdo [(0, 4, 21, 0, (0, 0), 0)] (N129_104 M)) = _
  rw [zdo_nx, H129_104 M hn]
  rfl
set_option maxRecDepth 100000 in
theorem G129_105_0 (M : zM) : zgR (N129_105 M) 12 0 4 = (50, 0) := by
  show zgR (zdo [(0, 4, 21, 0, (0, 0), 0)] (N129_104 M)) 12 0 4 = _
  rw [zdo_R _ _ (by decide), G129_104_0 M]
set_option maxRecDepth 100000 in
theorem G129_105_1 (M : zM) : zgR (N129_105 M) 12 0 5 = (51, 0) := by
  show zgR (zdo [(0, 4, 21, 0, (0, 0), 0)] (N129_104 M)) 12 0 5 = _
  rw [zdo_R _ _ (by decide), G129_104_1 M]
set_option maxRecDepth 100000 in
theorem G129_105_2 (M : zM) : zgR (N129_105 M) 12 0 7 = (53, 0) := by
  show zgR (zdo [(0, 4, 21, 0, (0, 0), 0)] (N129_104 M)) 12 0 7 = _
  rw [zdo_R _ _ (by decide), G129_104_2 M]
def D20_21 : List zOp := [(0, 24, 21, 0, (0, 0), 0), (1, 4, 21, 0, (24, 21), 0), (0, 25, 21, 0, (0, 0), 0), (1, 4, 21, 1, (25, 21), 0), (0, 26, 21, 0, (0, 0), 0), (1, 4, 21, 2, (26, 21), 0), (0, 27, 21, 0, (0, 0), 0), (1, 4, 21, 3, (27, 21), 0), (0, 28, 21, 0, (0, 0), 0), (1, 4, 21, 4, (28, 21), 0)]
set_option maxRecDepth 100000 in
set_option maxHeartbeats 4000000 in
theorem C20_21 (d : Nat) (M : zM) (hn : znx M = 205) : zgo true d 20 0 [zr 4 21] [] M = some (none, zdo D20_21 M) := by
  refine (B20_0 d 21 M).trans ?_
  have hz : znx M = 205 := hn
  rw [hz]
  clear hz
  show zgo true d 20 9 [zr 4 21] [zr 24 21, zr 4 21] (znew M 24 21) = _
  generalize hM1 : znew M 24 21 = M1
  have hn1 : znx M1 = 206 := by rw [← hM1]; exact congrArg (· + 1) hn
  refine (B20_9 d 21 21 24 21 M1).trans ?_
  have hz : znx (zsR M1 4 21 0 (24, 21)) = 206 := hn1
  rw [hz]
  clear hz
  show zgo true d 20 17 [zr 4 21] [zr 25 21, zr 4 21] (znew (zsR M1 4 21 0 (24, 21)) 25 21) = _
  generalize hM2 : znew (zsR M1 4 21 0 (24, 21)) 25 21 = M2
  have hn2 : znx M2 = 207 := by rw [← hM2]; exact congrArg (· + 1) hn1
  clear hn1
  refine (B20_17 d 21 21 25 21 M2).trans ?_
  have hz : znx (zsR M2 4 21 1 (25, 21)) = 207 := hn2
  rw [hz]
  clear hz
  show zgo true d 20 25 [zr 4 21] [zr 26 21, zr 4 21] (znew (zsR M2 4 21 1 (25, 21)) 26 21) = _
  generalize hM3 : znew (zsR M2 4 21 1 (25, 21)) 26 21 = M3
  have hn3 : znx M3 = 208 := by rw [← hM3]; exact congrArg (· + 1) hn2
  clear hn2
  refine (B20_25 d 21 21 26 21 M3).trans ?_
  show zgo true d 20 28 [zr 4 21] [] (zsR M3 4 21 2 (26, 21)) = _
  generalize hM4 : zsR M3 4 21 2 (26, 21) = M4
  have hn4 : znx M4 = 208 := by rw [← hM4]; exact hn3
  clear hn3
  refine (B20_28 d 21 M4).trans ?_
  have hz : znx M4 = 208 := hn4
  rw [hz]
  clear hz
  show zgo true d 20 33 [zr 4 21] [zr 27 21, zr 4 21] (znew M4 27 21) = _
  generalize hM5 : znew M4 27 21 = M5
  have hn5 : znx M5 = 209 := by rw [← hM5]; exact congrArg (· + 1) hn4
  clear hn4
  refine (B20_33 d 21 21 27 21 M5).trans ?_
  have hz : znx (zsR M5 4 21 3 (27, 21)) = 209 := hn5
  rw [hz]
  clear hz
  show zgo true d 20 41 [zr 4 21] [zr 28 21, zr 4 21] (znew (zsR M5 4 21 3 (27, 21)) 28 21) = _
  generalize hM6 : znew (zsR M5 4 21 3 (27, 21)) 28 21 = M6
  have hn6 : znx M6 = 210 := by rw [← hM6]; exact congrArg (· + 1) hn5
  clear hn5
  refine (B20_41 d 21 21 28 21 M6).trans ?_
  generalize hM7 : zsR M6 4 21 4 (28, 21) = M7
  have hn7 : znx M7 = 210 := by rw [← hM7]; exact hn6
  clear hn6
  subst hM7 hM6 hM5 hM4 hM3 hM2 hM1
  rfl
def N129_106 (M : zM) : zM := zdo D20_21 (N129_105 M)
set_option maxRecDepth 100000 in
theorem T129_116 (d : Nat) (M : zM) (hn : znx M = 1) : zgo true (d + 3) 129 180 [zr 12 0, zi 21] [zr 4 21, zi 21, zr 51 0] (N129_105 M) = zgo true (d + 3) 129 184 [zr 12 0, zi 21] [zr 4 21, zi 21, zr 51 0] (N129_106 M) := by
  have hX : znx (N129_105 M) = 205 := H129_105 M hn
  have hf0 : zgR (N129_105 M) 12 0 4 = (50, 0) := G129_105_0 M
  have hf1 : zgR (N129_105 M) 12 0 5 = (51, 0) := G129_105_1 M
  have hf2 : zgR (N129_105 M) 12 0 7 = (53, 0) := G129_105_2 M
  generalize hN : N129_105 M = X at hX hf0 hf1 hf2 ⊢
  refine (B129_180 (d + 2) 21 21 21 X).trans ?_
  show Option.bind (zgo true (d + 2) 20 0 [zr 4 21] [] (X)) _ = _
  refine zbind_of (C20_21 (d + 2) _ hX) ?_
  show zgo true (d + 3) 129 184 [zr 12 0, zi 21] [zr 4 21, zi 21, zr 51 0] (zdo D20_21 (X)) = _
  subst hN
  rfl
theorem H129_106 (M : zM) (hn : znx M = 1) : znx (N129_106 M) = 210 := by
  show znx (zdo D20_21 (N129_105 M)) = _
  rw [zdo_nx, H129_105 M hn]
  rfl
set_option maxRecDepth 100000 in
theorem G129_106_0 (M : zM) : zgR (N129_106 M) 12 0 4 = (50, 0) := by
  show zgR (zdo D20_21 (N129_105 M)) 12 0 4 = _
  rw [zdo_R _ _ (by decide), G129_105_0 M]
set_option maxRecDepth 100000 in
theorem G129_106_1 (M : zM) : zgR (N129_106 M) 12 0 5 = (51, 0) := by
  show zgR (zdo D20_21 (N129_105 M)) 12 0 5 = _
  rw [zdo_R _ _ (by decide), G129_105_1 M]
set_option maxRecDepth 100000 in
theorem G129_106_2 (M : zM) : zgR (N129_106 M) 12 0 7 = (53, 0) := by
  show zgR (zdo D20_21 (N129_105 M)) 12 0 7 = _
  rw [zdo_R _ _ (by decide), G129_105_2 M]
def N129_107 (M : zM) : zM := zdo [(1, 51, 0, 21, (4, 21), 0)] (N129_106 M)
set_option maxRecDepth 100000 in
theorem T129_117 (d : Nat) (M : zM) (hn : znx M = 1) : zgo true (d + 3) 129 184 [zr 12 0, zi 21] [zr 4 21, zi 21, zr 51 0] (N129_106 M) = zgo true (d + 3) 129 163 [zr 12 0, zi 22] [] (N129_107 M) := by
  have hX : znx (N129_106 M) = 210 := H129_106 M hn
  have hf0 : zgR (N129_106 M) 12 0 4 = (50, 0) := G129_106_0 M
  have hf1 : zgR (N129_106 M) 12 0 5 = (51, 0) := G129_106_1 M
  have hf2 : zgR (N129_106 M) 12 0 7 = (53, 0) := G129_106_2 M
  generalize hN : N129_106 M = X at hX hf0 hf1 hf2 ⊢
  refine (B129_184 (d + 3) 21 21 21 X).trans ?_
  show zgo true (d + 3) 129 163 [zr 12 0, zi 22] [] (zsR X 51 0 ((21 : Int32).toNatClampNeg) (4, 21)) = _
  rw [show zsR X 51 0 ((21 : Int32).toNatClampNeg) (4, 21) = zdo [(1, 51, 0, 21, (4, 21), 0)] X from rfl]
  subst hN
  rfl
theorem H129_107 (M : zM) (hn : znx M = 1) : znx (N129_107 M) = 210 := by
  show znx (zdo [(1, 51, 0, 21, (4, 21), 0)] (N129_106 M)) = _
  rw [zdo_nx, H129_106 M hn]
  rfl
set_option maxRecDepth 100000 in
theorem G129_107_0 (M : zM) : zgR (N129_107 M) 12 0 4 = (50, 0) := by
  show zgR (zdo [(1, 51, 0, 21, (4, 21), 0)] (N129_106 M)) 12 0 4 = _
  rw [zdo_R _ _ (by decide), G129_106_0 M]
set_option maxRecDepth 100000 in
theorem G129_107_1 (M : zM) : zgR (N129_107 M) 12 0 5 = (51, 0) := by
  show zgR (zdo [(1, 51, 0, 21, (4, 21), 0)] (N129_106 M)) 12 0 5 = _
  rw [zdo_R _ _ (by decide), G129_106_1 M]
set_option maxRecDepth 100000 in
theorem G129_107_2 (M : zM) : zgR (N129_107 M) 12 0 7 = (53, 0) := by
  show zgR (zdo [(1, 51, 0, 21, (4, 21), 0)] (N129_106 M)) 12 0 7 = _
  rw [zdo_R _ _ (by decide), G129_106_2 M]
def N129_108 (M : zM) : zM := zdo [(0, 4, 22, 0, (0, 0), 0)] (N129_107 M)
set_option maxRecDepth 100000 in
theorem T129_118 (d : Nat) (M : zM) (hn : znx M = 1) : zgo true (d + 3) 129 163 [zr 12 0, zi 22] [] (N129_107 M) = zgo true (d + 3) 129 180 [zr 12 0, zi 22] [zr 4 22, zi 22, zr 51 0] (N129_108 M) := by
  have hX : znx (N129_107 M) = 210 := H129_107 M hn
  have hf0 : zgR (N129_107 M) 12 0 4 = (50, 0) := G129_107_0 M
  have hf1 : zgR (N129_107 M) 12 0 5 = (51, 0) := G129_107_1 M
  have hf2 : zgR (N129_107 M) 12 0 7 = (53, 0) := G129_107_2 M
  generalize hN : N129_107 M = X at hX hf0 hf1 hf2 ⊢
  refine (B129_163 (d + 3) 22 X).trans ?_
  rw [show zgR (X) 12 0 5 = (51, 0) from hf1]
  have hz : znx X = 210 := hX
  rw [hz]
  clear hz
  show zgo true (d + 3) 129 180 [zr 12 0, zi 22] [zr 4 22, zi 22, zr 51 0] (znew X 4 22) = _
  rw [show znew X 4 22 = zdo [(0, 4, 22, 0, (0, 0), 0)] X from rfl]
  subst hN
  rfl
theorem H129_108 (M : zM) (hn : znx M = 1) : znx (N129_108 M) = 211 := by
  show znx (zdo [(0, 4, 22, 0, (0, 0), 0)] (N129_107 M)) = _
  rw [zdo_nx, H129_107 M hn]
  rfl
set_option maxRecDepth 100000 in
theorem G129_108_0 (M : zM) : zgR (N129_108 M) 12 0 4 = (50, 0) := by
  show zgR (zdo [(0, 4, 22, 0, (0, 0), 0)] (N129_107 M)) 12 0 4 = _
  rw [zdo_R _ _ (by decide), G129_107_0 M]
set_option maxRecDepth 100000 in
theorem G129_108_1 (M : zM) : zgR (N129_108 M) 12 0 5 = (51, 0) := by
  show zgR (zdo [(0, 4, 22, 0, (0, 0), 0)] (N129_107 M)) 12 0 5 = _
  rw [zdo_R _ _ (by decide), G129_107_1 M]
set_option maxRecDepth 100000 in
theorem G129_108_2 (M : zM) : zgR (N129_108 M) 12 0 7 = (53, 0) := by
  show zgR (zdo [(0, 4, 22, 0, (0, 0), 0)] (N129_107 M)) 12 0 7 = _
  rw [zdo_R _ _ (by decide), G129_107_2 M]
def D20_22 : List zOp := [(0, 24, 22, 0, (0, 0), 0), (1, 4, 22, 0, (24, 22), 0), (0, 25, 22, 0, (0, 0), 0), (1, 4, 22, 1, (25, 22), 0), (0, 26, 22, 0, (0, 0), 0), (1, 4, 22, 2, (26, 22), 0), (0, 27, 22, 0, (0, 0), 0), (1, 4, 22, 3, (27, 22), 0), (0, 28, 22, 0, (0, 0), 0), (1, 4, 22, 4, (28, 22), 0)]
set_option maxRecDepth 100000 in
set_option maxHeartbeats 4000000 in
theorem C20_22 (d : Nat) (M : zM) (hn : znx M = 211) : zgo true d 20 0 [zr 4 22] [] M = some (none, zdo D20_22 M) := by
  refine (B20_0 d 22 M).trans ?_
  have hz : znx M = 211 := hn
  rw [hz]
  clear hz
  show zgo true d 20 9 [zr 4 22] [zr 24 22, zr 4 22] (znew M 24 22) = _
  generalize hM1 : znew M 24 22 = M1
  have hn1 : znx M1 = 212 := by rw [← hM1]; exact congrArg (· + 1) hn
  refine (B20_9 d 22 22 24 22 M1).trans ?_
  have hz : znx (zsR M1 4 22 0 (24, 22)) = 212 := hn1
  rw [hz]
  clear hz
  show zgo true d 20 17 [zr 4 22] [zr 25 22, zr 4 22] (znew (zsR M1 4 22 0 (24, 22)) 25 22) = _
  generalize hM2 : znew (zsR M1 4 22 0 (24, 22)) 25 22 = M2
  have hn2 : znx M2 = 213 := by rw [← hM2]; exact congrArg (· + 1) hn1
  clear hn1
  refine (B20_17 d 22 22 25 22 M2).trans ?_
  have hz : znx (zsR M2 4 22 1 (25, 22)) = 213 := hn2
  rw [hz]
  clear hz
  show zgo true d 20 25 [zr 4 22] [zr 26 22, zr 4 22] (znew (zsR M2 4 22 1 (25, 22)) 26 22) = _
  generalize hM3 : znew (zsR M2 4 22 1 (25, 22)) 26 22 = M3
  have hn3 : znx M3 = 214 := by rw [← hM3]; exact congrArg (· + 1) hn2
  clear hn2
  refine (B20_25 d 22 22 26 22 M3).trans ?_
  show zgo true d 20 28 [zr 4 22] [] (zsR M3 4 22 2 (26, 22)) = _
  generalize hM4 : zsR M3 4 22 2 (26, 22) = M4
  have hn4 : znx M4 = 214 := by rw [← hM4]; exact hn3
  clear hn3
  refine (B20_28 d 22 M4).trans ?_
  have hz : znx M4 = 214 := hn4
  rw [hz]
  clear hz
  show zgo true d 20 33 [zr 4 22] [zr 27 22, zr 4 22] (znew M4 27 22) = _
  generalize hM5 : znew M4 27 22 = M5
  have hn5 : znx M5 = 215 := by rw [← hM5]; exact congrArg (· + 1) hn4
  clear hn4
  refine (B20_33 d 22 22 27 22 M5).trans ?_
  have hz : znx (zsR M5 4 22 3 (27, 22)) = 215 := hn5
  rw [hz]
  clear hz
  show zgo true d 20 41 [zr 4 22] [zr 28 22, zr 4 22] (znew (zsR M5 4 22 3 (27, 22)) 28 22) = _
  generalize hM6 : znew (zsR M5 4 22 3 (27, 22)) 28 22 = M6
  have hn6 : znx M6 = 216 := by rw [← hM6]; exact congrArg (· + 1) hn5
  clear hn5
  refine (B20_41 d 22 22 28 22 M6).trans ?_
  generalize hM7 : zsR M6 4 22 4 (28, 22) = M7
  have hn7 : znx M7 = 216 := by rw [← hM7]; exact hn6
  clear hn6
  subst hM7 hM6 hM5 hM4 hM3 hM2 hM1
  rfl
def N129_109 (M : zM) : zM := zdo D20_22 (N129_108 M)
set_option maxRecDepth 100000 in
theorem T129_119 (d : Nat) (M : zM) (hn : znx M = 1) : zgo true (d + 3) 129 180 [zr 12 0, zi 22] [zr 4 22, zi 22, zr 51 0] (N129_108 M) = zgo true (d + 3) 129 184 [zr 12 0, zi 22] [zr 4 22, zi 22, zr 51 0] (N129_109 M) := by
  have hX : znx (N129_108 M) = 211 := H129_108 M hn
  have hf0 : zgR (N129_108 M) 12 0 4 = (50, 0) := G129_108_0 M
  have hf1 : zgR (N129_108 M) 12 0 5 = (51, 0) := G129_108_1 M
  have hf2 : zgR (N129_108 M) 12 0 7 = (53, 0) := G129_108_2 M
  generalize hN : N129_108 M = X at hX hf0 hf1 hf2 ⊢
  refine (B129_180 (d + 2) 22 22 22 X).trans ?_
  show Option.bind (zgo true (d + 2) 20 0 [zr 4 22] [] (X)) _ = _
  refine zbind_of (C20_22 (d + 2) _ hX) ?_
  show zgo true (d + 3) 129 184 [zr 12 0, zi 22] [zr 4 22, zi 22, zr 51 0] (zdo D20_22 (X)) = _
  subst hN
  rfl
theorem H129_109 (M : zM) (hn : znx M = 1) : znx (N129_109 M) = 216 := by
  show znx (zdo D20_22 (N129_108 M)) = _
  rw [zdo_nx, H129_108 M hn]
  rfl
set_option maxRecDepth 100000 in
theorem G129_109_0 (M : zM) : zgR (N129_109 M) 12 0 4 = (50, 0) := by
  show zgR (zdo D20_22 (N129_108 M)) 12 0 4 = _
  rw [zdo_R _ _ (by decide), G129_108_0 M]
set_option maxRecDepth 100000 in
theorem G129_109_1 (M : zM) : zgR (N129_109 M) 12 0 5 = (51, 0) := by
  show zgR (zdo D20_22 (N129_108 M)) 12 0 5 = _
  rw [zdo_R _ _ (by decide), G129_108_1 M]
set_option maxRecDepth 100000 in
theorem G129_109_2 (M : zM) : zgR (N129_109 M) 12 0 7 = (53, 0) := by
  show zgR (zdo D20_22 (N129_108 M)) 12 0 7 = _
  rw [zdo_R _ _ (by decide), G129_108_2 M]
def N129_110 (M : zM) : zM := zdo [(1, 51, 0, 22, (4, 22), 0)] (N129_109 M)
set_option maxRecDepth 100000 in
theorem T129_120 (d : Nat) (M : zM) (hn : znx M = 1) : zgo true (d + 3) 129 184 [zr 12 0, zi 22] [zr 4 22, zi 22, zr 51 0] (N129_109 M) = zgo true (d + 3) 129 163 [zr 12 0, zi 23] [] (N129_110 M) := by
  have hX : znx (N129_109 M) = 216 := H129_109 M hn
  have hf0 : zgR (N129_109 M) 12 0 4 = (50, 0) := G129_109_0 M
  have hf1 : zgR (N129_109 M) 12 0 5 = (51, 0) := G129_109_1 M
  have hf2 : zgR (N129_109 M) 12 0 7 = (53, 0) := G129_109_2 M
  generalize hN : N129_109 M = X at hX hf0 hf1 hf2 ⊢
  refine (B129_184 (d + 3) 22 22 22 X).trans ?_
  show zgo true (d + 3) 129 163 [zr 12 0, zi 23] [] (zsR X 51 0 ((22 : Int32).toNatClampNeg) (4, 22)) = _
  rw [show zsR X 51 0 ((22 : Int32).toNatClampNeg) (4, 22) = zdo [(1, 51, 0, 22, (4, 22), 0)] X from rfl]
  subst hN
  rfl
theorem H129_110 (M : zM) (hn : znx M = 1) : znx (N129_110 M) = 216 := by
  show znx (zdo [(1, 51, 0, 22, (4, 22), 0)] (N129_109 M)) = _
  rw [zdo_nx, H129_109 M hn]
  rfl
set_option maxRecDepth 100000 in
theorem G129_110_0 (M : zM) : zgR (N129_110 M) 12 0 4 = (50, 0) := by
  show zgR (zdo [(1, 51, 0, 22, (4, 22), 0)] (N129_109 M)) 12 0 4 = _
  rw [zdo_R _ _ (by decide), G129_109_0 M]
set_option maxRecDepth 100000 in
theorem G129_110_1 (M : zM) : zgR (N129_110 M) 12 0 5 = (51, 0) := by
  show zgR (zdo [(1, 51, 0, 22, (4, 22), 0)] (N129_109 M)) 12 0 5 = _
  rw [zdo_R _ _ (by decide), G129_109_1 M]
set_option maxRecDepth 100000 in
theorem G129_110_2 (M : zM) : zgR (N129_110 M) 12 0 7 = (53, 0) := by
  show zgR (zdo [(1, 51, 0, 22, (4, 22), 0)] (N129_109 M)) 12 0 7 = _
  rw [zdo_R _ _ (by decide), G129_109_2 M]
def N129_111 (M : zM) : zM := zdo [(0, 4, 23, 0, (0, 0), 0)] (N129_110 M)
set_option maxRecDepth 100000 in
theorem T129_121 (d : Nat) (M : zM) (hn : znx M = 1) : zgo true (d + 3) 129 163 [zr 12 0, zi 23] [] (N129_110 M) = zgo true (d + 3) 129 180 [zr 12 0, zi 23] [zr 4 23, zi 23, zr 51 0] (N129_111 M) := by
  have hX : znx (N129_110 M) = 216 := H129_110 M hn
  have hf0 : zgR (N129_110 M) 12 0 4 = (50, 0) := G129_110_0 M
  have hf1 : zgR (N129_110 M) 12 0 5 = (51, 0) := G129_110_1 M
  have hf2 : zgR (N129_110 M) 12 0 7 = (53, 0) := G129_110_2 M
  generalize hN : N129_110 M = X at hX hf0 hf1 hf2 ⊢
  refine (B129_163 (d + 3) 23 X).trans ?_
  rw [show zgR (X) 12 0 5 = (51, 0) from hf1]
  have hz : znx X = 216 := hX
  rw [hz]
  clear hz
  show zgo true (d + 3) 129 180 [zr 12 0, zi 23] [zr 4 23, zi 23, zr 51 0] (znew X 4 23) = _
  rw [show znew X 4 23 = zdo [(0, 4, 23, 0, (0, 0), 0)] X from rfl]
  subst hN
  rfl
theorem H129_111 (M : zM) (hn : znx M = 1) : znx (N129_111 M) = 217 := by
  show znx (zdo [(0, 4, 23, 0, (0, 0), 0)] (N129_110 M)) = _
  rw [zdo_nx, H129_110 M hn]
  rfl
set_option maxRecDepth 100000 in
theorem G129_111_0 (M : zM) : zgR (N129_111 M) 12 0 4 = (50, 0) := by
  show zgR (zdo [(0, 4, 23, 0, (0, 0), 0)] (N129_110 M)) 12 0 4 = _
  rw [zdo_R _ _ (by decide), G129_110_0 M]
set_option maxRecDepth 100000 in
theorem G129_111_1 (M : zM) : zgR (N129_111 M) 12 0 5 = (51, 0) := by
  show zgR (zdo [(0, 4, 23, 0, (0, 0), 0)] (N129_110 M)) 12 0 5 = _
  rw [zdo_R _ _ (by decide), G129_110_1 M]
set_option maxRecDepth 100000 in
theorem G129_111_2 (M : zM) : zgR (N129_111 M) 12 0 7 = (53, 0) := by
  show zgR (zdo [(0, 4, 23, 0, (0, 0), 0)] (N129_110 M)) 12 0 7 = _
  rw [zdo_R _ _ (by decide), G129_110_2 M]
def D20_23 : List zOp := [(0, 24, 23, 0, (0, 0), 0), (1, 4, 23, 0, (24, 23), 0), (0, 25, 23, 0, (0, 0), 0), (1, 4, 23, 1, (25, 23), 0), (0, 26, 23, 0, (0, 0), 0), (1, 4, 23, 2, (26, 23), 0), (0, 27, 23, 0, (0, 0), 0), (1, 4, 23, 3, (27, 23), 0), (0, 28, 23, 0, (0, 0), 0), (1, 4, 23, 4, (28, 23), 0)]
set_option maxRecDepth 100000 in
set_option maxHeartbeats 4000000 in
theorem C20_23 (d : Nat) (M : zM) (hn : znx M = 217) : zgo true d 20 0 [zr 4 23] [] M = some (none, zdo D20_23 M) := by
  refine (B20_0 d 23 M).trans ?_
  have hz : znx M = 217 := hn
  rw [hz]
  clear hz
  show zgo true d 20 9 [zr 4 23] [zr 24 23, zr 4 23] (znew M 24 23) = _
  generalize hM1 : znew M 24 23 = M1
  have hn1 : znx M1 = 218 := by rw [← hM1]; exact congrArg (· + 1) hn
  refine (B20_9 d 23 23 24 23 M1).trans ?_
  have hz : znx (zsR M1 4 23 0 (24, 23)) = 218 := hn1
  rw [hz]
  clear hz
  show zgo true d 20 17 [zr 4 23] [zr 25 23, zr 4 23] (znew (zsR M1 4 23 0 (24, 23)) 25 23) = _
  generalize hM2 : znew (zsR M1 4 23 0 (24, 23)) 25 23 = M2
  have hn2 : znx M2 = 219 := by rw [← hM2]; exact congrArg (· + 1) hn1
  clear hn1
  refine (B20_17 d 23 23 25 23 M2).trans ?_
  have hz : znx (zsR M2 4 23 1 (25, 23)) = 219 := hn2
  rw [hz]
  clear hz
  show zgo true d 20 25 [zr 4 23] [zr 26 23, zr 4 23] (znew (zsR M2 4 23 1 (25, 23)) 26 23) = _
  generalize hM3 : znew (zsR M2 4 23 1 (25, 23)) 26 23 = M3
  have hn3 : znx M3 = 220 := by rw [← hM3]; exact congrArg (· + 1) hn2
  clear hn2
  refine (B20_25 d 23 23 26 23 M3).trans ?_
  show zgo true d 20 28 [zr 4 23] [] (zsR M3 4 23 2 (26, 23)) = _
  generalize hM4 : zsR M3 4 23 2 (26, 23) = M4
  have hn4 : znx M4 = 220 := by rw [← hM4]; exact hn3
  clear hn3
  refine (B20_28 d 23 M4).trans ?_
  have hz : znx M4 = 220 := hn4
  rw [hz]
  clear hz
  show zgo true d 20 33 [zr 4 23] [zr 27 23, zr 4 23] (znew M4 27 23) = _
  generalize hM5 : znew M4 27 23 = M5
  have hn5 : znx M5 = 221 := by rw [← hM5]; exact congrArg (· + 1) hn4
  clear hn4
  refine (B20_33 d 23 23 27 23 M5).trans ?_
  have hz : znx (zsR M5 4 23 3 (27, 23)) = 221 := hn5
  rw [hz]
  clear hz
  show zgo true d 20 41 [zr 4 23] [zr 28 23, zr 4 23] (znew (zsR M5 4 23 3 (27, 23)) 28 23) = _
  generalize hM6 : znew (zsR M5 4 23 3 (27, 23)) 28 23 = M6
  have hn6 : znx M6 = 222 := by rw [← hM6]; exact congrArg (· + 1) hn5
  clear hn5
  refine (B20_41 d 23 23 28 23 M6).trans ?_
  generalize hM7 : zsR M6 4 23 4 (28, 23) = M7
  have hn7 : znx M7 = 222 := by rw [← hM7]; exact hn6
  clear hn6
  subst hM7 hM6 hM5 hM4 hM3 hM2 hM1
  rfl
def N129_112 (M : zM) : zM := zdo D20_23 (N129_111 M)
set_option maxRecDepth 100000 in
theorem T129_122 (d : Nat) (M : zM) (hn : znx M = 1) : zgo true (d + 3) 129 180 [zr 12 0, zi 23] [zr 4 23, zi 23, zr 51 0] (N129_111 M) = zgo true (d + 3) 129 184 [zr 12 0, zi 23] [zr 4 23, zi 23, zr 51 0] (N129_112 M) := by
  have hX : znx (N129_111 M) = 217 := H129_111 M hn
  have hf0 : zgR (N129_111 M) 12 0 4 = (50, 0) := G129_111_0 M
  have hf1 : zgR (N129_111 M) 12 0 5 = (51, 0) := G129_111_1 M
  have hf2 : zgR (N129_111 M) 12 0 7 = (53, 0) := G129_111_2 M
  generalize hN : N129_111 M = X at hX hf0 hf1 hf2 ⊢
  refine (B129_180 (d + 2) 23 23 23 X).trans ?_
  show Option.bind (zgo true (d + 2) 20 0 [zr 4 23] [] (X)) _ = _
  refine zbind_of (C20_23 (d + 2) _ hX) ?_
  show zgo true (d + 3) 129 184 [zr 12 0, zi 23] [zr 4 23, zi 23, zr 51 0] (zdo D20_23 (X)) = _
  subst hN
  rfl
theorem H129_112 (M : zM) (hn : znx M = 1) : znx (N129_112 M) = 222 := by
  show znx (zdo D20_23 (N129_111 M)) = _
  rw [zdo_nx, H129_111 M hn]
  rfl
set_option maxRecDepth 100000 in
theorem G129_112_0 (M : zM) : zgR (N129_112 M) 12 0 4 = (50, 0) := by
  show zgR (zdo D20_23 (N129_111 M)) 12 0 4 = _
  rw [zdo_R _ _ (by decide), G129_111_0 M]
set_option maxRecDepth 100000 in
theorem G129_112_1 (M : zM) : zgR (N129_112 M) 12 0 5 = (51, 0) := by
  show zgR (zdo D20_23 (N129_111 M)) 12 0 5 = _
  rw [zdo_R _ _ (by decide), G129_111_1 M]
set_option maxRecDepth 100000 in
theorem G129_112_2 (M : zM) : zgR (N129_112 M) 12 0 7 = (53, 0) := by
  show zgR (zdo D20_23 (N129_111 M)) 12 0 7 = _
  rw [zdo_R _ _ (by decide), G129_111_2 M]
def N129_113 (M : zM) : zM := zdo [(1, 51, 0, 23, (4, 23), 0)] (N129_112 M)
set_option maxRecDepth 100000 in
theorem T129_123 (d : Nat) (M : zM) (hn : znx M = 1) : zgo true (d + 3) 129 184 [zr 12 0, zi 23] [zr 4 23, zi 23, zr 51 0] (N129_112 M) = zgo true (d + 3) 129 163 [zr 12 0, zi 24] [] (N129_113 M) := by
  have hX : znx (N129_112 M) = 222 := H129_112 M hn
  have hf0 : zgR (N129_112 M) 12 0 4 = (50, 0) := G129_112_0 M
  have hf1 : zgR (N129_112 M) 12 0 5 = (51, 0) := G129_112_1 M
  have hf2 : zgR (N129_112 M) 12 0 7 = (53, 0) := G129_112_2 M
  generalize hN : N129_112 M = X at hX hf0 hf1 hf2 ⊢
  refine (B129_184 (d + 3) 23 23 23 X).trans ?_
  show zgo true (d + 3) 129 163 [zr 12 0, zi 24] [] (zsR X 51 0 ((23 : Int32).toNatClampNeg) (4, 23)) = _
  rw [show zsR X 51 0 ((23 : Int32).toNatClampNeg) (4, 23) = zdo [(1, 51, 0, 23, (4, 23), 0)] X from rfl]
  subst hN
  rfl
theorem H129_113 (M : zM) (hn : znx M = 1) : znx (N129_113 M) = 222 := by
  show znx (zdo [(1, 51, 0, 23, (4, 23), 0)] (N129_112 M)) = _
  rw [zdo_nx, H129_112 M hn]
  rfl
set_option maxRecDepth 100000 in
theorem G129_113_0 (M : zM) : zgR (N129_113 M) 12 0 4 = (50, 0) := by
  show zgR (zdo [(1, 51, 0, 23, (4, 23), 0)] (N129_112 M)) 12 0 4 = _
  rw [zdo_R _ _ (by decide), G129_112_0 M]
set_option maxRecDepth 100000 in
theorem G129_113_1 (M : zM) : zgR (N129_113 M) 12 0 5 = (51, 0) := by
  show zgR (zdo [(1, 51, 0, 23, (4, 23), 0)] (N129_112 M)) 12 0 5 = _
  rw [zdo_R _ _ (by decide), G129_112_1 M]
set_option maxRecDepth 100000 in
theorem G129_113_2 (M : zM) : zgR (N129_113 M) 12 0 7 = (53, 0) := by
  show zgR (zdo [(1, 51, 0, 23, (4, 23), 0)] (N129_112 M)) 12 0 7 = _
  rw [zdo_R _ _ (by decide), G129_112_2 M]
def N129_114 (M : zM) : zM := zdo [(0, 4, 24, 0, (0, 0), 0)] (N129_113 M)
set_option maxRecDepth 100000 in
theorem T129_124 (d : Nat) (M : zM) (hn : znx M = 1) : zgo true (d + 3) 129 163 [zr 12 0, zi 24] [] (N129_113 M) = zgo true (d + 3) 129 180 [zr 12 0, zi 24] [zr 4 24, zi 24, zr 51 0] (N129_114 M) := by
  have hX : znx (N129_113 M) = 222 := H129_113 M hn
  have hf0 : zgR (N129_113 M) 12 0 4 = (50, 0) := G129_113_0 M
  have hf1 : zgR (N129_113 M) 12 0 5 = (51, 0) := G129_113_1 M
  have hf2 : zgR (N129_113 M) 12 0 7 = (53, 0) := G129_113_2 M
  generalize hN : N129_113 M = X at hX hf0 hf1 hf2 ⊢
  refine (B129_163 (d + 3) 24 X).trans ?_
  rw [show zgR (X) 12 0 5 = (51, 0) from hf1]
  have hz : znx X = 222 := hX
  rw [hz]
  clear hz
  show zgo true (d + 3) 129 180 [zr 12 0, zi 24] [zr 4 24, zi 24, zr 51 0] (znew X 4 24) = _
  rw [show znew X 4 24 = zdo [(0, 4, 24, 0, (0, 0), 0)] X from rfl]
  subst hN
  rfl
theorem H129_114 (M : zM) (hn : znx M = 1) : znx (N129_114 M) = 223 := by
  show znx (zdo [(0, 4, 24, 0, (0, 0), 0)] (N129_113 M)) = _
  rw [zdo_nx, H129_113 M hn]
  rfl
set_option maxRecDepth 100000 in
theorem G129_114_0 (M : zM) : zgR (N129_114 M) 12 0 4 = (50, 0) := by
  show zgR (zdo [(0, 4, 24, 0, (0, 0), 0)] (N129_113 M)) 12 0 4 = _
  rw [zdo_R _ _ (by decide), G129_113_0 M]
set_option maxRecDepth 100000 in
theorem G129_114_1 (M : zM) : zgR (N129_114 M) 12 0 5 = (51, 0) := by
  show zgR (zdo [(0, 4, 24, 0, (0, 0), 0)] (N129_113 M)) 12 0 5 = _
  rw [zdo_R _ _ (by decide), G129_113_1 M]
set_option maxRecDepth 100000 in
theorem G129_114_2 (M : zM) : zgR (N129_114 M) 12 0 7 = (53, 0) := by
  show zgR (zdo [(0, 4, 24, 0, (0, 0), 0)] (N129_113 M)) 12 0 7 = _
  rw [zdo_R _ _ (by decide), G129_113_2 M]
def D20_24 : List zOp := [(0, 24, 24, 0, (0, 0), 0), (1, 4, 24, 0, (24, 24), 0), (0, 25, 24, 0, (0, 0), 0), (1, 4, 24, 1, (25, 24), 0), (0, 26, 24, 0, (0, 0), 0), (1, 4, 24, 2, (26, 24), 0), (0, 27, 24, 0, (0, 0), 0), (1, 4, 24, 3, (27, 24), 0), (0, 28, 24, 0, (0, 0), 0), (1, 4, 24, 4, (28, 24), 0)]
set_option maxRecDepth 100000 in
set_option maxHeartbeats 4000000 in
theorem C20_24 (d : Nat) (M : zM) (hn : znx M = 223) : zgo true d 20 0 [zr 4 24] [] M = some (none, zdo D20_24 M) := by
  refine (B20_0 d 24 M).trans ?_
  have hz : znx M = 223 := hn
  rw [hz]
  clear hz
  show zgo true d 20 9 [zr 4 24] [zr 24 24, zr 4 24] (znew M 24 24) = _
  generalize hM1 : znew M 24 24 = M1
  have hn1 : znx M1 = 224 := by rw [← hM1]; exact congrArg (· + 1) hn
  refine (B20_9 d 24 24 24 24 M1).trans ?_
  have hz : znx (zsR M1 4 24 0 (24, 24)) = 224 := hn1
  rw [hz]
  clear hz
  show zgo true d 20 17 [zr 4 24] [zr 25 24, zr 4 24] (znew (zsR M1 4 24 0 (24, 24)) 25 24) = _
  generalize hM2 : znew (zsR M1 4 24 0 (24, 24)) 25 24 = M2
  have hn2 : znx M2 = 225 := by rw [← hM2]; exact congrArg (· + 1) hn1
  clear hn1
  refine (B20_17 d 24 24 25 24 M2).trans ?_
  have hz : znx (zsR M2 4 24 1 (25, 24)) = 225 := hn2
  rw [hz]
  clear hz
  show zgo true d 20 25 [zr 4 24] [zr 26 24, zr 4 24] (znew (zsR M2 4 24 1 (25, 24)) 26 24) = _
  generalize hM3 : znew (zsR M2 4 24 1 (25, 24)) 26 24 = M3
  have hn3 : znx M3 = 226 := by rw [← hM3]; exact congrArg (· + 1) hn2
  clear hn2
  refine (B20_25 d 24 24 26 24 M3).trans ?_
  show zgo true d 20 28 [zr 4 24] [] (zsR M3 4 24 2 (26, 24)) = _
  generalize hM4 : zsR M3 4 24 2 (26, 24) = M4
  have hn4 : znx M4 = 226 := by rw [← hM4]; exact hn3
  clear hn3
  refine (B20_28 d 24 M4).trans ?_
  have hz : znx M4 = 226 := hn4
  rw [hz]
  clear hz
  show zgo true d 20 33 [zr 4 24] [zr 27 24, zr 4 24] (znew M4 27 24) = _
  generalize hM5 : znew M4 27 24 = M5
  have hn5 : znx M5 = 227 := by rw [← hM5]; exact congrArg (· + 1) hn4
  clear hn4
  refine (B20_33 d 24 24 27 24 M5).trans ?_
  have hz : znx (zsR M5 4 24 3 (27, 24)) = 227 := hn5
  rw [hz]
  clear hz
  show zgo true d 20 41 [zr 4 24] [zr 28 24, zr 4 24] (znew (zsR M5 4 24 3 (27, 24)) 28 24) = _
  generalize hM6 : znew (zsR M5 4 24 3 (27, 24)) 28 24 = M6
  have hn6 : znx M6 = 228 := by rw [← hM6]; exact congrArg (· + 1) hn5
  clear hn5
  refine (B20_41 d 24 24 28 24 M6).trans ?_
  generalize hM7 : zsR M6 4 24 4 (28, 24) = M7
  have hn7 : znx M7 = 228 := by rw [← hM7]; exact hn6
  clear hn6
  subst hM7 hM6 hM5 hM4 hM3 hM2 hM1
  rfl
def N129_115 (M : zM) : zM := zdo D20_24 (N129_114 M)
set_option maxRecDepth 100000 in
theorem T129_125 (d : Nat) (M : zM) (hn : znx M = 1) : zgo true (d + 3) 129 180 [zr 12 0, zi 24] [zr 4 24, zi 24, zr 51 0] (N129_114 M) = zgo true (d + 3) 129 184 [zr 12 0, zi 24] [zr 4 24, zi 24, zr 51 0] (N129_115 M) := by
  have hX : znx (N129_114 M) = 223 := H129_114 M hn
  have hf0 : zgR (N129_114 M) 12 0 4 = (50, 0) := G129_114_0 M
  have hf1 : zgR (N129_114 M) 12 0 5 = (51, 0) := G129_114_1 M
  have hf2 : zgR (N129_114 M) 12 0 7 = (53, 0) := G129_114_2 M
  generalize hN : N129_114 M = X at hX hf0 hf1 hf2 ⊢
  refine (B129_180 (d + 2) 24 24 24 X).trans ?_
  show Option.bind (zgo true (d + 2) 20 0 [zr 4 24] [] (X)) _ = _
  refine zbind_of (C20_24 (d + 2) _ hX) ?_
  show zgo true (d + 3) 129 184 [zr 12 0, zi 24] [zr 4 24, zi 24, zr 51 0] (zdo D20_24 (X)) = _
  subst hN
  rfl
theorem H129_115 (M : zM) (hn : znx M = 1) : znx (N129_115 M) = 228 := by
  show znx (zdo D20_24 (N129_114 M)) = _
  rw [zdo_nx, H129_114 M hn]
  rfl
set_option maxRecDepth 100000 in
theorem G129_115_0 (M : zM) : zgR (N129_115 M) 12 0 4 = (50, 0) := by
  show zgR (zdo D20_24 (N129_114 M)) 12 0 4 = _
  rw [zdo_R _ _ (by decide), G129_114_0 M]
set_option maxRecDepth 100000 in
theorem G129_115_1 (M : zM) : zgR (N129_115 M) 12 0 5 = (51, 0) := by
  show zgR (zdo D20_24 (N129_114 M)) 12 0 5 = _
  rw [zdo_R _ _ (by decide), G129_114_1 M]
set_option maxRecDepth 100000 in
theorem G129_115_2 (M : zM) : zgR (N129_115 M) 12 0 7 = (53, 0) := by
  show zgR (zdo D20_24 (N129_114 M)) 12 0 7 = _
  rw [zdo_R _ _ (by decide), G129_114_2 M]
def N129_116 (M : zM) : zM := zdo [(1, 51, 0, 24, (4, 24), 0)] (N129_115 M)
set_option maxRecDepth 100000 in
theorem T129_126 (d : Nat) (M : zM) (hn : znx M = 1) : zgo true (d + 3) 129 184 [zr 12 0, zi 24] [zr 4 24, zi 24, zr 51 0] (N129_115 M) = zgo true (d + 3) 129 163 [zr 12 0, zi 25] [] (N129_116 M) := by
  have hX : znx (N129_115 M) = 228 := H129_115 M hn
  have hf0 : zgR (N129_115 M) 12 0 4 = (50, 0) := G129_115_0 M
  have hf1 : zgR (N129_115 M) 12 0 5 = (51, 0) := G129_115_1 M
  have hf2 : zgR (N129_115 M) 12 0 7 = (53, 0) := G129_115_2 M
  generalize hN : N129_115 M = X at hX hf0 hf1 hf2 ⊢
  refine (B129_184 (d + 3) 24 24 24 X).trans ?_
  show zgo true (d + 3) 129 163 [zr 12 0, zi 25] [] (zsR X 51 0 ((24 : Int32).toNatClampNeg) (4, 24)) = _
  rw [show zsR X 51 0 ((24 : Int32).toNatClampNeg) (4, 24) = zdo [(1, 51, 0, 24, (4, 24), 0)] X from rfl]
  subst hN
  rfl
theorem H129_116 (M : zM) (hn : znx M = 1) : znx (N129_116 M) = 228 := by
  show znx (zdo [(1, 51, 0, 24, (4, 24), 0)] (N129_115 M)) = _
  rw [zdo_nx, H129_115 M hn]
  rfl
set_option maxRecDepth 100000 in
theorem G129_116_0 (M : zM) : zgR (N129_116 M) 12 0 4 = (50, 0) := by
  show zgR (zdo [(1, 51, 0, 24, (4, 24), 0)] (N129_115 M)) 12 0 4 = _
  rw [zdo_R _ _ (by decide), G129_115_0 M]
set_option maxRecDepth 100000 in
theorem G129_116_1 (M : zM) : zgR (N129_116 M) 12 0 5 = (51, 0) := by
  show zgR (zdo [(1, 51, 0, 24, (4, 24), 0)] (N129_115 M)) 12 0 5 = _
  rw [zdo_R _ _ (by decide), G129_115_1 M]
set_option maxRecDepth 100000 in
theorem G129_116_2 (M : zM) : zgR (N129_116 M) 12 0 7 = (53, 0) := by
  show zgR (zdo [(1, 51, 0, 24, (4, 24), 0)] (N129_115 M)) 12 0 7 = _
  rw [zdo_R _ _ (by decide), G129_115_2 M]
def N129_117 (M : zM) : zM := zdo [(0, 4, 25, 0, (0, 0), 0)] (N129_116 M)
set_option maxRecDepth 100000 in
theorem T129_127 (d : Nat) (M : zM) (hn : znx M = 1) : zgo true (d + 3) 129 163 [zr 12 0, zi 25] [] (N129_116 M) = zgo true (d + 3) 129 180 [zr 12 0, zi 25] [zr 4 25, zi 25, zr 51 0] (N129_117 M) := by
  have hX : znx (N129_116 M) = 228 := H129_116 M hn
  have hf0 : zgR (N129_116 M) 12 0 4 = (50, 0) := G129_116_0 M
  have hf1 : zgR (N129_116 M) 12 0 5 = (51, 0) := G129_116_1 M
  have hf2 : zgR (N129_116 M) 12 0 7 = (53, 0) := G129_116_2 M
  generalize hN : N129_116 M = X at hX hf0 hf1 hf2 ⊢
  refine (B129_163 (d + 3) 25 X).trans ?_
  rw [show zgR (X) 12 0 5 = (51, 0) from hf1]
  have hz : znx X = 228 := hX
  rw [hz]
  clear hz
  show zgo true (d + 3) 129 180 [zr 12 0, zi 25] [zr 4 25, zi 25, zr 51 0] (znew X 4 25) = _
  rw [show znew X 4 25 = zdo [(0, 4, 25, 0, (0, 0), 0)] X from rfl]
  subst hN
  rfl
theorem H129_117 (M : zM) (hn : znx M = 1) : znx (N129_117 M) = 229 := by
  show znx (zdo [(0, 4, 25, 0, (0, 0), 0)] (N129_116 M)) = _
  rw [zdo_nx, H129_116 M hn]
  rfl
set_option maxRecDepth 100000 in
theorem G129_117_0 (M : zM) : zgR (N129_117 M) 12 0 4 = (50, 0) := by
  show zgR (zdo [(0, 4, 25, 0, (0, 0), 0)] (N129_116 M)) 12 0 4 = _
  rw [zdo_R _ _ (by decide), G129_116_0 M]
set_option maxRecDepth 100000 in
theorem G129_117_1 (M : zM) : zgR (N129_117 M) 12 0 5 = (51, 0) := by
  show zgR (zdo [(0, 4, 25, 0, (0, 0), 0)] (N129_116 M)) 12 0 5 = _
  rw [zdo_R _ _ (by decide), G129_116_1 M]
set_option maxRecDepth 100000 in
theorem G129_117_2 (M : zM) : zgR (N129_117 M) 12 0 7 = (53, 0) := by
  show zgR (zdo [(0, 4, 25, 0, (0, 0), 0)] (N129_116 M)) 12 0 7 = _
  rw [zdo_R _ _ (by decide), G129_116_2 M]
def D20_25 : List zOp := [(0, 24, 25, 0, (0, 0), 0), (1, 4, 25, 0, (24, 25), 0), (0, 25, 25, 0, (0, 0), 0), (1, 4, 25, 1, (25, 25), 0), (0, 26, 25, 0, (0, 0), 0), (1, 4, 25, 2, (26, 25), 0), (0, 27, 25, 0, (0, 0), 0), (1, 4, 25, 3, (27, 25), 0), (0, 28, 25, 0, (0, 0), 0), (1, 4, 25, 4, (28, 25), 0)]
set_option maxRecDepth 100000 in
set_option maxHeartbeats 4000000 in
theorem C20_25 (d : Nat) (M : zM) (hn : znx M = 229) : zgo true d 20 0 [zr 4 25] [] M = some (none, zdo D20_25 M) := by
  refine (B20_0 d 25 M).trans ?_
  have hz : znx M = 229 := hn
  rw [hz]
  clear hz
  show zgo true d 20 9 [zr 4 25] [zr 24 25, zr 4 25] (znew M 24 25) = _
  generalize hM1 : znew M 24 25 = M1
  have hn1 : znx M1 = 230 := by rw [← hM1]; exact congrArg (· + 1) hn
  refine (B20_9 d 25 25 24 25 M1).trans ?_
  have hz : znx (zsR M1 4 25 0 (24, 25)) = 230 := hn1
  rw [hz]
  clear hz
  show zgo true d 20 17 [zr 4 25] [zr 25 25, zr 4 25] (znew (zsR M1 4 25 0 (24, 25)) 25 25) = _
  generalize hM2 : znew (zsR M1 4 25 0 (24, 25)) 25 25 = M2
  have hn2 : znx M2 = 231 := by rw [← hM2]; exact congrArg (· + 1) hn1
  clear hn1
  refine (B20_17 d 25 25 25 25 M2).trans ?_
  have hz : znx (zsR M2 4 25 1 (25, 25)) = 231 := hn2
  rw [hz]
  clear hz
  show zgo true d 20 25 [zr 4 25] [zr 26 25, zr 4 25] (znew (zsR M2 4 25 1 (25, 25)) 26 25) = _
  generalize hM3 : znew (zsR M2 4 25 1 (25, 25)) 26 25 = M3
  have hn3 : znx M3 = 232 := by rw [← hM3]; exact congrArg (· + 1) hn2
  clear hn2
  refine (B20_25 d 25 25 26 25 M3).trans ?_
  show zgo true d 20 28 [zr 4 25] [] (zsR M3 4 25 2 (26, 25)) = _
  generalize hM4 : zsR M3 4 25 2 (26, 25) = M4
  have hn4 : znx M4 = 232 := by rw [← hM4]; exact hn3
  clear hn3
  refine (B20_28 d 25 M4).trans ?_
  have hz : znx M4 = 232 := hn4
  rw [hz]
  clear hz
  show zgo true d 20 33 [zr 4 25] [zr 27 25, zr 4 25] (znew M4 27 25) = _
  generalize hM5 : znew M4 27 25 = M5
  have hn5 : znx M5 = 233 := by rw [← hM5]; exact congrArg (· + 1) hn4
  clear hn4
  refine (B20_33 d 25 25 27 25 M5).trans ?_
  have hz : znx (zsR M5 4 25 3 (27, 25)) = 233 := hn5
  rw [hz]
  clear hz
  show zgo true d 20 41 [zr 4 25] [zr 28 25, zr 4 25] (znew (zsR M5 4 25 3 (27, 25)) 28 25) = _
  generalize hM6 : znew (zsR M5 4 25 3 (27, 25)) 28 25 = M6
  have hn6 : znx M6 = 234 := by rw [← hM6]; exact congrArg (· + 1) hn5
  clear hn5
  refine (B20_41 d 25 25 28 25 M6).trans ?_
  generalize hM7 : zsR M6 4 25 4 (28, 25) = M7
  have hn7 : znx M7 = 234 := by rw [← hM7]; exact hn6
  clear hn6
  subst hM7 hM6 hM5 hM4 hM3 hM2 hM1
  rfl
def N129_118 (M : zM) : zM := zdo D20_25 (N129_117 M)
set_option maxRecDepth 100000 in
theorem T129_128 (d : Nat) (M : zM) (hn : znx M = 1) : zgo true (d + 3) 129 180 [zr 12 0, zi 25] [zr 4 25, zi 25, zr 51 0] (N129_117 M) = zgo true (d + 3) 129 184 [zr 12 0, zi 25] [zr 4 25, zi 25, zr 51 0] (N129_118 M) := by
  have hX : znx (N129_117 M) = 229 := H129_117 M hn
  have hf0 : zgR (N129_117 M) 12 0 4 = (50, 0) := G129_117_0 M
  have hf1 : zgR (N129_117 M) 12 0 5 = (51, 0) := G129_117_1 M
  have hf2 : zgR (N129_117 M) 12 0 7 = (53, 0) := G129_117_2 M
  generalize hN : N129_117 M = X at hX hf0 hf1 hf2 ⊢
  refine (B129_180 (d + 2) 25 25 25 X).trans ?_
  show Option.bind (zgo true (d + 2) 20 0 [zr 4 25] [] (X)) _ = _
  refine zbind_of (C20_25 (d + 2) _ hX) ?_
  show zgo true (d + 3) 129 184 [zr 12 0, zi 25] [zr 4 25, zi 25, zr 51 0] (zdo D20_25 (X)) = _
  subst hN
  rfl
theorem H129_118 (M : zM) (hn : znx M = 1) : znx (N129_118 M) = 234 := by
  show znx (zdo D20_25 (N129_117 M)) = _
  rw [zdo_nx, H129_117 M hn]
  rfl
set_option maxRecDepth 100000 in
theorem G129_118_0 (M : zM) : zgR (N129_118 M) 12 0 4 = (50, 0) := by
  show zgR (zdo D20_25 (N129_117 M)) 12 0 4 = _
  rw [zdo_R _ _ (by decide), G129_117_0 M]
set_option maxRecDepth 100000 in
theorem G129_118_1 (M : zM) : zgR (N129_118 M) 12 0 5 = (51, 0) := by
  show zgR (zdo D20_25 (N129_117 M)) 12 0 5 = _
  rw [zdo_R _ _ (by decide), G129_117_1 M]
set_option maxRecDepth 100000 in
theorem G129_118_2 (M : zM) : zgR (N129_118 M) 12 0 7 = (53, 0) := by
  show zgR (zdo D20_25 (N129_117 M)) 12 0 7 = _
  rw [zdo_R _ _ (by decide), G129_117_2 M]
def N129_119 (M : zM) : zM := zdo [(1, 51, 0, 25, (4, 25), 0)] (N129_118 M)
set_option maxRecDepth 100000 in
theorem T129_129 (d : Nat) (M : zM) (hn : znx M = 1) : zgo true (d + 3) 129 184 [zr 12 0, zi 25] [zr 4 25, zi 25, zr 51 0] (N129_118 M) = zgo true (d + 3) 129 163 [zr 12 0, zi 26] [] (N129_119 M) := by
  have hX : znx (N129_118 M) = 234 := H129_118 M hn
  have hf0 : zgR (N129_118 M) 12 0 4 = (50, 0) := G129_118_0 M
  have hf1 : zgR (N129_118 M) 12 0 5 = (51, 0) := G129_118_1 M
  have hf2 : zgR (N129_118 M) 12 0 7 = (53, 0) := G129_118_2 M
  generalize hN : N129_118 M = X at hX hf0 hf1 hf2 ⊢
  refine (B129_184 (d + 3) 25 25 25 X).trans ?_
  show zgo true (d + 3) 129 163 [zr 12 0, zi 26] [] (zsR X 51 0 ((25 : Int32).toNatClampNeg) (4, 25)) = _
  rw [show zsR X 51 0 ((25 : Int32).toNatClampNeg) (4, 25) = zdo [(1, 51, 0, 25, (4, 25), 0)] X from rfl]
  subst hN
  rfl
theorem H129_119 (M : zM) (hn : znx M = 1) : znx (N129_119 M) = 234 := by
  show znx (zdo [(1, 51, 0, 25, (4, 25), 0)] (N129_118 M)) = _
  rw [zdo_nx, H129_118 M hn]
  rfl
set_option maxRecDepth 100000 in
theorem G129_119_0 (M : zM) : zgR (N129_119 M) 12 0 4 = (50, 0) := by
  show zgR (zdo [(1, 51, 0, 25, (4, 25), 0)] (N129_118 M)) 12 0 4 = _
  rw [zdo_R _ _ (by decide), G129_118_0 M]
set_option maxRecDepth 100000 in
theorem G129_119_1 (M : zM) : zgR (N129_119 M) 12 0 5 = (51, 0) := by
  show zgR (zdo [(1, 51, 0, 25, (4, 25), 0)] (N129_118 M)) 12 0 5 = _
  rw [zdo_R _ _ (by decide), G129_118_1 M]
set_option maxRecDepth 100000 in
theorem G129_119_2 (M : zM) : zgR (N129_119 M) 12 0 7 = (53, 0) := by
  show zgR (zdo [(1, 51, 0, 25, (4, 25), 0)] (N129_118 M)) 12 0 7 = _
  rw [zdo_R _ _ (by decide), G129_118_2 M]
def N129_120 (M : zM) : zM := zdo [(0, 4, 26, 0, (0, 0), 0)] (N129_119 M)
set_option maxRecDepth 100000 in
theorem T129_130 (d : Nat) (M : zM) (hn : znx M = 1) : zgo true (d + 3) 129 163 [zr 12 0, zi 26] [] (N129_119 M) = zgo true (d + 3) 129 180 [zr 12 0, zi 26] [zr 4 26, zi 26, zr 51 0] (N129_120 M) := by
  have hX : znx (N129_119 M) = 234 := H129_119 M hn
  have hf0 : zgR (N129_119 M) 12 0 4 = (50, 0) := G129_119_0 M
  have hf1 : zgR (N129_119 M) 12 0 5 = (51, 0) := G129_119_1 M
  have hf2 : zgR (N129_119 M) 12 0 7 = (53, 0) := G129_119_2 M
  generalize hN : N129_119 M = X at hX hf0 hf1 hf2 ⊢
  refine (B129_163 (d + 3) 26 X).trans ?_
  rw [show zgR (X) 12 0 5 = (51, 0) from hf1]
  have hz : znx X = 234 := hX
  rw [hz]
  clear hz
  show zgo true (d + 3) 129 180 [zr 12 0, zi 26] [zr 4 26, zi 26, zr 51 0] (znew X 4 26) = _
  rw [show znew X 4 26 = zdo [(0, 4, 26, 0, (0, 0), 0)] X from rfl]
  subst hN
  rfl
theorem H129_120 (M : zM) (hn : znx M = 1) : znx (N129_120 M) = 235 := by
  show znx (zdo [(0, 4, 26, 0, (0, 0), 0)] (N129_119 M)) = _
  rw [zdo_nx, H129_119 M hn]
  rfl
set_option maxRecDepth 100000 in
theorem G129_120_0 (M : zM) : zgR (N129_120 M) 12 0 4 = (50, 0) := by
  show zgR (zdo [(0, 4, 26, 0, (0, 0), 0)] (N129_119 M)) 12 0 4 = _
  rw [zdo_R _ _ (by decide), G129_119_0 M]
set_option maxRecDepth 100000 in
theorem G129_120_1 (M : zM) : zgR (N129_120 M) 12 0 5 = (51, 0) := by
  show zgR (zdo [(0, 4, 26, 0, (0, 0), 0)] (N129_119 M)) 12 0 5 = _
  rw [zdo_R _ _ (by decide), G129_119_1 M]
set_option maxRecDepth 100000 in
theorem G129_120_2 (M : zM) : zgR (N129_120 M) 12 0 7 = (53, 0) := by
  show zgR (zdo [(0, 4, 26, 0, (0, 0), 0)] (N129_119 M)) 12 0 7 = _
  rw [zdo_R _ _ (by decide), G129_119_2 M]
def D20_26 : List zOp := [(0, 24, 26, 0, (0, 0), 0), (1, 4, 26, 0, (24, 26), 0), (0, 25, 26, 0, (0, 0), 0), (1, 4, 26, 1, (25, 26), 0), (0, 26, 26, 0, (0, 0), 0), (1, 4, 26, 2, (26, 26), 0), (0, 27, 26, 0, (0, 0), 0), (1, 4, 26, 3, (27, 26), 0), (0, 28, 26, 0, (0, 0), 0), (1, 4, 26, 4, (28, 26), 0)]
set_option maxRecDepth 100000 in
set_option maxHeartbeats 4000000 in
theorem C20_26 (d : Nat) (M : zM) (hn : znx M = 235) : zgo true d 20 0 [zr 4 26] [] M = some (none, zdo D20_26 M) := by
  refine (B20_0 d 26 M).trans ?_
  have hz : znx M = 235 := hn
  rw [hz]
  clear hz
  show zgo true d 20 9 [zr 4 26] [zr 24 26, zr 4 26] (znew M 24 26) = _
  generalize hM1 : znew M 24 26 = M1
  have hn1 : znx M1 = 236 := by rw [← hM1]; exact congrArg (· + 1) hn
  refine (B20_9 d 26 26 24 26 M1).trans ?_
  have hz : znx (zsR M1 4 26 0 (24, 26)) = 236 := hn1
  rw [hz]
  clear hz
  show zgo true d 20 17 [zr 4 26] [zr 25 26, zr 4 26] (znew (zsR M1 4 26 0 (24, 26)) 25 26) = _
  generalize hM2 : znew (zsR M1 4 26 0 (24, 26)) 25 26 = M2
  have hn2 : znx M2 = 237 := by rw [← hM2]; exact congrArg (· + 1) hn1
  clear hn1
  refine (B20_17 d 26 26 25 26 M2).trans ?_
  have hz : znx (zsR M2 4 26 1 (25, 26)) = 237 := hn2
  rw [hz]
  clear hz
  show zgo true d 20 25 [zr 4 26] [zr 26 26, zr 4 26] (znew (zsR M2 4 26 1 (25, 26)) 26 26) = _
  generalize hM3 : znew (zsR M2 4 26 1 (25, 26)) 26 26 = M3
  have hn3 : znx M3 = 238 := by rw [← hM3]; exact congrArg (· + 1) hn2
  clear hn2
  refine (B20_25 d 26 26 26 26 M3).trans ?_
  show zgo true d 20 28 [zr 4 26] [] (zsR M3 4 26 2 (26, 26)) = _
  generalize hM4 : zsR M3 4 26 2 (26, 26) = M4
  have hn4 : znx M4 = 238 := by rw [← hM4]; exact hn3
  clear hn3
  refine (B20_28 d 26 M4).trans ?_
  have hz : znx M4 = 238 := hn4
  rw [hz]
  clear hz
  show zgo true d 20 33 [zr 4 26] [zr 27 26, zr 4 26] (znew M4 27 26) = _
  generalize hM5 : znew M4 27 26 = M5
  have hn5 : znx M5 = 239 := by rw [← hM5]; exact congrArg (· + 1) hn4
  clear hn4
  refine (B20_33 d 26 26 27 26 M5).trans ?_
  have hz : znx (zsR M5 4 26 3 (27, 26)) = 239 := hn5
  rw [hz]
  clear hz
  show zgo true d 20 41 [zr 4 26] [zr 28 26, zr 4 26] (znew (zsR M5 4 26 3 (27, 26)) 28 26) = _
  generalize hM6 : znew (zsR M5 4 26 3 (27, 26)) 28 26 = M6
  have hn6 : znx M6 = 240 := by rw [← hM6]; exact congrArg (· + 1) hn5
  clear hn5
  refine (B20_41 d 26 26 28 26 M6).trans ?_
  generalize hM7 : zsR M6 4 26 4 (28, 26) = M7
  have hn7 : znx M7 = 240 := by rw [← hM7]; exact hn6
  clear hn6
  subst hM7 hM6 hM5 hM4 hM3 hM2 hM1
  rfl
def N129_121 (M : zM) : zM := zdo D20_26 (N129_120 M)
set_option maxRecDepth 100000 in
theorem T129_131 (d : Nat) (M : zM) (hn : znx M = 1) : zgo true (d + 3) 129 180 [zr 12 0, zi 26] [zr 4 26, zi 26, zr 51 0] (N129_120 M) = zgo true (d + 3) 129 184 [zr 12 0, zi 26] [zr 4 26, zi 26, zr 51 0] (N129_121 M) := by
  have hX : znx (N129_120 M) = 235 := H129_120 M hn
  have hf0 : zgR (N129_120 M) 12 0 4 = (50, 0) := G129_120_0 M
  have hf1 : zgR (N129_120 M) 12 0 5 = (51, 0) := G129_120_1 M
  have hf2 : zgR (N129_120 M) 12 0 7 = (53, 0) := G129_120_2 M
  generalize hN : N129_120 M = X at hX hf0 hf1 hf2 ⊢
  refine (B129_180 (d + 2) 26 26 26 X).trans ?_
  show Option.bind (zgo true (d + 2) 20 0 [zr 4 26] [] (X)) _ = _
  refine zbind_of (C20_26 (d + 2) _ hX) ?_
  show zgo true (d + 3) 129 184 [zr 12 0, zi 26] [zr 4 26, zi 26, zr 51 0] (zdo D20_26 (X)) = _
  subst hN
  rfl
theorem H129_121 (M : zM) (hn : znx M = 1) : znx (N129_121 M) = 240 := by
  show znx (zdo D20_26 (N129_120 M)) = _
  rw [zdo_nx, H129_120 M hn]
  rfl
set_option maxRecDepth 100000 in
theorem G129_121_0 (M : zM) : zgR (N129_121 M) 12 0 4 = (50, 0) := by
  show zgR (zdo D20_26 (N129_120 M)) 12 0 4 = _
  rw [zdo_R _ _ (by decide), G129_120_0 M]
set_option maxRecDepth 100000 in
theorem G129_121_1 (M : zM) : zgR (N129_121 M) 12 0 5 = (51, 0) := by
  show zgR (zdo D20_26 (N129_120 M)) 12 0 5 = _
  rw [zdo_R _ _ (by decide), G129_120_1 M]
set_option maxRecDepth 100000 in
theorem G129_121_2 (M : zM) : zgR (N129_121 M) 12 0 7 = (53, 0) := by
  show zgR (zdo D20_26 (N129_120 M)) 12 0 7 = _
  rw [zdo_R _ _ (by decide), G129_120_2 M]
def N129_122 (M : zM) : zM := zdo [(1, 51, 0, 26, (4, 26), 0)] (N129_121 M)
set_option maxRecDepth 100000 in
theorem T129_132 (d : Nat) (M : zM) (hn : znx M = 1) : zgo true (d + 3) 129 184 [zr 12 0, zi 26] [zr 4 26, zi 26, zr 51 0] (N129_121 M) = zgo true (d + 3) 129 163 [zr 12 0, zi 27] [] (N129_122 M) := by
  have hX : znx (N129_121 M) = 240 := H129_121 M hn
  have hf0 : zgR (N129_121 M) 12 0 4 = (50, 0) := G129_121_0 M
  have hf1 : zgR (N129_121 M) 12 0 5 = (51, 0) := G129_121_1 M
  have hf2 : zgR (N129_121 M) 12 0 7 = (53, 0) := G129_121_2 M
  generalize hN : N129_121 M = X at hX hf0 hf1 hf2 ⊢
  refine (B129_184 (d + 3) 26 26 26 X).trans ?_
  show zgo true (d + 3) 129 163 [zr 12 0, zi 27] [] (zsR X 51 0 ((26 : Int32).toNatClampNeg) (4, 26)) = _
  rw [show zsR X 51 0 ((26 : Int32).toNatClampNeg) (4, 26) = zdo [(1, 51, 0, 26, (4, 26), 0)] X from rfl]
  subst hN
  rfl
theorem H129_122 (M : zM) (hn : znx M = 1) : znx (N129_122 M) = 240 := by
  show znx (zdo [(1, 51, 0, 26, (4, 26), 0)] (N129_121 M)) = _
  rw [zdo_nx, H129_121 M hn]
  rfl
set_option maxRecDepth 100000 in
theorem G129_122_0 (M : zM) : zgR (N129_122 M) 12 0 4 = (50, 0) := by
  show zgR (zdo [(1, 51, 0, 26, (4, 26), 0)] (N129_121 M)) 12 0 4 = _
  rw [zdo_R _ _ (by decide), G129_121_0 M]
set_option maxRecDepth 100000 in
theorem G129_122_1 (M : zM) : zgR (N129_122 M) 12 0 5 = (51, 0) := by
  show zgR (zdo [(1, 51, 0, 26, (4, 26), 0)] (N129_121 M)) 12 0 5 = _
  rw [zdo_R _ _ (by decide), G129_121_1 M]
set_option maxRecDepth 100000 in
theorem G129_122_2 (M : zM) : zgR (N129_122 M) 12 0 7 = (53, 0) := by
  show zgR (zdo [(1, 51, 0, 26, (4, 26), 0)] (N129_121 M)) 12 0 7 = _
  rw [zdo_R _ _ (by decide), G129_121_2 M]
def N129_123 (M : zM) : zM := zdo [(0, 4, 27, 0, (0, 0), 0)] (N129_122 M)
set_option maxRecDepth 100000 in
theorem T129_133 (d : Nat) (M : zM) (hn : znx M = 1) : zgo true (d + 3) 129 163 [zr 12 0, zi 27] [] (N129_122 M) = zgo true (d + 3) 129 180 [zr 12 0, zi 27] [zr 4 27, zi 27, zr 51 0] (N129_123 M) := by
  have hX : znx (N129_122 M) = 240 := H129_122 M hn
  have hf0 : zgR (N129_122 M) 12 0 4 = (50, 0) := G129_122_0 M
  have hf1 : zgR (N129_122 M) 12 0 5 = (51, 0) := G129_122_1 M
  have hf2 : zgR (N129_122 M) 12 0 7 = (53, 0) := G129_122_2 M
  generalize hN : N129_122 M = X at hX hf0 hf1 hf2 ⊢
  refine (B129_163 (d + 3) 27 X).trans ?_
  rw [show zgR (X) 12 0 5 = (51, 0) from hf1]
  have hz : znx X = 240 := hX
  rw [hz]
  clear hz
  show zgo true (d + 3) 129 180 [zr 12 0, zi 27] [zr 4 27, zi 27, zr 51 0] (znew X 4 27) = _
  rw [show znew X 4 27 = zdo [(0, 4, 27, 0, (0, 0), 0)] X from rfl]
  subst hN
  rfl
theorem H129_123 (M : zM) (hn : znx M = 1) : znx (N129_123 M) = 241 := by
  show znx (zdo [(0, 4, 27, 0, (0, 0), 0)] (N129_122 M)) = _
  rw [zdo_nx, H129_122 M hn]
  rfl
set_option maxRecDepth 100000 in
theorem G129_123_0 (M : zM) : zgR (N129_123 M) 12 0 4 = (50, 0) := by
  show zgR (zdo [(0, 4, 27, 0, (0, 0), 0)] (N129_122 M)) 12 0 4 = _
  rw [zdo_R _ _ (by decide), G129_122_0 M]
set_option maxRecDepth 100000 in
theorem G129_123_1 (M : zM) : zgR (N129_123 M) 12 0 5 = (51, 0) := by
  show zgR (zdo [(0, 4, 27, 0, (0, 0), 0)] (N129_122 M)) 12 0 5 = _
  rw [zdo_R _ _ (by decide), G129_122_1 M]
set_option maxRecDepth 100000 in
theorem G129_123_2 (M : zM) : zgR (N129_123 M) 12 0 7 = (53, 0) := by
  show zgR (zdo [(0, 4, 27, 0, (0, 0), 0)] (N129_122 M)) 12 0 7 = _
  rw [zdo_R _ _ (by decide), G129_122_2 M]
def D20_27 : List zOp := [(0, 24, 27, 0, (0, 0), 0), (1, 4, 27, 0, (24, 27), 0), (0, 25, 27, 0, (0, 0), 0), (1, 4, 27, 1, (25, 27), 0), (0, 26, 27, 0, (0, 0), 0), (1, 4, 27, 2, (26, 27), 0), (0, 27, 27, 0, (0, 0), 0), (1, 4, 27, 3, (27, 27), 0), (0, 28, 27, 0, (0, 0), 0), (1, 4, 27, 4, (28, 27), 0)]
set_option maxRecDepth 100000 in
set_option maxHeartbeats 4000000 in
theorem C20_27 (d : Nat) (M : zM) (hn : znx M = 241) : zgo true d 20 0 [zr 4 27] [] M = some (none, zdo D20_27 M) := by
  refine (B20_0 d 27 M).trans ?_
  have hz : znx M = 241 := hn
  rw [hz]
  clear hz
  show zgo true d 20 9 [zr 4 27] [zr 24 27, zr 4 27] (znew M 24 27) = _
  generalize hM1 : znew M 24 27 = M1
  have hn1 : znx M1 = 242 := by rw [← hM1]; exact congrArg (· + 1) hn
  refine (B20_9 d 27 27 24 27 M1).trans ?_
  have hz : znx (zsR M1 4 27 0 (24, 27)) = 242 := hn1
  rw [hz]
  clear hz
  show zgo true d 20 17 [zr 4 27] [zr 25 27, zr 4 27] (znew (zsR M1 4 27 0 (24, 27)) 25 27) = _
  generalize hM2 : znew (zsR M1 4 27 0 (24, 27)) 25 27 = M2
  have hn2 : znx M2 = 243 := by rw [← hM2]; exact congrArg (· + 1) hn1
  clear hn1
  refine (B20_17 d 27 27 25 27 M2).trans ?_
  have hz : znx (zsR M2 4 27 1 (25, 27)) = 243 := hn2
  rw [hz]
  clear hz
  show zgo true d 20 25 [zr 4 27] [zr 26 27, zr 4 27] (znew (zsR M2 4 27 1 (25, 27)) 26 27) = _
  generalize hM3 : znew (zsR M2 4 27 1 (25, 27)) 26 27 = M3
  have hn3 : znx M3 = 244 := by rw [← hM3]; exact congrArg (· + 1) hn2
  clear hn2
  refine (B20_25 d 27 27 26 27 M3).trans ?_
  show zgo true d 20 28 [zr 4 27] [] (zsR M3 4 27 2 (26, 27)) = _
  generalize hM4 : zsR M3 4 27 2 (26, 27) = M4
  have hn4 : znx M4 = 244 := by rw [← hM4]; exact hn3
  clear hn3
  refine (B20_28 d 27 M4).trans ?_
  have hz : znx M4 = 244 := hn4
  rw [hz]
  clear hz
  show zgo true d 20 33 [zr 4 27] [zr 27 27, zr 4 27] (znew M4 27 27) = _
  generalize hM5 : znew M4 27 27 = M5
  have hn5 : znx M5 = 245 := by rw [← hM5]; exact congrArg (· + 1) hn4
  clear hn4
  refine (B20_33 d 27 27 27 27 M5).trans ?_
  have hz : znx (zsR M5 4 27 3 (27, 27)) = 245 := hn5
  rw [hz]
  clear hz
  show zgo true d 20 41 [zr 4 27] [zr 28 27, zr 4 27] (znew (zsR M5 4 27 3 (27, 27)) 28 27) = _
  generalize hM6 : znew (zsR M5 4 27 3 (27, 27)) 28 27 = M6
  have hn6 : znx M6 = 246 := by rw [← hM6]; exact congrArg (· + 1) hn5
  clear hn5
  refine (B20_41 d 27 27 28 27 M6).trans ?_
  generalize hM7 : zsR M6 4 27 4 (28, 27) = M7
  have hn7 : znx M7 = 246 := by rw [← hM7]; exact hn6
  clear hn6
  subst hM7 hM6 hM5 hM4 hM3 hM2 hM1
  rfl
def N129_124 (M : zM) : zM := zdo D20_27 (N129_123 M)
set_option maxRecDepth 100000 in
theorem T129_134 (d : Nat) (M : zM) (hn : znx M = 1) : zgo true (d + 3) 129 180 [zr 12 0, zi 27] [zr 4 27, zi 27, zr 51 0] (N129_123 M) = zgo true (d + 3) 129 184 [zr 12 0, zi 27] [zr 4 27, zi 27, zr 51 0] (N129_124 M) := by
  have hX : znx (N129_123 M) = 241 := H129_123 M hn
  have hf0 : zgR (N129_123 M) 12 0 4 = (50, 0) := G129_123_0 M
  have hf1 : zgR (N129_123 M) 12 0 5 = (51, 0) := G129_123_1 M
  have hf2 : zgR (N129_123 M) 12 0 7 = (53, 0) := G129_123_2 M
  generalize hN : N129_123 M = X at hX hf0 hf1 hf2 ⊢
  refine (B129_180 (d + 2) 27 27 27 X).trans ?_
  show Option.bind (zgo true (d + 2) 20 0 [zr 4 27] [] (X)) _ = _
  refine zbind_of (C20_27 (d + 2) _ hX) ?_
  show zgo true (d + 3) 129 184 [zr 12 0, zi 27] [zr 4 27, zi 27, zr 51 0] (zdo D20_27 (X)) = _
  subst hN
  rfl
theorem H129_124 (M : zM) (hn : znx M = 1) : znx (N129_124 M) = 246 := by
  show znx (zdo D20_27 (N129_123 M)) = _
  rw [zdo_nx, H129_123 M hn]
  rfl
set_option maxRecDepth 100000 in
theorem G129_124_0 (M : zM) : zgR (N129_124 M) 12 0 4 = (50, 0) := by
  show zgR (zdo D20_27 (N129_123 M)) 12 0 4 = _
  rw [zdo_R _ _ (by decide), G129_123_0 M]
set_option maxRecDepth 100000 in
theorem G129_124_1 (M : zM) : zgR (N129_124 M) 12 0 5 = (51, 0) := by
  show zgR (zdo D20_27 (N129_123 M)) 12 0 5 = _
  rw [zdo_R _ _ (by decide), G129_123_1 M]
set_option maxRecDepth 100000 in
theorem G129_124_2 (M : zM) : zgR (N129_124 M) 12 0 7 = (53, 0) := by
  show zgR (zdo D20_27 (N129_123 M)) 12 0 7 = _
  rw [zdo_R _ _ (by decide), G129_123_2 M]
def N129_125 (M : zM) : zM := zdo [(1, 51, 0, 27, (4, 27), 0)] (N129_124 M)
set_option maxRecDepth 100000 in
theorem T129_135 (d : Nat) (M : zM) (hn : znx M = 1) : zgo true (d + 3) 129 184 [zr 12 0, zi 27] [zr 4 27, zi 27, zr 51 0] (N129_124 M) = zgo true (d + 3) 129 163 [zr 12 0, zi 28] [] (N129_125 M) := by
  have hX : znx (N129_124 M) = 246 := H129_124 M hn
  have hf0 : zgR (N129_124 M) 12 0 4 = (50, 0) := G129_124_0 M
  have hf1 : zgR (N129_124 M) 12 0 5 = (51, 0) := G129_124_1 M
  have hf2 : zgR (N129_124 M) 12 0 7 = (53, 0) := G129_124_2 M
  generalize hN : N129_124 M = X at hX hf0 hf1 hf2 ⊢
  refine (B129_184 (d + 3) 27 27 27 X).trans ?_
  show zgo true (d + 3) 129 163 [zr 12 0, zi 28] [] (zsR X 51 0 ((27 : Int32).toNatClampNeg) (4, 27)) = _
  rw [show zsR X 51 0 ((27 : Int32).toNatClampNeg) (4, 27) = zdo [(1, 51, 0, 27, (4, 27), 0)] X from rfl]
  subst hN
  rfl
theorem H129_125 (M : zM) (hn : znx M = 1) : znx (N129_125 M) = 246 := by
  show znx (zdo [(1, 51, 0, 27, (4, 27), 0)] (N129_124 M)) = _
  rw [zdo_nx, H129_124 M hn]
  rfl
set_option maxRecDepth 100000 in
theorem G129_125_0 (M : zM) : zgR (N129_125 M) 12 0 4 = (50, 0) := by
  show zgR (zdo [(1, 51, 0, 27, (4, 27), 0)] (N129_124 M)) 12 0 4 = _
  rw [zdo_R _ _ (by decide), G129_124_0 M]
set_option maxRecDepth 100000 in
theorem G129_125_1 (M : zM) : zgR (N129_125 M) 12 0 5 = (51, 0) := by
  show zgR (zdo [(1, 51, 0, 27, (4, 27), 0)] (N129_124 M)) 12 0 5 = _
  rw [zdo_R _ _ (by decide), G129_124_1 M]
set_option maxRecDepth 100000 in
theorem G129_125_2 (M : zM) : zgR (N129_125 M) 12 0 7 = (53, 0) := by
  show zgR (zdo [(1, 51, 0, 27, (4, 27), 0)] (N129_124 M)) 12 0 7 = _
  rw [zdo_R _ _ (by decide), G129_124_2 M]
def N129_126 (M : zM) : zM := zdo [(0, 4, 28, 0, (0, 0), 0)] (N129_125 M)
set_option maxRecDepth 100000 in
theorem T129_136 (d : Nat) (M : zM) (hn : znx M = 1) : zgo true (d + 3) 129 163 [zr 12 0, zi 28] [] (N129_125 M) = zgo true (d + 3) 129 180 [zr 12 0, zi 28] [zr 4 28, zi 28, zr 51 0] (N129_126 M) := by
  have hX : znx (N129_125 M) = 246 := H129_125 M hn
  have hf0 : zgR (N129_125 M) 12 0 4 = (50, 0) := G129_125_0 M
  have hf1 : zgR (N129_125 M) 12 0 5 = (51, 0) := G129_125_1 M
  have hf2 : zgR (N129_125 M) 12 0 7 = (53, 0) := G129_125_2 M
  generalize hN : N129_125 M = X at hX hf0 hf1 hf2 ⊢
  refine (B129_163 (d + 3) 28 X).trans ?_
  rw [show zgR (X) 12 0 5 = (51, 0) from hf1]
  have hz : znx X = 246 := hX
  rw [hz]
  clear hz
  show zgo true (d + 3) 129 180 [zr 12 0, zi 28] [zr 4 28, zi 28, zr 51 0] (znew X 4 28) = _
  rw [show znew X 4 28 = zdo [(0, 4, 28, 0, (0, 0), 0)] X from rfl]
  subst hN
  rfl
theorem H129_126 (M : zM) (hn : znx M = 1) : znx (N129_126 M) = 247 := by
  show znx (zdo [(0, 4, 28, 0, (0, 0), 0)] (N129_125 M)) = _
  rw [zdo_nx, H129_125 M hn]
  rfl
set_option maxRecDepth 100000 in
theorem G129_126_0 (M : zM) : zgR (N129_126 M) 12 0 4 = (50, 0) := by
  show zgR (zdo [(0, 4, 28, 0, (0, 0), 0)] (N129_125 M)) 12 0 4 = _
  rw [zdo_R _ _ (by decide), G129_125_0 M]
set_option maxRecDepth 100000 in
theorem G129_126_1 (M : zM) : zgR (N129_126 M) 12 0 5 = (51, 0) := by
  show zgR (zdo [(0, 4, 28, 0, (0, 0), 0)] (N129_125 M)) 12 0 5 = _
  rw [zdo_R _ _ (by decide), G129_125_1 M]
set_option maxRecDepth 100000 in
theorem G129_126_2 (M : zM) : zgR (N129_126 M) 12 0 7 = (53, 0) := by
  show zgR (zdo [(0, 4, 28, 0, (0, 0), 0)] (N129_125 M)) 12 0 7 = _
  rw [zdo_R _ _ (by decide), G129_125_2 M]
def D20_28 : List zOp := [(0, 24, 28, 0, (0, 0), 0), (1, 4, 28, 0, (24, 28), 0), (0, 25, 28, 0, (0, 0), 0), (1, 4, 28, 1, (25, 28), 0), (0, 26, 28, 0, (0, 0), 0), (1, 4, 28, 2, (26, 28), 0), (0, 27, 28, 0, (0, 0), 0), (1, 4, 28, 3, (27, 28), 0), (0, 28, 28, 0, (0, 0), 0), (1, 4, 28, 4, (28, 28), 0)]
set_option maxRecDepth 100000 in
set_option maxHeartbeats 4000000 in
theorem C20_28 (d : Nat) (M : zM) (hn : znx M = 247) : zgo true d 20 0 [zr 4 28] [] M = some (none, zdo D20_28 M) := by
  refine (B20_0 d 28 M).trans ?_
  have hz : znx M = 247 := hn
  rw [hz]
  clear hz
  show zgo true d 20 9 [zr 4 28] [zr 24 28, zr 4 28] (znew M 24 28) = _
  generalize hM1 : znew M 24 28 = M1
  have hn1 : znx M1 = 248 := by rw [← hM1]; exact congrArg (· + 1) hn
  refine (B20_9 d 28 28 24 28 M1).trans ?_
  have hz : znx (zsR M1 4 28 0 (24, 28)) = 248 := hn1
  rw [hz]
  clear hz
  show zgo true d 20 17 [zr 4 28] [zr 25 28, zr 4 28] (znew (zsR M1 4 28 0 (24, 28)) 25 28) = _
  generalize hM2 : znew (zsR M1 4 28 0 (24, 28)) 25 28 = M2
  have hn2 : znx M2 = 249 := by rw [← hM2]; exact congrArg (· + 1) hn1
  clear hn1
  refine (B20_17 d 28 28 25 28 M2).trans ?_
  have hz : znx (zsR M2 4 28 1 (25, 28)) = 249 := hn2
  rw [hz]
  clear hz
  show zgo true d 20 25 [zr 4 28] [zr 26 28, zr 4 28] (znew (zsR M2 4 28 1 (25, 28)) 26 28) = _
  generalize hM3 : znew (zsR M2 4 28 1 (25, 28)) 26 28 = M3
  have hn3 : znx M3 = 250 := by rw [← hM3]; exact congrArg (· + 1) hn2
  clear hn2
  refine (B20_25 d 28 28 26 28 M3).trans ?_
  show zgo true d 20 28 [zr 4 28] [] (zsR M3 4 28 2 (26, 28)) = _
  generalize hM4 : zsR M3 4 28 2 (26, 28) = M4
  have hn4 : znx M4 = 250 := by rw [← hM4]; exact hn3
  clear hn3
  refine (B20_28 d 28 M4).trans ?_
  have hz : znx M4 = 250 := hn4
  rw [hz]
  clear hz
  show zgo true d 20 33 [zr 4 28] [zr 27 28, zr 4 28] (znew M4 27 28) = _
  generalize hM5 : znew M4 27 28 = M5
  have hn5 : znx M5 = 251 := by rw [← hM5]; exact congrArg (· + 1) hn4
  clear hn4
  refine (B20_33 d 28 28 27 28 M5).trans ?_
  have hz : znx (zsR M5 4 28 3 (27, 28)) = 251 := hn5
  rw [hz]
  clear hz
  show zgo true d 20 41 [zr 4 28] [zr 28 28, zr 4 28] (znew (zsR M5 4 28 3 (27, 28)) 28 28) = _
  generalize hM6 : znew (zsR M5 4 28 3 (27, 28)) 28 28 = M6
  have hn6 : znx M6 = 252 := by rw [← hM6]; exact congrArg (· + 1) hn5
  clear hn5
  refine (B20_41 d 28 28 28 28 M6).trans ?_
  generalize hM7 : zsR M6 4 28 4 (28, 28) = M7
  have hn7 : znx M7 = 252 := by rw [← hM7]; exact hn6
  clear hn6
  subst hM7 hM6 hM5 hM4 hM3 hM2 hM1
  rfl
def N129_127 (M : zM) : zM := zdo D20_28 (N129_126 M)
set_option maxRecDepth 100000 in
theorem T129_137 (d : Nat) (M : zM) (hn : znx M = 1) : zgo true (d + 3) 129 180 [zr 12 0, zi 28] [zr 4 28, zi 28, zr 51 0] (N129_126 M) = zgo true (d + 3) 129 184 [zr 12 0, zi 28] [zr 4 28, zi 28, zr 51 0] (N129_127 M) := by
  have hX : znx (N129_126 M) = 247 := H129_126 M hn
  have hf0 : zgR (N129_126 M) 12 0 4 = (50, 0) := G129_126_0 M
  have hf1 : zgR (N129_126 M) 12 0 5 = (51, 0) := G129_126_1 M
  have hf2 : zgR (N129_126 M) 12 0 7 = (53, 0) := G129_126_2 M
  generalize hN : N129_126 M = X at hX hf0 hf1 hf2 ⊢
  refine (B129_180 (d + 2) 28 28 28 X).trans ?_
  show Option.bind (zgo true (d + 2) 20 0 [zr 4 28] [] (X)) _ = _
  refine zbind_of (C20_28 (d + 2) _ hX) ?_
  show zgo true (d + 3) 129 184 [zr 12 0, zi 28] [zr 4 28, zi 28, zr 51 0] (zdo D20_28 (X)) = _
  subst hN
  rfl
theorem H129_127 (M : zM) (hn : znx M = 1) : znx (N129_127 M) = 252 := by
  show znx (zdo D20_28 (N129_126 M)) = _
  rw [zdo_nx, H129_126 M hn]
  rfl
set_option maxRecDepth 100000 in
theorem G129_127_0 (M : zM) : zgR (N129_127 M) 12 0 4 = (50, 0) := by
  show zgR (zdo D20_28 (N129_126 M)) 12 0 4 = _
  rw [zdo_R _ _ (by decide), G129_126_0 M]
set_option maxRecDepth 100000 in
theorem G129_127_1 (M : zM) : zgR (N129_127 M) 12 0 5 = (51, 0) := by
  show zgR (zdo D20_28 (N129_126 M)) 12 0 5 = _
  rw [zdo_R _ _ (by decide), G129_126_1 M]
set_option maxRecDepth 100000 in
theorem G129_127_2 (M : zM) : zgR (N129_127 M) 12 0 7 = (53, 0) := by
  show zgR (zdo D20_28 (N129_126 M)) 12 0 7 = _
  rw [zdo_R _ _ (by decide), G129_126_2 M]
def N129_128 (M : zM) : zM := zdo [(1, 51, 0, 28, (4, 28), 0)] (N129_127 M)
set_option maxRecDepth 100000 in
theorem T129_138 (d : Nat) (M : zM) (hn : znx M = 1) : zgo true (d + 3) 129 184 [zr 12 0, zi 28] [zr 4 28, zi 28, zr 51 0] (N129_127 M) = zgo true (d + 3) 129 163 [zr 12 0, zi 29] [] (N129_128 M) := by
  have hX : znx (N129_127 M) = 252 := H129_127 M hn
  have hf0 : zgR (N129_127 M) 12 0 4 = (50, 0) := G129_127_0 M
  have hf1 : zgR (N129_127 M) 12 0 5 = (51, 0) := G129_127_1 M
  have hf2 : zgR (N129_127 M) 12 0 7 = (53, 0) := G129_127_2 M
  generalize hN : N129_127 M = X at hX hf0 hf1 hf2 ⊢
  refine (B129_184 (d + 3) 28 28 28 X).trans ?_
  show zgo true (d + 3) 129 163 [zr 12 0, zi 29] [] (zsR X 51 0 ((28 : Int32).toNatClampNeg) (4, 28)) = _
  rw [show zsR X 51 0 ((28 : Int32).toNatClampNeg) (4, 28) = zdo [(1, 51, 0, 28, (4, 28), 0)] X from rfl]
  subst hN
  rfl
theorem H129_128 (M : zM) (hn : znx M = 1) : znx (N129_128 M) = 252 := by
  show znx (zdo [(1, 51, 0, 28, (4, 28), 0)] (N129_127 M)) = _
  rw [zdo_nx, H129_127 M hn]
  rfl
set_option maxRecDepth 100000 in
theorem G129_128_0 (M : zM) : zgR (N129_128 M) 12 0 4 = (50, 0) := by
  show zgR (zdo [(1, 51, 0, 28, (4, 28), 0)] (N129_127 M)) 12 0 4 = _
  rw [zdo_R _ _ (by decide), G129_127_0 M]
set_option maxRecDepth 100000 in
theorem G129_128_1 (M : zM) : zgR (N129_128 M) 12 0 5 = (51, 0) := by
  show zgR (zdo [(1, 51, 0, 28, (4, 28), 0)] (N129_127 M)) 12 0 5 = _
  rw [zdo_R _ _ (by decide), G129_127_1 M]
set_option maxRecDepth 100000 in
theorem G129_128_2 (M : zM) : zgR (N129_128 M) 12 0 7 = (53, 0) := by
  show zgR (zdo [(1, 51, 0, 28, (4, 28), 0)] (N129_127 M)) 12 0 7 = _
  rw [zdo_R _ _ (by decide), G129_127_2 M]
def N129_129 (M : zM) : zM := zdo [(0, 4, 29, 0, (0, 0), 0)] (N129_128 M)
set_option maxRecDepth 100000 in
theorem T129_139 (d : Nat) (M : zM) (hn : znx M = 1) : zgo true (d + 3) 129 163 [zr 12 0, zi 29] [] (N129_128 M) = zgo true (d + 3) 129 180 [zr 12 0, zi 29] [zr 4 29, zi 29, zr 51 0] (N129_129 M) := by
  have hX : znx (N129_128 M) = 252 := H129_128 M hn
  have hf0 : zgR (N129_128 M) 12 0 4 = (50, 0) := G129_128_0 M
  have hf1 : zgR (N129_128 M) 12 0 5 = (51, 0) := G129_128_1 M
  have hf2 : zgR (N129_128 M) 12 0 7 = (53, 0) := G129_128_2 M
  generalize hN : N129_128 M = X at hX hf0 hf1 hf2 ⊢
  refine (B129_163 (d + 3) 29 X).trans ?_
  rw [show zgR (X) 12 0 5 = (51, 0) from hf1]
  have hz : znx X = 252 := hX
  rw [hz]
  clear hz
  show zgo true (d + 3) 129 180 [zr 12 0, zi 29] [zr 4 29, zi 29, zr 51 0] (znew X 4 29) = _
  rw [show znew X 4 29 = zdo [(0, 4, 29, 0, (0, 0), 0)] X from rfl]
  subst hN
  rfl
theorem H129_129 (M : zM) (hn : znx M = 1) : znx (N129_129 M) = 253 := by
  show znx (zdo [(0, 4, 29, 0, (0, 0), 0)] (N129_128 M)) = _
  rw [zdo_nx, H129_128 M hn]
  rfl
set_option maxRecDepth 100000 in
theorem G129_129_0 (M : zM) : zgR (N129_129 M) 12 0 4 = (50, 0) := by
  show zgR (zdo [(0, 4, 29, 0, (0, 0), 0)] (N129_128 M)) 12 0 4 = _
  rw [zdo_R _ _ (by decide), G129_128_0 M]
set_option maxRecDepth 100000 in
theorem G129_129_1 (M : zM) : zgR (N129_129 M) 12 0 5 = (51, 0) := by
  show zgR (zdo [(0, 4, 29, 0, (0, 0), 0)] (N129_128 M)) 12 0 5 = _
  rw [zdo_R _ _ (by decide), G129_128_1 M]
set_option maxRecDepth 100000 in
theorem G129_129_2 (M : zM) : zgR (N129_129 M) 12 0 7 = (53, 0) := by
  show zgR (zdo [(0, 4, 29, 0, (0, 0), 0)] (N129_128 M)) 12 0 7 = _
  rw [zdo_R _ _ (by decide), G129_128_2 M]
def D20_29 : List zOp := [(0, 24, 29, 0, (0, 0), 0), (1, 4, 29, 0, (24, 29), 0), (0, 25, 29, 0, (0, 0), 0), (1, 4, 29, 1, (25, 29), 0), (0, 26, 29, 0, (0, 0), 0), (1, 4, 29, 2, (26, 29), 0), (0, 27, 29, 0, (0, 0), 0), (1, 4, 29, 3, (27, 29), 0), (0, 28, 29, 0, (0, 0), 0), (1, 4, 29, 4, (28, 29), 0)]
set_option maxRecDepth 100000 in
set_option maxHeartbeats 4000000 in
theorem C20_29 (d : Nat) (M : zM) (hn : znx M = 253) : zgo true d 20 0 [zr 4 29] [] M = some (none, zdo D20_29 M) := by
  refine (B20_0 d 29 M).trans ?_
  have hz : znx M = 253 := hn
  rw [hz]
  clear hz
  show zgo true d 20 9 [zr 4 29] [zr 24 29, zr 4 29] (znew M 24 29) = _
  generalize hM1 : znew M 24 29 = M1
  have hn1 : znx M1 = 254 := by rw [← hM1]; exact congrArg (· + 1) hn
  refine (B20_9 d 29 29 24 29 M1).trans ?_
  have hz : znx (zsR M1 4 29 0 (24, 29)) = 254 := hn1
  rw [hz]
  clear hz
  show zgo true d 20 17 [zr 4 29] [zr 25 29, zr 4 29] (znew (zsR M1 4 29 0 (24, 29)) 25 29) = _
  generalize hM2 : znew (zsR M1 4 29 0 (24, 29)) 25 29 = M2
  have hn2 : znx M2 = 255 := by rw [← hM2]; exact congrArg (· + 1) hn1
  clear hn1
  refine (B20_17 d 29 29 25 29 M2).trans ?_
  have hz : znx (zsR M2 4 29 1 (25, 29)) = 255 := hn2
  rw [hz]
  clear hz
  show zgo true d 20 25 [zr 4 29] [zr 26 29, zr 4 29] (znew (zsR M2 4 29 1 (25, 29)) 26 29) = _
  generalize hM3 : znew (zsR M2 4 29 1 (25, 29)) 26 29 = M3
  have hn3 : znx M3 = 256 := by rw [← hM3]; exact congrArg (· + 1) hn2
  clear hn2
  refine (B20_25 d 29 29 26 29 M3).trans ?_
  show zgo true d 20 28 [zr 4 29] [] (zsR M3 4 29 2 (26, 29)) = _
  generalize hM4 : zsR M3 4 29 2 (26, 29) = M4
  have hn4 : znx M4 = 256 := by rw [← hM4]; exact hn3
  clear hn3
  refine (B20_28 d 29 M4).trans ?_
  have hz : znx M4 = 256 := hn4
  rw [hz]
  clear hz
  show zgo true d 20 33 [zr 4 29] [zr 27 29, zr 4 29] (znew M4 27 29) = _
  generalize hM5 : znew M4 27 29 = M5
  have hn5 : znx M5 = 257 := by rw [← hM5]; exact congrArg (· + 1) hn4
  clear hn4
  refine (B20_33 d 29 29 27 29 M5).trans ?_
  have hz : znx (zsR M5 4 29 3 (27, 29)) = 257 := hn5
  rw [hz]
  clear hz
  show zgo true d 20 41 [zr 4 29] [zr 28 29, zr 4 29] (znew (zsR M5 4 29 3 (27, 29)) 28 29) = _
  generalize hM6 : znew (zsR M5 4 29 3 (27, 29)) 28 29 = M6
  have hn6 : znx M6 = 258 := by rw [← hM6]; exact congrArg (· + 1) hn5
  clear hn5
  refine (B20_41 d 29 29 28 29 M6).trans ?_
  generalize hM7 : zsR M6 4 29 4 (28, 29) = M7
  have hn7 : znx M7 = 258 := by rw [← hM7]; exact hn6
  clear hn6
  subst hM7 hM6 hM5 hM4 hM3 hM2 hM1
  rfl
def N129_130 (M : zM) : zM := zdo D20_29 (N129_129 M)
set_option maxRecDepth 100000 in
theorem T129_140 (d : Nat) (M : zM) (hn : znx M = 1) : zgo true (d + 3) 129 180 [zr 12 0, zi 29] [zr 4 29, zi 29, zr 51 0] (N129_129 M) = zgo true (d + 3) 129 184 [zr 12 0, zi 29] [zr 4 29, zi 29, zr 51 0] (N129_130 M) := by
  have hX : znx (N129_129 M) = 253 := H129_129 M hn
  have hf0 : zgR (N129_129 M) 12 0 4 = (50, 0) := G129_129_0 M
  have hf1 : zgR (N129_129 M) 12 0 5 = (51, 0) := G129_129_1 M
  have hf2 : zgR (N129_129 M) 12 0 7 = (53, 0) := G129_129_2 M
  generalize hN : N129_129 M = X at hX hf0 hf1 hf2 ⊢
  refine (B129_180 (d + 2) 29 29 29 X).trans ?_
  show Option.bind (zgo true (d + 2) 20 0 [zr 4 29] [] (X)) _ = _
  refine zbind_of (C20_29 (d + 2) _ hX) ?_
  show zgo true (d + 3) 129 184 [zr 12 0, zi 29] [zr 4 29, zi 29, zr 51 0] (zdo D20_29 (X)) = _
  subst hN
  rfl
theorem H129_130 (M : zM) (hn : znx M = 1) : znx (N129_130 M) = 258 := by
  show znx (zdo D20_29 (N129_129 M)) = _
  rw [zdo_nx, H129_129 M hn]
  rfl
set_option maxRecDepth 100000 in
theorem G129_130_0 (M : zM) : zgR (N129_130 M) 12 0 4 = (50, 0) := by
  show zgR (zdo D20_29 (N129_129 M)) 12 0 4 = _
  rw [zdo_R _ _ (by decide), G129_129_0 M]
set_option maxRecDepth 100000 in
theorem G129_130_1 (M : zM) : zgR (N129_130 M) 12 0 5 = (51, 0) := by
  show zgR (zdo D20_29 (N129_129 M)) 12 0 5 = _
  rw [zdo_R _ _ (by decide), G129_129_1 M]
set_option maxRecDepth 100000 in
theorem G129_130_2 (M : zM) : zgR (N129_130 M) 12 0 7 = (53, 0) := by
  show zgR (zdo D20_29 (N129_129 M)) 12 0 7 = _
  rw [zdo_R _ _ (by decide), G129_129_2 M]
def N129_131 (M : zM) : zM := zdo [(1, 51, 0, 29, (4, 29), 0)] (N129_130 M)
set_option maxRecDepth 100000 in
theorem T129_141 (d : Nat) (M : zM) (hn : znx M = 1) : zgo true (d + 3) 129 184 [zr 12 0, zi 29] [zr 4 29, zi 29, zr 51 0] (N129_130 M) = zgo true (d + 3) 129 163 [zr 12 0, zi 30] [] (N129_131 M) := by
  have hX : znx (N129_130 M) = 258 := H129_130 M hn
  have hf0 : zgR (N129_130 M) 12 0 4 = (50, 0) := G129_130_0 M
  have hf1 : zgR (N129_130 M) 12 0 5 = (51, 0) := G129_130_1 M
  have hf2 : zgR (N129_130 M) 12 0 7 = (53, 0) := G129_130_2 M
  generalize hN : N129_130 M = X at hX hf0 hf1 hf2 ⊢
  refine (B129_184 (d + 3) 29 29 29 X).trans ?_
  show zgo true (d + 3) 129 163 [zr 12 0, zi 30] [] (zsR X 51 0 ((29 : Int32).toNatClampNeg) (4, 29)) = _
  rw [show zsR X 51 0 ((29 : Int32).toNatClampNeg) (4, 29) = zdo [(1, 51, 0, 29, (4, 29), 0)] X from rfl]
  subst hN
  rfl
theorem H129_131 (M : zM) (hn : znx M = 1) : znx (N129_131 M) = 258 := by
  show znx (zdo [(1, 51, 0, 29, (4, 29), 0)] (N129_130 M)) = _
  rw [zdo_nx, H129_130 M hn]
  rfl
set_option maxRecDepth 100000 in
theorem G129_131_0 (M : zM) : zgR (N129_131 M) 12 0 4 = (50, 0) := by
  show zgR (zdo [(1, 51, 0, 29, (4, 29), 0)] (N129_130 M)) 12 0 4 = _
  rw [zdo_R _ _ (by decide), G129_130_0 M]
set_option maxRecDepth 100000 in
theorem G129_131_1 (M : zM) : zgR (N129_131 M) 12 0 5 = (51, 0) := by
  show zgR (zdo [(1, 51, 0, 29, (4, 29), 0)] (N129_130 M)) 12 0 5 = _
  rw [zdo_R _ _ (by decide), G129_130_1 M]
set_option maxRecDepth 100000 in
theorem G129_131_2 (M : zM) : zgR (N129_131 M) 12 0 7 = (53, 0) := by
  show zgR (zdo [(1, 51, 0, 29, (4, 29), 0)] (N129_130 M)) 12 0 7 = _
  rw [zdo_R _ _ (by decide), G129_130_2 M]
def N129_132 (M : zM) : zM := zdo [(0, 4, 30, 0, (0, 0), 0)] (N129_131 M)
set_option maxRecDepth 100000 in
theorem T129_142 (d : Nat) (M : zM) (hn : znx M = 1) : zgo true (d + 3) 129 163 [zr 12 0, zi 30] [] (N129_131 M) = zgo true (d + 3) 129 180 [zr 12 0, zi 30] [zr 4 30, zi 30, zr 51 0] (N129_132 M) := by
  have hX : znx (N129_131 M) = 258 := H129_131 M hn
  have hf0 : zgR (N129_131 M) 12 0 4 = (50, 0) := G129_131_0 M
  have hf1 : zgR (N129_131 M) 12 0 5 = (51, 0) := G129_131_1 M
  have hf2 : zgR (N129_131 M) 12 0 7 = (53, 0) := G129_131_2 M
  generalize hN : N129_131 M = X at hX hf0 hf1 hf2 ⊢
  refine (B129_163 (d + 3) 30 X).trans ?_
  rw [show zgR (X) 12 0 5 = (51, 0) from hf1]
  have hz : znx X = 258 := hX
  rw [hz]
  clear hz
  show zgo true (d + 3) 129 180 [zr 12 0, zi 30] [zr 4 30, zi 30, zr 51 0] (znew X 4 30) = _
  rw [show znew X 4 30 = zdo [(0, 4, 30, 0, (0, 0), 0)] X from rfl]
  subst hN
  rfl
theorem H129_132 (M : zM) (hn : znx M = 1) : znx (N129_132 M) = 259 := by
  show znx (zdo [(0, 4, 30, 0, (0, 0), 0)] (N129_131 M)) = _
  rw [zdo_nx, H129_131 M hn]
  rfl
set_option maxRecDepth 100000 in
theorem G129_132_0 (M : zM) : zgR (N129_132 M) 12 0 4 = (50, 0) := by
  show zgR (zdo [(0, 4, 30, 0, (0, 0), 0)] (N129_131 M)) 12 0 4 = _
  rw [zdo_R _ _ (by decide), G129_131_0 M]
set_option maxRecDepth 100000 in
theorem G129_132_1 (M : zM) : zgR (N129_132 M) 12 0 5 = (51, 0) := by
  show zgR (zdo [(0, 4, 30, 0, (0, 0), 0)] (N129_131 M)) 12 0 5 = _
  rw [zdo_R _ _ (by decide), G129_131_1 M]
set_option maxRecDepth 100000 in
theorem G129_132_2 (M : zM) : zgR (N129_132 M) 12 0 7 = (53, 0) := by
  show zgR (zdo [(0, 4, 30, 0, (0, 0), 0)] (N129_131 M)) 12 0 7 = _
  rw [zdo_R _ _ (by decide), G129_131_2 M]
def D20_30 : List zOp := [(0, 24, 30, 0, (0, 0), 0), (1, 4, 30, 0, (24, 30), 0), (0, 25, 30, 0, (0, 0), 0), (1, 4, 30, 1, (25, 30), 0), (0, 26, 30, 0, (0, 0), 0), (1, 4, 30, 2, (26, 30), 0), (0, 27, 30, 0, (0, 0), 0), (1, 4, 30, 3, (27, 30), 0), (0, 28, 30, 0, (0, 0), 0), (1, 4, 30, 4, (28, 30), 0)]
set_option maxRecDepth 100000 in
set_option maxHeartbeats 4000000 in
theorem C20_30 (d : Nat) (M : zM) (hn : znx M = 259) : zgo true d 20 0 [zr 4 30] [] M = some (none, zdo D20_30 M) := by
  refine (B20_0 d 30 M).trans ?_
  have hz : znx M = 259 := hn
  rw [hz]
  clear hz
  show zgo true d 20 9 [zr 4 30] [zr 24 30, zr 4 30] (znew M 24 30) = _
  generalize hM1 : znew M 24 30 = M1
  have hn1 : znx M1 = 260 := by rw [← hM1]; exact congrArg (· + 1) hn
  refine (B20_9 d 30 30 24 30 M1).trans ?_
  have hz : znx (zsR M1 4 30 0 (24, 30)) = 260 := hn1
  rw [hz]
  clear hz
  show zgo true d 20 17 [zr 4 30] [zr 25 30, zr 4 30] (znew (zsR M1 4 30 0 (24, 30)) 25 30) = _
  generalize hM2 : znew (zsR M1 4 30 0 (24, 30)) 25 30 = M2
  have hn2 : znx M2 = 261 := by rw [← hM2]; exact congrArg (· + 1) hn1
  clear hn1
  refine (B20_17 d 30 30 25 30 M2).trans ?_
  have hz : znx (zsR M2 4 30 1 (25, 30)) = 261 := hn2
  rw [hz]
  clear hz
  show zgo true d 20 25 [zr 4 30] [zr 26 30, zr 4 30] (znew (zsR M2 4 30 1 (25, 30)) 26 30) = _
  generalize hM3 : znew (zsR M2 4 30 1 (25, 30)) 26 30 = M3
  have hn3 : znx M3 = 262 := by rw [← hM3]; exact congrArg (· + 1) hn2
  clear hn2
  refine (B20_25 d 30 30 26 30 M3).trans ?_
  show zgo true d 20 28 [zr 4 30] [] (zsR M3 4 30 2 (26, 30)) = _
  generalize hM4 : zsR M3 4 30 2 (26, 30) = M4
  have hn4 : znx M4 = 262 := by rw [← hM4]; exact hn3
  clear hn3
  refine (B20_28 d 30 M4).trans ?_
  have hz : znx M4 = 262 := hn4
  rw [hz]
  clear hz
  show zgo true d 20 33 [zr 4 30] [zr 27 30, zr 4 30] (znew M4 27 30) = _
  generalize hM5 : znew M4 27 30 = M5
  have hn5 : znx M5 = 263 := by rw [← hM5]; exact congrArg (· + 1) hn4
  clear hn4
  refine (B20_33 d 30 30 27 30 M5).trans ?_
  have hz : znx (zsR M5 4 30 3 (27, 30)) = 263 := hn5
  rw [hz]
  clear hz
  show zgo true d 20 41 [zr 4 30] [zr 28 30, zr 4 30] (znew (zsR M5 4 30 3 (27, 30)) 28 30) = _
  generalize hM6 : znew (zsR M5 4 30 3 (27, 30)) 28 30 = M6
  have hn6 : znx M6 = 264 := by rw [← hM6]; exact congrArg (· + 1) hn5
  clear hn5
  refine (B20_41 d 30 30 28 30 M6).trans ?_
  generalize hM7 : zsR M6 4 30 4 (28, 30) = M7
  have hn7 : znx M7 = 264 := by rw [← hM7]; exact hn6
  clear hn6
  subst hM7 hM6 hM5 hM4 hM3 hM2 hM1
  rfl
def N129_133 (M : zM) : zM := zdo D20_30 (N129_132 M)
set_option maxRecDepth 100000 in
theorem T129_143 (d : Nat) (M : zM) (hn : znx M = 1) : zgo true (d + 3) 129 180 [zr 12 0, zi 30] [zr 4 30, zi 30, zr 51 0] (N129_132 M) = zgo true (d + 3) 129 184 [zr 12 0, zi 30] [zr 4 30, zi 30, zr 51 0] (N129_133 M) := by
  have hX : znx (N129_132 M) = 259 := H129_132 M hn
  have hf0 : zgR (N129_132 M) 12 0 4 = (50, 0) := G129_132_0 M
  have hf1 : zgR (N129_132 M) 12 0 5 = (51, 0) := G129_132_1 M
  have hf2 : zgR (N129_132 M) 12 0 7 = (53, 0) := G129_132_2 M
  generalize hN : N129_132 M = X at hX hf0 hf1 hf2 ⊢
  refine (B129_180 (d + 2) 30 30 30 X).trans ?_
  show Option.bind (zgo true (d + 2) 20 0 [zr 4 30] [] (X)) _ = _
  refine zbind_of (C20_30 (d + 2) _ hX) ?_
  show zgo true (d + 3) 129 184 [zr 12 0, zi 30] [zr 4 30, zi 30, zr 51 0] (zdo D20_30 (X)) = _
  subst hN
  rfl
theorem H129_133 (M : zM) (hn : znx M = 1) : znx (N129_133 M) = 264 := by
  show znx (zdo D20_30 (N129_132 M)) = _
  rw [zdo_nx, H129_132 M hn]
  rfl
set_option maxRecDepth 100000 in
theorem G129_133_0 (M : zM) : zgR (N129_133 M) 12 0 4 = (50, 0) := by
  show zgR (zdo D20_30 (N129_132 M)) 12 0 4 = _
  rw [zdo_R _ _ (by decide), G129_132_0 M]
set_option maxRecDepth 100000 in
theorem G129_133_1 (M : zM) : zgR (N129_133 M) 12 0 5 = (51, 0) := by
  show zgR (zdo D20_30 (N129_132 M)) 12 0 5 = _
  rw [zdo_R _ _ (by decide), G129_132_1 M]
set_option maxRecDepth 100000 in
theorem G129_133_2 (M : zM) : zgR (N129_133 M) 12 0 7 = (53, 0) := by
  show zgR (zdo D20_30 (N129_132 M)) 12 0 7 = _
  rw [zdo_R _ _ (by decide), G129_132_2 M]
def N129_134 (M : zM) : zM := zdo [(1, 51, 0, 30, (4, 30), 0)] (N129_133 M)
set_option maxRecDepth 100000 in
theorem T129_144 (d : Nat) (M : zM) (hn : znx M = 1) : zgo true (d + 3) 129 184 [zr 12 0, zi 30] [zr 4 30, zi 30, zr 51 0] (N129_133 M) = zgo true (d + 3) 129 163 [zr 12 0, zi 31] [] (N129_134 M) := by
  have hX : znx (N129_133 M) = 264 := H129_133 M hn
  have hf0 : zgR (N129_133 M) 12 0 4 = (50, 0) := G129_133_0 M
  have hf1 : zgR (N129_133 M) 12 0 5 = (51, 0) := G129_133_1 M
  have hf2 : zgR (N129_133 M) 12 0 7 = (53, 0) := G129_133_2 M
  generalize hN : N129_133 M = X at hX hf0 hf1 hf2 ⊢
  refine (B129_184 (d + 3) 30 30 30 X).trans ?_
  show zgo true (d + 3) 129 163 [zr 12 0, zi 31] [] (zsR X 51 0 ((30 : Int32).toNatClampNeg) (4, 30)) = _
  rw [show zsR X 51 0 ((30 : Int32).toNatClampNeg) (4, 30) = zdo [(1, 51, 0, 30, (4, 30), 0)] X from rfl]
  subst hN
  rfl
theorem H129_134 (M : zM) (hn : znx M = 1) : znx (N129_134 M) = 264 := by
  show znx (zdo [(1, 51, 0, 30, (4, 30), 0)] (N129_133 M)) = _
  rw [zdo_nx, H129_133 M hn]
  rfl
set_option maxRecDepth 100000 in
theorem G129_134_0 (M : zM) : zgR (N129_134 M) 12 0 4 = (50, 0) := by
  show zgR (zdo [(1, 51, 0, 30, (4, 30), 0)] (N129_133 M)) 12 0 4 = _
  rw [zdo_R _ _ (by decide), G129_133_0 M]
set_option maxRecDepth 100000 in
theorem G129_134_1 (M : zM) : zgR (N129_134 M) 12 0 5 = (51, 0) := by
  show zgR (zdo [(1, 51, 0, 30, (4, 30), 0)] (N129_133 M)) 12 0 5 = _
  rw [zdo_R _ _ (by decide), G129_133_1 M]
set_option maxRecDepth 100000 in
theorem G129_134_2 (M : zM) : zgR (N129_134 M) 12 0 7 = (53, 0) := by
  show zgR (zdo [(1, 51, 0, 30, (4, 30), 0)] (N129_133 M)) 12 0 7 = _
  rw [zdo_R _ _ (by decide), G129_133_2 M]
def N129_135 (M : zM) : zM := zdo [(0, 4, 31, 0, (0, 0), 0)] (N129_134 M)
set_option maxRecDepth 100000 in
theorem T129_145 (d : Nat) (M : zM) (hn : znx M = 1) : zgo true (d + 3) 129 163 [zr 12 0, zi 31] [] (N129_134 M) = zgo true (d + 3) 129 180 [zr 12 0, zi 31] [zr 4 31, zi 31, zr 51 0] (N129_135 M) := by
  have hX : znx (N129_134 M) = 264 := H129_134 M hn
  have hf0 : zgR (N129_134 M) 12 0 4 = (50, 0) := G129_134_0 M
  have hf1 : zgR (N129_134 M) 12 0 5 = (51, 0) := G129_134_1 M
  have hf2 : zgR (N129_134 M) 12 0 7 = (53, 0) := G129_134_2 M
  generalize hN : N129_134 M = X at hX hf0 hf1 hf2 ⊢
  refine (B129_163 (d + 3) 31 X).trans ?_
  rw [show zgR (X) 12 0 5 = (51, 0) from hf1]
  have hz : znx X = 264 := hX
  rw [hz]
  clear hz
  show zgo true (d + 3) 129 180 [zr 12 0, zi 31] [zr 4 31, zi 31, zr 51 0] (znew X 4 31) = _
  rw [show znew X 4 31 = zdo [(0, 4, 31, 0, (0, 0), 0)] X from rfl]
  subst hN
  rfl
theorem H129_135 (M : zM) (hn : znx M = 1) : znx (N129_135 M) = 265 := by
  show znx (zdo [(0, 4, 31, 0, (0, 0), 0)] (N129_134 M)) = _
  rw [zdo_nx, H129_134 M hn]
  rfl
set_option maxRecDepth 100000 in
theorem G129_135_0 (M : zM) : zgR (N129_135 M) 12 0 4 = (50, 0) := by
  show zgR (zdo [(0, 4, 31, 0, (0, 0), 0)] (N129_134 M)) 12 0 4 = _
  rw [zdo_R _ _ (by decide), G129_134_0 M]
set_option maxRecDepth 100000 in
theorem G129_135_1 (M : zM) : zgR (N129_135 M) 12 0 5 = (51, 0) := by
  show zgR (zdo [(0, 4, 31, 0, (0, 0), 0)] (N129_134 M)) 12 0 5 = _
  rw [zdo_R _ _ (by decide), G129_134_1 M]
set_option maxRecDepth 100000 in
theorem G129_135_2 (M : zM) : zgR (N129_135 M) 12 0 7 = (53, 0) := by
  show zgR (zdo [(0, 4, 31, 0, (0, 0), 0)] (N129_134 M)) 12 0 7 = _
  rw [zdo_R _ _ (by decide), G129_134_2 M]
def D20_31 : List zOp := [(0, 24, 31, 0, (0, 0), 0), (1, 4, 31, 0, (24, 31), 0), (0, 25, 31, 0, (0, 0), 0), (1, 4, 31, 1, (25, 31), 0), (0, 26, 31, 0, (0, 0), 0), (1, 4, 31, 2, (26, 31), 0), (0, 27, 31, 0, (0, 0), 0), (1, 4, 31, 3, (27, 31), 0), (0, 28, 31, 0, (0, 0), 0), (1, 4, 31, 4, (28, 31), 0)]
set_option maxRecDepth 100000 in
set_option maxHeartbeats 4000000 in
theorem C20_31 (d : Nat) (M : zM) (hn : znx M = 265) : zgo true d 20 0 [zr 4 31] [] M = some (none, zdo D20_31 M) := by
  refine (B20_0 d 31 M).trans ?_
  have hz : znx M = 265 := hn
  rw [hz]
  clear hz
  show zgo true d 20 9 [zr 4 31] [zr 24 31, zr 4 31] (znew M 24 31) = _
  generalize hM1 : znew M 24 31 = M1
  have hn1 : znx M1 = 266 := by rw [← hM1]; exact congrArg (· + 1) hn
  refine (B20_9 d 31 31 24 31 M1).trans ?_
  have hz : znx (zsR M1 4 31 0 (24, 31)) = 266 := hn1
  rw [hz]
  clear hz
  show zgo true d 20 17 [zr 4 31] [zr 25 31, zr 4 31] (znew (zsR M1 4 31 0 (24, 31)) 25 31) = _
  generalize hM2 : znew (zsR M1 4 31 0 (24, 31)) 25 31 = M2
  have hn2 : znx M2 = 267 := by rw [← hM2]; exact congrArg (· + 1) hn1
  clear hn1
  refine (B20_17 d 31 31 25 31 M2).trans ?_
  have hz : znx (zsR M2 4 31 1 (25, 31)) = 267 := hn2
  rw [hz]
  clear hz
  show zgo true d 20 25 [zr 4 31] [zr 26 31, zr 4 31] (znew (zsR M2 4 31 1 (25, 31)) 26 31) = _
  generalize hM3 : znew (zsR M2 4 31 1 (25, 31)) 26 31 = M3
  have hn3 : znx M3 = 268 := by rw [← hM3]; exact congrArg (· + 1) hn2
  clear hn2
  refine (B20_25 d 31 31 26 31 M3).trans ?_
  show zgo true d 20 28 [zr 4 31] [] (zsR M3 4 31 2 (26, 31)) = _
  generalize hM4 : zsR M3 4 31 2 (26, 31) = M4
  have hn4 : znx M4 = 268 := by rw [← hM4]; exact hn3
  clear hn3
  refine (B20_28 d 31 M4).trans ?_
  have hz : znx M4 = 268 := hn4
  rw [hz]
  clear hz
  show zgo true d 20 33 [zr 4 31] [zr 27 31, zr 4 31] (znew M4 27 31) = _
  generalize hM5 : znew M4 27 31 = M5
  have hn5 : znx M5 = 269 := by rw [← hM5]; exact congrArg (· + 1) hn4
  clear hn4
  refine (B20_33 d 31 31 27 31 M5).trans ?_
  have hz : znx (zsR M5 4 31 3 (27, 31)) = 269 := hn5
  rw [hz]
  clear hz
  show zgo true d 20 41 [zr 4 31] [zr 28 31, zr 4 31] (znew (zsR M5 4 31 3 (27, 31)) 28 31) = _
  generalize hM6 : znew (zsR M5 4 31 3 (27, 31)) 28 31 = M6
  have hn6 : znx M6 = 270 := by rw [← hM6]; exact congrArg (· + 1) hn5
  clear hn5
  refine (B20_41 d 31 31 28 31 M6).trans ?_
  generalize hM7 : zsR M6 4 31 4 (28, 31) = M7
  have hn7 : znx M7 = 270 := by rw [← hM7]; exact hn6
  clear hn6
  subst hM7 hM6 hM5 hM4 hM3 hM2 hM1
  rfl
def N129_136 (M : zM) : zM := zdo D20_31 (N129_135 M)
set_option maxRecDepth 100000 in
theorem T129_146 (d : Nat) (M : zM) (hn : znx M = 1) : zgo true (d + 3) 129 180 [zr 12 0, zi 31] [zr 4 31, zi 31, zr 51 0] (N129_135 M) = zgo true (d + 3) 129 184 [zr 12 0, zi 31] [zr 4 31, zi 31, zr 51 0] (N129_136 M) := by
  have hX : znx (N129_135 M) = 265 := H129_135 M hn
  have hf0 : zgR (N129_135 M) 12 0 4 = (50, 0) := G129_135_0 M
  have hf1 : zgR (N129_135 M) 12 0 5 = (51, 0) := G129_135_1 M
  have hf2 : zgR (N129_135 M) 12 0 7 = (53, 0) := G129_135_2 M
  generalize hN : N129_135 M = X at hX hf0 hf1 hf2 ⊢
  refine (B129_180 (d + 2) 31 31 31 X).trans ?_
  show Option.bind (zgo true (d + 2) 20 0 [zr 4 31] [] (X)) _ = _
  refine zbind_of (C20_31 (d + 2) _ hX) ?_
  show zgo true (d + 3) 129 184 [zr 12 0, zi 31] [zr 4 31, zi 31, zr 51 0] (zdo D20_31 (X)) = _
  subst hN
  rfl
theorem H129_136 (M : zM) (hn : znx M = 1) : znx (N129_136 M) = 270 := by
  show znx (zdo D20_31 (N129_135 M)) = _
  rw [zdo_nx, H129_135 M hn]
  rfl
set_option maxRecDepth 100000 in
theorem G129_136_0 (M : zM) : zgR (N129_136 M) 12 0 4 = (50, 0) := by
  show zgR (zdo D20_31 (N129_135 M)) 12 0 4 = _
  rw [zdo_R _ _ (by decide), G129_135_0 M]
set_option maxRecDepth 100000 in
theorem G129_136_1 (M : zM) : zgR (N129_136 M) 12 0 5 = (51, 0) := by
  show zgR (zdo D20_31 (N129_135 M)) 12 0 5 = _
  rw [zdo_R _ _ (by decide), G129_135_1 M]
set_option maxRecDepth 100000 in
theorem G129_136_2 (M : zM) : zgR (N129_136 M) 12 0 7 = (53, 0) := by
  show zgR (zdo D20_31 (N129_135 M)) 12 0 7 = _
  rw [zdo_R _ _ (by decide), G129_135_2 M]
def N129_137 (M : zM) : zM := zdo [(1, 51, 0, 31, (4, 31), 0)] (N129_136 M)
set_option maxRecDepth 100000 in
theorem T129_147 (d : Nat) (M : zM) (hn : znx M = 1) : zgo true (d + 3) 129 184 [zr 12 0, zi 31] [zr 4 31, zi 31, zr 51 0] (N129_136 M) = zgo true (d + 3) 129 163 [zr 12 0, zi 32] [] (N129_137 M) := by
  have hX : znx (N129_136 M) = 270 := H129_136 M hn
  have hf0 : zgR (N129_136 M) 12 0 4 = (50, 0) := G129_136_0 M
  have hf1 : zgR (N129_136 M) 12 0 5 = (51, 0) := G129_136_1 M
  have hf2 : zgR (N129_136 M) 12 0 7 = (53, 0) := G129_136_2 M
  generalize hN : N129_136 M = X at hX hf0 hf1 hf2 ⊢
  refine (B129_184 (d + 3) 31 31 31 X).trans ?_
  show zgo true (d + 3) 129 163 [zr 12 0, zi 32] [] (zsR X 51 0 ((31 : Int32).toNatClampNeg) (4, 31)) = _
  rw [show zsR X 51 0 ((31 : Int32).toNatClampNeg) (4, 31) = zdo [(1, 51, 0, 31, (4, 31), 0)] X from rfl]
  subst hN
  rfl
theorem H129_137 (M : zM) (hn : znx M = 1) : znx (N129_137 M) = 270 := by
  show znx (zdo [(1, 51, 0, 31, (4, 31), 0)] (N129_136 M)) = _
  rw [zdo_nx, H129_136 M hn]
  rfl
set_option maxRecDepth 100000 in
theorem G129_137_0 (M : zM) : zgR (N129_137 M) 12 0 4 = (50, 0) := by
  show zgR (zdo [(1, 51, 0, 31, (4, 31), 0)] (N129_136 M)) 12 0 4 = _
  rw [zdo_R _ _ (by decide), G129_136_0 M]
set_option maxRecDepth 100000 in
theorem G129_137_1 (M : zM) : zgR (N129_137 M) 12 0 5 = (51, 0) := by
  show zgR (zdo [(1, 51, 0, 31, (4, 31), 0)] (N129_136 M)) 12 0 5 = _
  rw [zdo_R _ _ (by decide), G129_136_1 M]
set_option maxRecDepth 100000 in
theorem G129_137_2 (M : zM) : zgR (N129_137 M) 12 0 7 = (53, 0) := by
  show zgR (zdo [(1, 51, 0, 31, (4, 31), 0)] (N129_136 M)) 12 0 7 = _
  rw [zdo_R _ _ (by decide), G129_136_2 M]
def N129_138 (M : zM) : zM := zdo [(0, 4, 32, 0, (0, 0), 0)] (N129_137 M)
set_option maxRecDepth 100000 in
theorem T129_148 (d : Nat) (M : zM) (hn : znx M = 1) : zgo true (d + 3) 129 163 [zr 12 0, zi 32] [] (N129_137 M) = zgo true (d + 3) 129 180 [zr 12 0, zi 32] [zr 4 32, zi 32, zr 51 0] (N129_138 M) := by
  have hX : znx (N129_137 M) = 270 := H129_137 M hn
  have hf0 : zgR (N129_137 M) 12 0 4 = (50, 0) := G129_137_0 M
  have hf1 : zgR (N129_137 M) 12 0 5 = (51, 0) := G129_137_1 M
  have hf2 : zgR (N129_137 M) 12 0 7 = (53, 0) := G129_137_2 M
  generalize hN : N129_137 M = X at hX hf0 hf1 hf2 ⊢
  refine (B129_163 (d + 3) 32 X).trans ?_
  rw [show zgR (X) 12 0 5 = (51, 0) from hf1]
  have hz : znx X = 270 := hX
  rw [hz]
  clear hz
  show zgo true (d + 3) 129 180 [zr 12 0, zi 32] [zr 4 32, zi 32, zr 51 0] (znew X 4 32) = _
  rw [show znew X 4 32 = zdo [(0, 4, 32, 0, (0, 0), 0)] X from rfl]
  subst hN
  rfl
theorem H129_138 (M : zM) (hn : znx M = 1) : znx (N129_138 M) = 271 := by
  show znx (zdo [(0, 4, 32, 0, (0, 0), 0)] (N129_137 M)) = _
  rw [zdo_nx, H129_137 M hn]
  rfl
set_option maxRecDepth 100000 in
theorem G129_138_0 (M : zM) : zgR (N129_138 M) 12 0 4 = (50, 0) := by
  show zgR (zdo [(0, 4, 32, 0, (0, 0), 0)] (N129_137 M)) 12 0 4 = _
  rw [zdo_R _ _ (by decide), G129_137_0 M]
set_option maxRecDepth 100000 in
theorem G129_138_1 (M : zM) : zgR (N129_138 M) 12 0 5 = (51, 0) := by
  show zgR (zdo [(0, 4, 32, 0, (0, 0), 0)] (N129_137 M)) 12 0 5 = _
  rw [zdo_R _ _ (by decide), G129_137_1 M]
set_option maxRecDepth 100000 in
theorem G129_138_2 (M : zM) : zgR (N129_138 M) 12 0 7 = (53, 0) := by
  show zgR (zdo [(0, 4, 32, 0, (0, 0), 0)] (N129_137 M)) 12 0 7 = _
  rw [zdo_R _ _ (by decide), G129_137_2 M]
def D20_32 : List zOp := [(0, 24, 32, 0, (0, 0), 0), (1, 4, 32, 0, (24, 32), 0), (0, 25, 32, 0, (0, 0), 0), (1, 4, 32, 1, (25, 32), 0), (0, 26, 32, 0, (0, 0), 0), (1, 4, 32, 2, (26, 32), 0), (0, 27, 32, 0, (0, 0), 0), (1, 4, 32, 3, (27, 32), 0), (0, 28, 32, 0, (0, 0), 0), (1, 4, 32, 4, (28, 32), 0)]
set_option maxRecDepth 100000 in
set_option maxHeartbeats 4000000 in
theorem C20_32 (d : Nat) (M : zM) (hn : znx M = 271) : zgo true d 20 0 [zr 4 32] [] M = some (none, zdo D20_32 M) := by
  refine (B20_0 d 32 M).trans ?_
  have hz : znx M = 271 := hn
  rw [hz]
  clear hz
  show zgo true d 20 9 [zr 4 32] [zr 24 32, zr 4 32] (znew M 24 32) = _
  generalize hM1 : znew M 24 32 = M1
  have hn1 : znx M1 = 272 := by rw [← hM1]; exact congrArg (· + 1) hn
  refine (B20_9 d 32 32 24 32 M1).trans ?_
  have hz : znx (zsR M1 4 32 0 (24, 32)) = 272 := hn1
  rw [hz]
  clear hz
  show zgo true d 20 17 [zr 4 32] [zr 25 32, zr 4 32] (znew (zsR M1 4 32 0 (24, 32)) 25 32) = _
  generalize hM2 : znew (zsR M1 4 32 0 (24, 32)) 25 32 = M2
  have hn2 : znx M2 = 273 := by rw [← hM2]; exact congrArg (· + 1) hn1
  clear hn1
  refine (B20_17 d 32 32 25 32 M2).trans ?_
  have hz : znx (zsR M2 4 32 1 (25, 32)) = 273 := hn2
  rw [hz]
  clear hz
  show zgo true d 20 25 [zr 4 32] [zr 26 32, zr 4 32] (znew (zsR M2 4 32 1 (25, 32)) 26 32) = _
  generalize hM3 : znew (zsR M2 4 32 1 (25, 32)) 26 32 = M3
  have hn3 : znx M3 = 274 := by rw [← hM3]; exact congrArg (· + 1) hn2
  clear hn2
  refine (B20_25 d 32 32 26 32 M3).trans ?_
  show zgo true d 20 28 [zr 4 32] [] (zsR M3 4 32 2 (26, 32)) = _
  generalize hM4 : zsR M3 4 32 2 (26, 32) = M4
  have hn4 : znx M4 = 274 := by rw [← hM4]; exact hn3
  clear hn3
  refine (B20_28 d 32 M4).trans ?_
  have hz : znx M4 = 274 := hn4
  rw [hz]
  clear hz
  show zgo true d 20 33 [zr 4 32] [zr 27 32, zr 4 32] (znew M4 27 32) = _
  generalize hM5 : znew M4 27 32 = M5
  have hn5 : znx M5 = 275 := by rw [← hM5]; exact congrArg (· + 1) hn4
  clear hn4
  refine (B20_33 d 32 32 27 32 M5).trans ?_
  have hz : znx (zsR M5 4 32 3 (27, 32)) = 275 := hn5
  rw [hz]
  clear hz
  show zgo true d 20 41 [zr 4 32] [zr 28 32, zr 4 32] (znew (zsR M5 4 32 3 (27, 32)) 28 32) = _
  generalize hM6 : znew (zsR M5 4 32 3 (27, 32)) 28 32 = M6
  have hn6 : znx M6 = 276 := by rw [← hM6]; exact congrArg (· + 1) hn5
  clear hn5
  refine (B20_41 d 32 32 28 32 M6).trans ?_
  generalize hM7 : zsR M6 4 32 4 (28, 32) = M7
  have hn7 : znx M7 = 276 := by rw [← hM7]; exact hn6
  clear hn6
  subst hM7 hM6 hM5 hM4 hM3 hM2 hM1
  rfl
def N129_139 (M : zM) : zM := zdo D20_32 (N129_138 M)
set_option maxRecDepth 100000 in
theorem T129_149 (d : Nat) (M : zM) (hn : znx M = 1) : zgo true (d + 3) 129 180 [zr 12 0, zi 32] [zr 4 32, zi 32, zr 51 0] (N129_138 M) = zgo true (d + 3) 129 184 [zr 12 0, zi 32] [zr 4 32, zi 32, zr 51 0] (N129_139 M) := by
  have hX : znx (N129_138 M) = 271 := H129_138 M hn
  have hf0 : zgR (N129_138 M) 12 0 4 = (50, 0) := G129_138_0 M
  have hf1 : zgR (N129_138 M) 12 0 5 = (51, 0) := G129_138_1 M
  have hf2 : zgR (N129_138 M) 12 0 7 = (53, 0) := G129_138_2 M
  generalize hN : N129_138 M = X at hX hf0 hf1 hf2 ⊢
  refine (B129_180 (d + 2) 32 32 32 X).trans ?_
  show Option.bind (zgo true (d + 2) 20 0 [zr 4 32] [] (X)) _ = _
  refine zbind_of (C20_32 (d + 2) _ hX) ?_
  show zgo true (d + 3) 129 184 [zr 12 0, zi 32] [zr 4 32, zi 32, zr 51 0] (zdo D20_32 (X)) = _
  subst hN
  rfl
theorem H129_139 (M : zM) (hn : znx M = 1) : znx (N129_139 M) = 276 := by
  show znx (zdo D20_32 (N129_138 M)) = _
  rw [zdo_nx, H129_138 M hn]
  rfl
set_option maxRecDepth 100000 in
theorem G129_139_0 (M : zM) : zgR (N129_139 M) 12 0 4 = (50, 0) := by
  show zgR (zdo D20_32 (N129_138 M)) 12 0 4 = _
  rw [zdo_R _ _ (by decide), G129_138_0 M]
set_option maxRecDepth 100000 in
theorem G129_139_1 (M : zM) : zgR (N129_139 M) 12 0 5 = (51, 0) := by
  show zgR (zdo D20_32 (N129_138 M)) 12 0 5 = _
  rw [zdo_R _ _ (by decide), G129_138_1 M]
set_option maxRecDepth 100000 in
theorem G129_139_2 (M : zM) : zgR (N129_139 M) 12 0 7 = (53, 0) := by
  show zgR (zdo D20_32 (N129_138 M)) 12 0 7 = _
  rw [zdo_R _ _ (by decide), G129_138_2 M]
def N129_140 (M : zM) : zM := zdo [(1, 51, 0, 32, (4, 32), 0)] (N129_139 M)
set_option maxRecDepth 100000 in
theorem T129_150 (d : Nat) (M : zM) (hn : znx M = 1) : zgo true (d + 3) 129 184 [zr 12 0, zi 32] [zr 4 32, zi 32, zr 51 0] (N129_139 M) = zgo true (d + 3) 129 163 [zr 12 0, zi 33] [] (N129_140 M) := by
  have hX : znx (N129_139 M) = 276 := H129_139 M hn
  have hf0 : zgR (N129_139 M) 12 0 4 = (50, 0) := G129_139_0 M
  have hf1 : zgR (N129_139 M) 12 0 5 = (51, 0) := G129_139_1 M
  have hf2 : zgR (N129_139 M) 12 0 7 = (53, 0) := G129_139_2 M
  generalize hN : N129_139 M = X at hX hf0 hf1 hf2 ⊢
  refine (B129_184 (d + 3) 32 32 32 X).trans ?_
  show zgo true (d + 3) 129 163 [zr 12 0, zi 33] [] (zsR X 51 0 ((32 : Int32).toNatClampNeg) (4, 32)) = _
  rw [show zsR X 51 0 ((32 : Int32).toNatClampNeg) (4, 32) = zdo [(1, 51, 0, 32, (4, 32), 0)] X from rfl]
  subst hN
  rfl
theorem H129_140 (M : zM) (hn : znx M = 1) : znx (N129_140 M) = 276 := by
  show znx (zdo [(1, 51, 0, 32, (4, 32), 0)] (N129_139 M)) = _
  rw [zdo_nx, H129_139 M hn]
  rfl
set_option maxRecDepth 100000 in
theorem G129_140_0 (M : zM) : zgR (N129_140 M) 12 0 4 = (50, 0) := by
  show zgR (zdo [(1, 51, 0, 32, (4, 32), 0)] (N129_139 M)) 12 0 4 = _
  rw [zdo_R _ _ (by decide), G129_139_0 M]
set_option maxRecDepth 100000 in
theorem G129_140_1 (M : zM) : zgR (N129_140 M) 12 0 5 = (51, 0) := by
  show zgR (zdo [(1, 51, 0, 32, (4, 32), 0)] (N129_139 M)) 12 0 5 = _
  rw [zdo_R _ _ (by decide), G129_139_1 M]
set_option maxRecDepth 100000 in
theorem G129_140_2 (M : zM) : zgR (N129_140 M) 12 0 7 = (53, 0) := by
  show zgR (zdo [(1, 51, 0, 32, (4, 32), 0)] (N129_139 M)) 12 0 7 = _
  rw [zdo_R _ _ (by decide), G129_139_2 M]
def N129_141 (M : zM) : zM := zdo [(0, 4, 33, 0, (0, 0), 0)] (N129_140 M)
set_option maxRecDepth 100000 in
theorem T129_151 (d : Nat) (M : zM) (hn : znx M = 1) : zgo true (d + 3) 129 163 [zr 12 0, zi 33] [] (N129_140 M) = zgo true (d + 3) 129 180 [zr 12 0, zi 33] [zr 4 33, zi 33, zr 51 0] (N129_141 M) := by
  have hX : znx (N129_140 M) = 276 := H129_140 M hn
  have hf0 : zgR (N129_140 M) 12 0 4 = (50, 0) := G129_140_0 M
  have hf1 : zgR (N129_140 M) 12 0 5 = (51, 0) := G129_140_1 M
  have hf2 : zgR (N129_140 M) 12 0 7 = (53, 0) := G129_140_2 M
  generalize hN : N129_140 M = X at hX hf0 hf1 hf2 ⊢
  refine (B129_163 (d + 3) 33 X).trans ?_
  rw [show zgR (X) 12 0 5 = (51, 0) from hf1]
  have hz : znx X = 276 := hX
  rw [hz]
  clear hz
  show zgo true (d + 3) 129 180 [zr 12 0, zi 33] [zr 4 33, zi 33, zr 51 0] (znew X 4 33) = _
  rw [show znew X 4 33 = zdo [(0, 4, 33, 0, (0, 0), 0)] X from rfl]
  subst hN
  rfl
theorem H129_141 (M : zM) (hn : znx M = 1) : znx (N129_141 M) = 277 := by
  show znx (zdo [(0, 4, 33, 0, (0, 0), 0)] (N129_140 M)) = _
  rw [zdo_nx, H129_140 M hn]
  rfl
set_option maxRecDepth 100000 in
theorem G129_141_0 (M : zM) : zgR (N129_141 M) 12 0 4 = (50, 0) := by
  show zgR (zdo [(0, 4, 33, 0, (0, 0), 0)] (N129_140 M)) 12 0 4 = _
  rw [zdo_R _ _ (by decide), G129_140_0 M]
set_option maxRecDepth 100000 in
theorem G129_141_1 (M : zM) : zgR (N129_141 M) 12 0 5 = (51, 0) := by
  show zgR (zdo [(0, 4, 33, 0, (0, 0), 0)] (N129_140 M)) 12 0 5 = _
  rw [zdo_R _ _ (by decide), G129_140_1 M]
set_option maxRecDepth 100000 in
theorem G129_141_2 (M : zM) : zgR (N129_141 M) 12 0 7 = (53, 0) := by
  show zgR (zdo [(0, 4, 33, 0, (0, 0), 0)] (N129_140 M)) 12 0 7 = _
  rw [zdo_R _ _ (by decide), G129_140_2 M]
def D20_33 : List zOp := [(0, 24, 33, 0, (0, 0), 0), (1, 4, 33, 0, (24, 33), 0), (0, 25, 33, 0, (0, 0), 0), (1, 4, 33, 1, (25, 33), 0), (0, 26, 33, 0, (0, 0), 0), (1, 4, 33, 2, (26, 33), 0), (0, 27, 33, 0, (0, 0), 0), (1, 4, 33, 3, (27, 33), 0), (0, 28, 33, 0, (0, 0), 0), (1, 4, 33, 4, (28, 33), 0)]
set_option maxRecDepth 100000 in
set_option maxHeartbeats 4000000 in
theorem C20_33 (d : Nat) (M : zM) (hn : znx M = 277) : zgo true d 20 0 [zr 4 33] [] M = some (none, zdo D20_33 M) := by
  refine (B20_0 d 33 M).trans ?_
  have hz : znx M = 277 := hn
  rw [hz]
  clear hz
  show zgo true d 20 9 [zr 4 33] [zr 24 33, zr 4 33] (znew M 24 33) = _
  generalize hM1 : znew M 24 33 = M1
  have hn1 : znx M1 = 278 := by rw [← hM1]; exact congrArg (· + 1) hn
  refine (B20_9 d 33 33 24 33 M1).trans ?_
  have hz : znx (zsR M1 4 33 0 (24, 33)) = 278 := hn1
  rw [hz]
  clear hz
  show zgo true d 20 17 [zr 4 33] [zr 25 33, zr 4 33] (znew (zsR M1 4 33 0 (24, 33)) 25 33) = _
  generalize hM2 : znew (zsR M1 4 33 0 (24, 33)) 25 33 = M2
  have hn2 : znx M2 = 279 := by rw [← hM2]; exact congrArg (· + 1) hn1
  clear hn1
  refine (B20_17 d 33 33 25 33 M2).trans ?_
  have hz : znx (zsR M2 4 33 1 (25, 33)) = 279 := hn2
  rw [hz]
  clear hz
  show zgo true d 20 25 [zr 4 33] [zr 26 33, zr 4 33] (znew (zsR M2 4 33 1 (25, 33)) 26 33) = _
  generalize hM3 : znew (zsR M2 4 33 1 (25, 33)) 26 33 = M3
  have hn3 : znx M3 = 280 := by rw [← hM3]; exact congrArg (· + 1) hn2
  clear hn2
  refine (B20_25 d 33 33 26 33 M3).trans ?_
  show zgo true d 20 28 [zr 4 33] [] (zsR M3 4 33 2 (26, 33)) = _
  generalize hM4 : zsR M3 4 33 2 (26, 33) = M4
  have hn4 : znx M4 = 280 := by rw [← hM4]; exact hn3
  clear hn3
  refine (B20_28 d 33 M4).trans ?_
  have hz : znx M4 = 280 := hn4
  rw [hz]
  clear hz
  show zgo true d 20 33 [zr 4 33] [zr 27 33, zr 4 33] (znew M4 27 33) = _
  generalize hM5 : znew M4 27 33 = M5
  have hn5 : znx M5 = 281 := by rw [← hM5]; exact congrArg (· + 1) hn4
  clear hn4
  refine (B20_33 d 33 33 27 33 M5).trans ?_
  have hz : znx (zsR M5 4 33 3 (27, 33)) = 281 := hn5
  rw [hz]
  clear hz
  show zgo true d 20 41 [zr 4 33] [zr 28 33, zr 4 33] (znew (zsR M5 4 33 3 (27, 33)) 28 33) = _
  generalize hM6 : znew (zsR M5 4 33 3 (27, 33)) 28 33 = M6
  have hn6 : znx M6 = 282 := by rw [← hM6]; exact congrArg (· + 1) hn5
  clear hn5
  refine (B20_41 d 33 33 28 33 M6).trans ?_
  generalize hM7 : zsR M6 4 33 4 (28, 33) = M7
  have hn7 : znx M7 = 282 := by rw [← hM7]; exact hn6
  clear hn6
  subst hM7 hM6 hM5 hM4 hM3 hM2 hM1
  rfl
def N129_142 (M : zM) : zM := zdo D20_33 (N129_141 M)
set_option maxRecDepth 100000 in
theorem T129_152 (d : Nat) (M : zM) (hn : znx M = 1) : zgo true (d + 3) 129 180 [zr 12 0, zi 33] [zr 4 33, zi 33, zr 51 0] (N129_141 M) = zgo true (d + 3) 129 184 [zr 12 0, zi 33] [zr 4 33, zi 33, zr 51 0] (N129_142 M) := by
  have hX : znx (N129_141 M) = 277 := H129_141 M hn
  have hf0 : zgR (N129_141 M) 12 0 4 = (50, 0) := G129_141_0 M
  have hf1 : zgR (N129_141 M) 12 0 5 = (51, 0) := G129_141_1 M
  have hf2 : zgR (N129_141 M) 12 0 7 = (53, 0) := G129_141_2 M
  generalize hN : N129_141 M = X at hX hf0 hf1 hf2 ⊢
  refine (B129_180 (d + 2) 33 33 33 X).trans ?_
  show Option.bind (zgo true (d + 2) 20 0 [zr 4 33] [] (X)) _ = _
  refine zbind_of (C20_33 (d + 2) _ hX) ?_
  show zgo true (d + 3) 129 184 [zr 12 0, zi 33] [zr 4 33, zi 33, zr 51 0] (zdo D20_33 (X)) = _
  subst hN
  rfl
theorem H129_142 (M : zM) (hn : znx M = 1) : znx (N129_142 M) = 282 := by
  show znx (zdo D20_33 (N129_141 M)) = _
  rw [zdo_nx, H129_141 M hn]
  rfl
set_option maxRecDepth 100000 in
theorem G129_142_0 (M : zM) : zgR (N129_142 M) 12 0 4 = (50, 0) := by
  show zgR (zdo D20_33 (N129_141 M)) 12 0 4 = _
  rw [zdo_R _ _ (by decide), G129_141_0 M]
set_option maxRecDepth 100000 in
theorem G129_142_1 (M : zM) : zgR (N129_142 M) 12 0 5 = (51, 0) := by
  show zgR (zdo D20_33 (N129_141 M)) 12 0 5 = _
  rw [zdo_R _ _ (by decide), G129_141_1 M]
set_option maxRecDepth 100000 in
theorem G129_142_2 (M : zM) : zgR (N129_142 M) 12 0 7 = (53, 0) := by
  show zgR (zdo D20_33 (N129_141 M)) 12 0 7 = _
  rw [zdo_R _ _ (by decide), G129_141_2 M]
def N129_143 (M : zM) : zM := zdo [(1, 51, 0, 33, (4, 33), 0)] (N129_142 M)
set_option maxRecDepth 100000 in
theorem T129_153 (d : Nat) (M : zM) (hn : znx M = 1) : zgo true (d + 3) 129 184 [zr 12 0, zi 33] [zr 4 33, zi 33, zr 51 0] (N129_142 M) = zgo true (d + 3) 129 163 [zr 12 0, zi 34] [] (N129_143 M) := by
  have hX : znx (N129_142 M) = 282 := H129_142 M hn
  have hf0 : zgR (N129_142 M) 12 0 4 = (50, 0) := G129_142_0 M
  have hf1 : zgR (N129_142 M) 12 0 5 = (51, 0) := G129_142_1 M
  have hf2 : zgR (N129_142 M) 12 0 7 = (53, 0) := G129_142_2 M
  generalize hN : N129_142 M = X at hX hf0 hf1 hf2 ⊢
  refine (B129_184 (d + 3) 33 33 33 X).trans ?_
  show zgo true (d + 3) 129 163 [zr 12 0, zi 34] [] (zsR X 51 0 ((33 : Int32).toNatClampNeg) (4, 33)) = _
  rw [show zsR X 51 0 ((33 : Int32).toNatClampNeg) (4, 33) = zdo [(1, 51, 0, 33, (4, 33), 0)] X from rfl]
  subst hN
  rfl
theorem H129_143 (M : zM) (hn : znx M = 1) : znx (N129_143 M) = 282 := by
  show znx (zdo [(1, 51, 0, 33, (4, 33), 0)] (N129_142 M)) = _
  rw [zdo_nx, H129_142 M hn]
  rfl
set_option maxRecDepth 100000 in
theorem G129_143_0 (M : zM) : zgR (N129_143 M) 12 0 4 = (50, 0) := by
  show zgR (zdo [(1, 51, 0, 33, (4, 33), 0)] (N129_142 M)) 12 0 4 = _
  rw [zdo_R _ _ (by decide), G129_142_0 M]
set_option maxRecDepth 100000 in
theorem G129_143_1 (M : zM) : zgR (N129_143 M) 12 0 5 = (51, 0) := by
  show zgR (zdo [(1, 51, 0, 33, (4, 33), 0)] (N129_142 M)) 12 0 5 = _
  rw [zdo_R _ _ (by decide), G129_142_1 M]
set_option maxRecDepth 100000 in
theorem G129_143_2 (M : zM) : zgR (N129_143 M) 12 0 7 = (53, 0) := by
  show zgR (zdo [(1, 51, 0, 33, (4, 33), 0)] (N129_142 M)) 12 0 7 = _
  rw [zdo_R _ _ (by decide), G129_142_2 M]
def N129_144 (M : zM) : zM := zdo [(0, 4, 34, 0, (0, 0), 0)] (N129_143 M)
set_option maxRecDepth 100000 in
theorem T129_154 (d : Nat) (M : zM) (hn : znx M = 1) : zgo true (d + 3) 129 163 [zr 12 0, zi 34] [] (N129_143 M) = zgo true (d + 3) 129 180 [zr 12 0, zi 34] [zr 4 34, zi 34, zr 51 0] (N129_144 M) := by
  have hX : znx (N129_143 M) = 282 := H129_143 M hn
  have hf0 : zgR (N129_143 M) 12 0 4 = (50, 0) := G129_143_0 M
  have hf1 : zgR (N129_143 M) 12 0 5 = (51, 0) := G129_143_1 M
  have hf2 : zgR (N129_143 M) 12 0 7 = (53, 0) := G129_143_2 M
  generalize hN : N129_143 M = X at hX hf0 hf1 hf2 ⊢
  refine (B129_163 (d + 3) 34 X).trans ?_
  rw [show zgR (X) 12 0 5 = (51, 0) from hf1]
  have hz : znx X = 282 := hX
  rw [hz]
  clear hz
  show zgo true (d + 3) 129 180 [zr 12 0, zi 34] [zr 4 34, zi 34, zr 51 0] (znew X 4 34) = _
  rw [show znew X 4 34 = zdo [(0, 4, 34, 0, (0, 0), 0)] X from rfl]
  subst hN
  rfl
theorem H129_144 (M : zM) (hn : znx M = 1) : znx (N129_144 M) = 283 := by
  show znx (zdo [(0, 4, 34, 0, (0, 0), 0)] (N129_143 M)) = _
  rw [zdo_nx, H129_143 M hn]
  rfl
set_option maxRecDepth 100000 in
theorem G129_144_0 (M : zM) : zgR (N129_144 M) 12 0 4 = (50, 0) := by
  show zgR (zdo [(0, 4, 34, 0, (0, 0), 0)] (N129_143 M)) 12 0 4 = _
  rw [zdo_R _ _ (by decide), G129_143_0 M]
set_option maxRecDepth 100000 in
theorem G129_144_1 (M : zM) : zgR (N129_144 M) 12 0 5 = (51, 0) := by
  show zgR (zdo [(0, 4, 34, 0, (0, 0), 0)] (N129_143 M)) 12 0 5 = _
  rw [zdo_R _ _ (by decide), G129_143_1 M]
set_option maxRecDepth 100000 in
theorem G129_144_2 (M : zM) : zgR (N129_144 M) 12 0 7 = (53, 0) := by
  show zgR (zdo [(0, 4, 34, 0, (0, 0), 0)] (N129_143 M)) 12 0 7 = _
  rw [zdo_R _ _ (by decide), G129_143_2 M]
def D20_34 : List zOp := [(0, 24, 34, 0, (0, 0), 0), (1, 4, 34, 0, (24, 34), 0), (0, 25, 34, 0, (0, 0), 0), (1, 4, 34, 1, (25, 34), 0), (0, 26, 34, 0, (0, 0), 0), (1, 4, 34, 2, (26, 34), 0), (0, 27, 34, 0, (0, 0), 0), (1, 4, 34, 3, (27, 34), 0), (0, 28, 34, 0, (0, 0), 0), (1, 4, 34, 4, (28, 34), 0)]
set_option maxRecDepth 100000 in
set_option maxHeartbeats 4000000 in
theorem C20_34 (d : Nat) (M : zM) (hn : znx M = 283) : zgo true d 20 0 [zr 4 34] [] M = some (none, zdo D20_34 M) := by
  refine (B20_0 d 34 M).trans ?_
  have hz : znx M = 283 := hn
  rw [hz]
  clear hz
  show zgo true d 20 9 [zr 4 34] [zr 24 34, zr 4 34] (znew M 24 34) = _
  generalize hM1 : znew M 24 34 = M1
  have hn1 : znx M1 = 284 := by rw [← hM1]; exact congrArg (· + 1) hn
  refine (B20_9 d 34 34 24 34 M1).trans ?_
  have hz : znx (zsR M1 4 34 0 (24, 34)) = 284 := hn1
  rw [hz]
  clear hz
  show zgo true d 20 17 [zr 4 34] [zr 25 34, zr 4 34] (znew (zsR M1 4 34 0 (24, 34)) 25 34) = _
  generalize hM2 : znew (zsR M1 4 34 0 (24, 34)) 25 34 = M2
  have hn2 : znx M2 = 285 := by rw [← hM2]; exact congrArg (· + 1) hn1
  clear hn1
  refine (B20_17 d 34 34 25 34 M2).trans ?_
  have hz : znx (zsR M2 4 34 1 (25, 34)) = 285 := hn2
  rw [hz]
  clear hz
  show zgo true d 20 25 [zr 4 34] [zr 26 34, zr 4 34] (znew (zsR M2 4 34 1 (25, 34)) 26 34) = _
  generalize hM3 : znew (zsR M2 4 34 1 (25, 34)) 26 34 = M3
  have hn3 : znx M3 = 286 := by rw [← hM3]; exact congrArg (· + 1) hn2
  clear hn2
  refine (B20_25 d 34 34 26 34 M3).trans ?_
  show zgo true d 20 28 [zr 4 34] [] (zsR M3 4 34 2 (26, 34)) = _
  generalize hM4 : zsR M3 4 34 2 (26, 34) = M4
  have hn4 : znx M4 = 286 := by rw [← hM4]; exact hn3
  clear hn3
  refine (B20_28 d 34 M4).trans ?_
  have hz : znx M4 = 286 := hn4
  rw [hz]
  clear hz
  show zgo true d 20 33 [zr 4 34] [zr 27 34, zr 4 34] (znew M4 27 34) = _
  generalize hM5 : znew M4 27 34 = M5
  have hn5 : znx M5 = 287 := by rw [← hM5]; exact congrArg (· + 1) hn4
  clear hn4
  refine (B20_33 d 34 34 27 34 M5).trans ?_
  have hz : znx (zsR M5 4 34 3 (27, 34)) = 287 := hn5
  rw [hz]
  clear hz
  show zgo true d 20 41 [zr 4 34] [zr 28 34, zr 4 34] (znew (zsR M5 4 34 3 (27, 34)) 28 34) = _
  generalize hM6 : znew (zsR M5 4 34 3 (27, 34)) 28 34 = M6
  have hn6 : znx M6 = 288 := by rw [← hM6]; exact congrArg (· + 1) hn5
  clear hn5
  refine (B20_41 d 34 34 28 34 M6).trans ?_
  generalize hM7 : zsR M6 4 34 4 (28, 34) = M7
  have hn7 : znx M7 = 288 := by rw [← hM7]; exact hn6
  clear hn6
  subst hM7 hM6 hM5 hM4 hM3 hM2 hM1
  rfl
def N129_145 (M : zM) : zM := zdo D20_34 (N129_144 M)
set_option maxRecDepth 100000 in
theorem T129_155 (d : Nat) (M : zM) (hn : znx M = 1) : zgo true (d + 3) 129 180 [zr 12 0, zi 34] [zr 4 34, zi 34, zr 51 0] (N129_144 M) = zgo true (d + 3) 129 184 [zr 12 0, zi 34] [zr 4 34, zi 34, zr 51 0] (N129_145 M) := by
  have hX : znx (N129_144 M) = 283 := H129_144 M hn
  have hf0 : zgR (N129_144 M) 12 0 4 = (50, 0) := G129_144_0 M
  have hf1 : zgR (N129_144 M) 12 0 5 = (51, 0) := G129_144_1 M
  have hf2 : zgR (N129_144 M) 12 0 7 = (53, 0) := G129_144_2 M
  generalize hN : N129_144 M = X at hX hf0 hf1 hf2 ⊢
  refine (B129_180 (d + 2) 34 34 34 X).trans ?_
  show Option.bind (zgo true (d + 2) 20 0 [zr 4 34] [] (X)) _ = _
  refine zbind_of (C20_34 (d + 2) _ hX) ?_
  show zgo true (d + 3) 129 184 [zr 12 0, zi 34] [zr 4 34, zi 34, zr 51 0] (zdo D20_34 (X)) = _
  subst hN
  rfl
theorem H129_145 (M : zM) (hn : znx M = 1) : znx (N129_145 M) = 288 := by
  show znx (zdo D20_34 (N129_144 M)) = _
  rw [zdo_nx, H129_144 M hn]
  rfl
set_option maxRecDepth 100000 in
theorem G129_145_0 (M : zM) : zgR (N129_145 M) 12 0 4 = (50, 0) := by
  show zgR (zdo D20_34 (N129_144 M)) 12 0 4 = _
  rw [zdo_R _ _ (by decide), G129_144_0 M]
set_option maxRecDepth 100000 in
theorem G129_145_1 (M : zM) : zgR (N129_145 M) 12 0 5 = (51, 0) := by
  show zgR (zdo D20_34 (N129_144 M)) 12 0 5 = _
  rw [zdo_R _ _ (by decide), G129_144_1 M]
set_option maxRecDepth 100000 in
theorem G129_145_2 (M : zM) : zgR (N129_145 M) 12 0 7 = (53, 0) := by
  show zgR (zdo D20_34 (N129_144 M)) 12 0 7 = _
  rw [zdo_R _ _ (by decide), G129_144_2 M]
def N129_146 (M : zM) : zM := zdo [(1, 51, 0, 34, (4, 34), 0)] (N129_145 M)
set_option maxRecDepth 100000 in
theorem T129_156 (d : Nat) (M : zM) (hn : znx M = 1) : zgo true (d + 3) 129 184 [zr 12 0, zi 34] [zr 4 34, zi 34, zr 51 0] (N129_145 M) = zgo true (d + 3) 129 163 [zr 12 0, zi 35] [] (N129_146 M) := by
  have hX : znx (N129_145 M) = 288 := H129_145 M hn
  have hf0 : zgR (N129_145 M) 12 0 4 = (50, 0) := G129_145_0 M
  have hf1 : zgR (N129_145 M) 12 0 5 = (51, 0) := G129_145_1 M
  have hf2 : zgR (N129_145 M) 12 0 7 = (53, 0) := G129_145_2 M
  generalize hN : N129_145 M = X at hX hf0 hf1 hf2 ⊢
  refine (B129_184 (d + 3) 34 34 34 X).trans ?_
  show zgo true (d + 3) 129 163 [zr 12 0, zi 35] [] (zsR X 51 0 ((34 : Int32).toNatClampNeg) (4, 34)) = _
  rw [show zsR X 51 0 ((34 : Int32).toNatClampNeg) (4, 34) = zdo [(1, 51, 0, 34, (4, 34), 0)] X from rfl]
  subst hN
  rfl
theorem H129_146 (M : zM) (hn : znx M = 1) : znx (N129_146 M) = 288 := by
  show znx (zdo [(1, 51, 0, 34, (4, 34), 0)] (N129_145 M)) = _
  rw [zdo_nx, H129_145 M hn]
  rfl
set_option maxRecDepth 100000 in
theorem G129_146_0 (M : zM) : zgR (N129_146 M) 12 0 4 = (50, 0) := by
  show zgR (zdo [(1, 51, 0, 34, (4, 34), 0)] (N129_145 M)) 12 0 4 = _
  rw [zdo_R _ _ (by decide), G129_145_0 M]
set_option maxRecDepth 100000 in
theorem G129_146_1 (M : zM) : zgR (N129_146 M) 12 0 5 = (51, 0) := by
  show zgR (zdo [(1, 51, 0, 34, (4, 34), 0)] (N129_145 M)) 12 0 5 = _
  rw [zdo_R _ _ (by decide), G129_145_1 M]
set_option maxRecDepth 100000 in
theorem G129_146_2 (M : zM) : zgR (N129_146 M) 12 0 7 = (53, 0) := by
  show zgR (zdo [(1, 51, 0, 34, (4, 34), 0)] (N129_145 M)) 12 0 7 = _
  rw [zdo_R _ _ (by decide), G129_145_2 M]
def N129_147 (M : zM) : zM := zdo [(0, 4, 35, 0, (0, 0), 0)] (N129_146 M)
set_option maxRecDepth 100000 in
theorem T129_157 (d : Nat) (M : zM) (hn : znx M = 1) : zgo true (d + 3) 129 163 [zr 12 0, zi 35] [] (N129_146 M) = zgo true (d + 3) 129 180 [zr 12 0, zi 35] [zr 4 35, zi 35, zr 51 0] (N129_147 M) := by
  have hX : znx (N129_146 M) = 288 := H129_146 M hn
  have hf0 : zgR (N129_146 M) 12 0 4 = (50, 0) := G129_146_0 M
  have hf1 : zgR (N129_146 M) 12 0 5 = (51, 0) := G129_146_1 M
  have hf2 : zgR (N129_146 M) 12 0 7 = (53, 0) := G129_146_2 M
  generalize hN : N129_146 M = X at hX hf0 hf1 hf2 ⊢
  refine (B129_163 (d + 3) 35 X).trans ?_
  rw [show zgR (X) 12 0 5 = (51, 0) from hf1]
  have hz : znx X = 288 := hX
  rw [hz]
  clear hz
  show zgo true (d + 3) 129 180 [zr 12 0, zi 35] [zr 4 35, zi 35, zr 51 0] (znew X 4 35) = _
  rw [show znew X 4 35 = zdo [(0, 4, 35, 0, (0, 0), 0)] X from rfl]
  subst hN
  rfl
theorem H129_147 (M : zM) (hn : znx M = 1) : znx (N129_147 M) = 289 := by
  show znx (zdo [(0, 4, 35, 0, (0, 0), 0)] (N129_146 M)) = _
  rw [zdo_nx, H129_146 M hn]
  rfl
set_option maxRecDepth 100000 in
theorem G129_147_0 (M : zM) : zgR (N129_147 M) 12 0 4 = (50, 0) := by
  show zgR (zdo [(0, 4, 35, 0, (0, 0), 0)] (N129_146 M)) 12 0 4 = _
  rw [zdo_R _ _ (by decide), G129_146_0 M]
set_option maxRecDepth 100000 in
theorem G129_147_1 (M : zM) : zgR (N129_147 M) 12 0 5 = (51, 0) := by
  show zgR (zdo [(0, 4, 35, 0, (0, 0), 0)] (N129_146 M)) 12 0 5 = _
  rw [zdo_R _ _ (by decide), G129_146_1 M]
set_option maxRecDepth 100000 in
theorem G129_147_2 (M : zM) : zgR (N129_147 M) 12 0 7 = (53, 0) := by
  show zgR (zdo [(0, 4, 35, 0, (0, 0), 0)] (N129_146 M)) 12 0 7 = _
  rw [zdo_R _ _ (by decide), G129_146_2 M]
def D20_35 : List zOp := [(0, 24, 35, 0, (0, 0), 0), (1, 4, 35, 0, (24, 35), 0), (0, 25, 35, 0, (0, 0), 0), (1, 4, 35, 1, (25, 35), 0), (0, 26, 35, 0, (0, 0), 0), (1, 4, 35, 2, (26, 35), 0), (0, 27, 35, 0, (0, 0), 0), (1, 4, 35, 3, (27, 35), 0), (0, 28, 35, 0, (0, 0), 0), (1, 4, 35, 4, (28, 35), 0)]
set_option maxRecDepth 100000 in
set_option maxHeartbeats 4000000 in
theorem C20_35 (d : Nat) (M : zM) (hn : znx M = 289) : zgo true d 20 0 [zr 4 35] [] M = some (none, zdo D20_35 M) := by
  refine (B20_0 d 35 M).trans ?_
  have hz : znx M = 289 := hn
  rw [hz]
  clear hz
  show zgo true d 20 9 [zr 4 35] [zr 24 35, zr 4 35] (znew M 24 35) = _
  generalize hM1 : znew M 24 35 = M1
  have hn1 : znx M1 = 290 := by rw [← hM1]; exact congrArg (· + 1) hn
  refine (B20_9 d 35 35 24 35 M1).trans ?_
  have hz : znx (zsR M1 4 35 0 (24, 35)) = 290 := hn1
  rw [hz]
  clear hz
  show zgo true d 20 17 [zr 4 35] [zr 25 35, zr 4 35] (znew (zsR M1 4 35 0 (24, 35)) 25 35) = _
  generalize hM2 : znew (zsR M1 4 35 0 (24, 35)) 25 35 = M2
  have hn2 : znx M2 = 291 := by rw [← hM2]; exact congrArg (· + 1) hn1
  clear hn1
  refine (B20_17 d 35 35 25 35 M2).trans ?_
  have hz : znx (zsR M2 4 35 1 (25, 35)) = 291 := hn2
  rw [hz]
  clear hz
  show zgo true d 20 25 [zr 4 35] [zr 26 35, zr 4 35] (znew (zsR M2 4 35 1 (25, 35)) 26 35) = _
  generalize hM3 : znew (zsR M2 4 35 1 (25, 35)) 26 35 = M3
  have hn3 : znx M3 = 292 := by rw [← hM3]; exact congrArg (· + 1) hn2
  clear hn2
  refine (B20_25 d 35 35 26 35 M3).trans ?_
  show zgo true d 20 28 [zr 4 35] [] (zsR M3 4 35 2 (26, 35)) = _
  generalize hM4 : zsR M3 4 35 2 (26, 35) = M4
  have hn4 : znx M4 = 292 := by rw [← hM4]; exact hn3
  clear hn3
  refine (B20_28 d 35 M4).trans ?_
  have hz : znx M4 = 292 := hn4
  rw [hz]
  clear hz
  show zgo true d 20 33 [zr 4 35] [zr 27 35, zr 4 35] (znew M4 27 35) = _
  generalize hM5 : znew M4 27 35 = M5
  have hn5 : znx M5 = 293 := by rw [← hM5]; exact congrArg (· + 1) hn4
  clear hn4
  refine (B20_33 d 35 35 27 35 M5).trans ?_
  have hz : znx (zsR M5 4 35 3 (27, 35)) = 293 := hn5
  rw [hz]
  clear hz
  show zgo true d 20 41 [zr 4 35] [zr 28 35, zr 4 35] (znew (zsR M5 4 35 3 (27, 35)) 28 35) = _
  generalize hM6 : znew (zsR M5 4 35 3 (27, 35)) 28 35 = M6
  have hn6 : znx M6 = 294 := by rw [← hM6]; exact congrArg (· + 1) hn5
  clear hn5
  refine (B20_41 d 35 35 28 35 M6).trans ?_
  generalize hM7 : zsR M6 4 35 4 (28, 35) = M7
  have hn7 : znx M7 = 294 := by rw [← hM7]; exact hn6
  clear hn6
  subst hM7 hM6 hM5 hM4 hM3 hM2 hM1
  rfl
def N129_148 (M : zM) : zM := zdo D20_35 (N129_147 M)
set_option maxRecDepth 100000 in
theorem T129_158 (d : Nat) (M : zM) (hn : znx M = 1) : zgo true (d + 3) 129 180 [zr 12 0, zi 35] [zr 4 35, zi 35, zr 51 0] (N129_147 M) = zgo true (d + 3) 129 184 [zr 12 0, zi 35] [zr 4 35, zi 35, zr 51 0] (N129_148 M) := by
  have hX : znx (N129_147 M) = 289 := H129_147 M hn
  have hf0 : zgR (N129_147 M) 12 0 4 = (50, 0) := G129_147_0 M
  have hf1 : zgR (N129_147 M) 12 0 5 = (51, 0) := G129_147_1 M
  have hf2 : zgR (N129_147 M) 12 0 7 = (53, 0) := G129_147_2 M
  generalize hN : N129_147 M = X at hX hf0 hf1 hf2 ⊢
  refine (B129_180 (d + 2) 35 35 35 X).trans ?_
  show Option.bind (zgo true (d + 2) 20 0 [zr 4 35] [] (X)) _ = _
  refine zbind_of (C20_35 (d + 2) _ hX) ?_
  show zgo true (d + 3) 129 184 [zr 12 0, zi 35] [zr 4 35, zi 35, zr 51 0] (zdo D20_35 (X)) = _
  subst hN
  rfl
theorem H129_148 (M : zM) (hn : znx M = 1) : znx (N129_148 M) = 294 := by
  show znx (zdo D20_35 (N129_147 M)) = _
  rw [zdo_nx, H129_147 M hn]
  rfl
set_option maxRecDepth 100000 in
theorem G129_148_0 (M : zM) : zgR (N129_148 M) 12 0 4 = (50, 0) := by
  show zgR (zdo D20_35 (N129_147 M)) 12 0 4 = _
  rw [zdo_R _ _ (by decide), G129_147_0 M]
set_option maxRecDepth 100000 in
theorem G129_148_1 (M : zM) : zgR (N129_148 M) 12 0 5 = (51, 0) := by
  show zgR (zdo D20_35 (N129_147 M)) 12 0 5 = _
  rw [zdo_R _ _ (by decide), G129_147_1 M]
set_option maxRecDepth 100000 in
theorem G129_148_2 (M : zM) : zgR (N129_148 M) 12 0 7 = (53, 0) := by
  show zgR (zdo D20_35 (N129_147 M)) 12 0 7 = _
  rw [zdo_R _ _ (by decide), G129_147_2 M]
def N129_149 (M : zM) : zM := zdo [(1, 51, 0, 35, (4, 35), 0)] (N129_148 M)
set_option maxRecDepth 100000 in
theorem T129_159 (d : Nat) (M : zM) (hn : znx M = 1) : zgo true (d + 3) 129 184 [zr 12 0, zi 35] [zr 4 35, zi 35, zr 51 0] (N129_148 M) = zgo true (d + 3) 129 163 [zr 12 0, zi 36] [] (N129_149 M) := by
  have hX : znx (N129_148 M) = 294 := H129_148 M hn
  have hf0 : zgR (N129_148 M) 12 0 4 = (50, 0) := G129_148_0 M
  have hf1 : zgR (N129_148 M) 12 0 5 = (51, 0) := G129_148_1 M
  have hf2 : zgR (N129_148 M) 12 0 7 = (53, 0) := G129_148_2 M
  generalize hN : N129_148 M = X at hX hf0 hf1 hf2 ⊢
  refine (B129_184 (d + 3) 35 35 35 X).trans ?_
  show zgo true (d + 3) 129 163 [zr 12 0, zi 36] [] (zsR X 51 0 ((35 : Int32).toNatClampNeg) (4, 35)) = _
  rw [show zsR X 51 0 ((35 : Int32).toNatClampNeg) (4, 35) = zdo [(1, 51, 0, 35, (4, 35), 0)] X from rfl]
  subst hN
  rfl
theorem H129_149 (M : zM) (hn : znx M = 1) : znx (N129_149 M) = 294 := by
  show znx (zdo [(1, 51, 0, 35, (4, 35), 0)] (N129_148 M)) = _
  rw [zdo_nx, H129_148 M hn]
  rfl
set_option maxRecDepth 100000 in
theorem G129_149_0 (M : zM) : zgR (N129_149 M) 12 0 4 = (50, 0) := by
  show zgR (zdo [(1, 51, 0, 35, (4, 35), 0)] (N129_148 M)) 12 0 4 = _
  rw [zdo_R _ _ (by decide), G129_148_0 M]
set_option maxRecDepth 100000 in
theorem G129_149_1 (M : zM) : zgR (N129_149 M) 12 0 5 = (51, 0) := by
  show zgR (zdo [(1, 51, 0, 35, (4, 35), 0)] (N129_148 M)) 12 0 5 = _
  rw [zdo_R _ _ (by decide), G129_148_1 M]
set_option maxRecDepth 100000 in
theorem G129_149_2 (M : zM) : zgR (N129_149 M) 12 0 7 = (53, 0) := by
  show zgR (zdo [(1, 51, 0, 35, (4, 35), 0)] (N129_148 M)) 12 0 7 = _
  rw [zdo_R _ _ (by decide), G129_148_2 M]
def N129_150 (M : zM) : zM := zdo [(0, 4, 36, 0, (0, 0), 0)] (N129_149 M)
set_option maxRecDepth 100000 in
theorem T129_160 (d : Nat) (M : zM) (hn : znx M = 1) : zgo true (d + 3) 129 163 [zr 12 0, zi 36] [] (N129_149 M) = zgo true (d + 3) 129 180 [zr 12 0, zi 36] [zr 4 36, zi 36, zr 51 0] (N129_150 M) := by
  have hX : znx (N129_149 M) = 294 := H129_149 M hn
  have hf0 : zgR (N129_149 M) 12 0 4 = (50, 0) := G129_149_0 M
  have hf1 : zgR (N129_149 M) 12 0 5 = (51, 0) := G129_149_1 M
  have hf2 : zgR (N129_149 M) 12 0 7 = (53, 0) := G129_149_2 M
  generalize hN : N129_149 M = X at hX hf0 hf1 hf2 ⊢
  refine (B129_163 (d + 3) 36 X).trans ?_
  rw [show zgR (X) 12 0 5 = (51, 0) from hf1]
  have hz : znx X = 294 := hX
  rw [hz]
  clear hz
  show zgo true (d + 3) 129 180 [zr 12 0, zi 36] [zr 4 36, zi 36, zr 51 0] (znew X 4 36) = _
  rw [show znew X 4 36 = zdo [(0, 4, 36, 0, (0, 0), 0)] X from rfl]
  subst hN
  rfl
theorem H129_150 (M : zM) (hn : znx M = 1) : znx (N129_150 M) = 295 := by
  show znx (zdo [(0, 4, 36, 0, (0, 0), 0)] (N129_149 M)) = _
  rw [zdo_nx, H129_149 M hn]
  rfl
set_option maxRecDepth 100000 in
theorem G129_150_0 (M : zM) : zgR (N129_150 M) 12 0 4 = (50, 0) := by
  show zgR (zdo [(0, 4, 36, 0, (0, 0), 0)] (N129_149 M)) 12 0 4 = _
  rw [zdo_R _ _ (by decide), G129_149_0 M]
set_option maxRecDepth 100000 in
theorem G129_150_1 (M : zM) : zgR (N129_150 M) 12 0 5 = (51, 0) := by
  show zgR (zdo [(0, 4, 36, 0, (0, 0), 0)] (N129_149 M)) 12 0 5 = _
  rw [zdo_R _ _ (by decide), G129_149_1 M]
set_option maxRecDepth 100000 in
theorem G129_150_2 (M : zM) : zgR (N129_150 M) 12 0 7 = (53, 0) := by
  show zgR (zdo [(0, 4, 36, 0, (0, 0), 0)] (N129_149 M)) 12 0 7 = _
  rw [zdo_R _ _ (by decide), G129_149_2 M]
def D20_36 : List zOp := [(0, 24, 36, 0, (0, 0), 0), (1, 4, 36, 0, (24, 36), 0), (0, 25, 36, 0, (0, 0), 0), (1, 4, 36, 1, (25, 36), 0), (0, 26, 36, 0, (0, 0), 0), (1, 4, 36, 2, (26, 36), 0), (0, 27, 36, 0, (0, 0), 0), (1, 4, 36, 3, (27, 36), 0), (0, 28, 36, 0, (0, 0), 0), (1, 4, 36, 4, (28, 36), 0)]
set_option maxRecDepth 100000 in
set_option maxHeartbeats 4000000 in
theorem C20_36 (d : Nat) (M : zM) (hn : znx M = 295) : zgo true d 20 0 [zr 4 36] [] M = some (none, zdo D20_36 M) := by
  refine (B20_0 d 36 M).trans ?_
  have hz : znx M = 295 := hn
  rw [hz]
  clear hz
  show zgo true d 20 9 [zr 4 36] [zr 24 36, zr 4 36] (znew M 24 36) = _
  generalize hM1 : znew M 24 36 = M1
  have hn1 : znx M1 = 296 := by rw [← hM1]; exact congrArg (· + 1) hn
  refine (B20_9 d 36 36 24 36 M1).trans ?_
  have hz : znx (zsR M1 4 36 0 (24, 36)) = 296 := hn1
  rw [hz]
  clear hz
  show zgo true d 20 17 [zr 4 36] [zr 25 36, zr 4 36] (znew (zsR M1 4 36 0 (24, 36)) 25 36) = _
  generalize hM2 : znew (zsR M1 4 36 0 (24, 36)) 25 36 = M2
  have hn2 : znx M2 = 297 := by rw [← hM2]; exact congrArg (· + 1) hn1
  clear hn1
  refine (B20_17 d 36 36 25 36 M2).trans ?_
  have hz : znx (zsR M2 4 36 1 (25, 36)) = 297 := hn2
  rw [hz]
  clear hz
  show zgo true d 20 25 [zr 4 36] [zr 26 36, zr 4 36] (znew (zsR M2 4 36 1 (25, 36)) 26 36) = _
  generalize hM3 : znew (zsR M2 4 36 1 (25, 36)) 26 36 = M3
  have hn3 : znx M3 = 298 := by rw [← hM3]; exact congrArg (· + 1) hn2
  clear hn2
  refine (B20_25 d 36 36 26 36 M3).trans ?_
  show zgo true d 20 28 [zr 4 36] [] (zsR M3 4 36 2 (26, 36)) = _
  generalize hM4 : zsR M3 4 36 2 (26, 36) = M4
  have hn4 : znx M4 = 298 := by rw [← hM4]; exact hn3
  clear hn3
  refine (B20_28 d 36 M4).trans ?_
  have hz : znx M4 = 298 := hn4
  rw [hz]
  clear hz
  show zgo true d 20 33 [zr 4 36] [zr 27 36, zr 4 36] (znew M4 27 36) = _
  generalize hM5 : znew M4 27 36 = M5
  have hn5 : znx M5 = 299 := by rw [← hM5]; exact congrArg (· + 1) hn4
  clear hn4
  refine (B20_33 d 36 36 27 36 M5).trans ?_
  have hz : znx (zsR M5 4 36 3 (27, 36)) = 299 := hn5
  rw [hz]
  clear hz
  show zgo true d 20 41 [zr 4 36] [zr 28 36, zr 4 36] (znew (zsR M5 4 36 3 (27, 36)) 28 36) = _
  generalize hM6 : znew (zsR M5 4 36 3 (27, 36)) 28 36 = M6
  have hn6 : znx M6 = 300 := by rw [← hM6]; exact congrArg (· + 1) hn5
  clear hn5
  refine (B20_41 d 36 36 28 36 M6).trans ?_
  generalize hM7 : zsR M6 4 36 4 (28, 36) = M7
  have hn7 : znx M7 = 300 := by rw [← hM7]; exact hn6
  clear hn6
  subst hM7 hM6 hM5 hM4 hM3 hM2 hM1
  rfl
def N129_151 (M : zM) : zM := zdo D20_36 (N129_150 M)
set_option maxRecDepth 100000 in
theorem T129_161 (d : Nat) (M : zM) (hn : znx M = 1) : zgo true (d + 3) 129 180 [zr 12 0, zi 36] [zr 4 36, zi 36, zr 51 0] (N129_150 M) = zgo true (d + 3) 129 184 [zr 12 0, zi 36] [zr 4 36, zi 36, zr 51 0] (N129_151 M) := by
  have hX : znx (N129_150 M) = 295 := H129_150 M hn
  have hf0 : zgR (N129_150 M) 12 0 4 = (50, 0) := G129_150_0 M
  have hf1 : zgR (N129_150 M) 12 0 5 = (51, 0) := G129_150_1 M
  have hf2 : zgR (N129_150 M) 12 0 7 = (53, 0) := G129_150_2 M
  generalize hN : N129_150 M = X at hX hf0 hf1 hf2 ⊢
  refine (B129_180 (d + 2) 36 36 36 X).trans ?_
  show Option.bind (zgo true (d + 2) 20 0 [zr 4 36] [] (X)) _ = _
  refine zbind_of (C20_36 (d + 2) _ hX) ?_
  show zgo true (d + 3) 129 184 [zr 12 0, zi 36] [zr 4 36, zi 36, zr 51 0] (zdo D20_36 (X)) = _
  subst hN
  rfl
theorem H129_151 (M : zM) (hn : znx M = 1) : znx (N129_151 M) = 300 := by
  show znx (zdo D20_36 (N129_150 M)) = _
  rw [zdo_nx, H129_150 M hn]
  rfl
set_option maxRecDepth 100000 in
theorem G129_151_0 (M : zM) : zgR (N129_151 M) 12 0 4 = (50, 0) := by
  show zgR (zdo D20_36 (N129_150 M)) 12 0 4 = _
  rw [zdo_R _ _ (by decide), G129_150_0 M]
set_option maxRecDepth 100000 in
theorem G129_151_1 (M : zM) : zgR (N129_151 M) 12 0 5 = (51, 0) := by
  show zgR (zdo D20_36 (N129_150 M)) 12 0 5 = _
  rw [zdo_R _ _ (by decide), G129_150_1 M]
set_option maxRecDepth 100000 in
theorem G129_151_2 (M : zM) : zgR (N129_151 M) 12 0 7 = (53, 0) := by
  show zgR (zdo D20_36 (N129_150 M)) 12 0 7 = _
  rw [zdo_R _ _ (by decide), G129_150_2 M]
def N129_152 (M : zM) : zM := zdo [(1, 51, 0, 36, (4, 36), 0)] (N129_151 M)
set_option maxRecDepth 100000 in
theorem T129_162 (d : Nat) (M : zM) (hn : znx M = 1) : zgo true (d + 3) 129 184 [zr 12 0, zi 36] [zr 4 36, zi 36, zr 51 0] (N129_151 M) = zgo true (d + 3) 129 163 [zr 12 0, zi 37] [] (N129_152 M) := by
  have hX : znx (N129_151 M) = 300 := H129_151 M hn
  have hf0 : zgR (N129_151 M) 12 0 4 = (50, 0) := G129_151_0 M
  have hf1 : zgR (N129_151 M) 12 0 5 = (51, 0) := G129_151_1 M
  have hf2 : zgR (N129_151 M) 12 0 7 = (53, 0) := G129_151_2 M
  generalize hN : N129_151 M = X at hX hf0 hf1 hf2 ⊢
  refine (B129_184 (d + 3) 36 36 36 X).trans ?_
  show zgo true (d + 3) 129 163 [zr 12 0, zi 37] [] (zsR X 51 0 ((36 : Int32).toNatClampNeg) (4, 36)) = _
  rw [show zsR X 51 0 ((36 : Int32).toNatClampNeg) (4, 36) = zdo [(1, 51, 0, 36, (4, 36), 0)] X from rfl]
  subst hN
  rfl
theorem H129_152 (M : zM) (hn : znx M = 1) : znx (N129_152 M) = 300 := by
  show znx (zdo [(1, 51, 0, 36, (4, 36), 0)] (N129_151 M)) = _
  rw [zdo_nx, H129_151 M hn]
  rfl
set_option maxRecDepth 100000 in
theorem G129_152_0 (M : zM) : zgR (N129_152 M) 12 0 4 = (50, 0) := by
  show zgR (zdo [(1, 51, 0, 36, (4, 36), 0)] (N129_151 M)) 12 0 4 = _
  rw [zdo_R _ _ (by decide), G129_151_0 M]
set_option maxRecDepth 100000 in
theorem G129_152_1 (M : zM) : zgR (N129_152 M) 12 0 5 = (51, 0) := by
  show zgR (zdo [(1, 51, 0, 36, (4, 36), 0)] (N129_151 M)) 12 0 5 = _
  rw [zdo_R _ _ (by decide), G129_151_1 M]
set_option maxRecDepth 100000 in
theorem G129_152_2 (M : zM) : zgR (N129_152 M) 12 0 7 = (53, 0) := by
  show zgR (zdo [(1, 51, 0, 36, (4, 36), 0)] (N129_151 M)) 12 0 7 = _
  rw [zdo_R _ _ (by decide), G129_151_2 M]
def N129_153 (M : zM) : zM := zdo [(0, 4, 37, 0, (0, 0), 0)] (N129_152 M)
set_option maxRecDepth 100000 in
theorem T129_163 (d : Nat) (M : zM) (hn : znx M = 1) : zgo true (d + 3) 129 163 [zr 12 0, zi 37] [] (N129_152 M) = zgo true (d + 3) 129 180 [zr 12 0, zi 37] [zr 4 37, zi 37, zr 51 0] (N129_153 M) := by
  have hX : znx (N129_152 M) = 300 := H129_152 M hn
  have hf0 : zgR (N129_152 M) 12 0 4 = (50, 0) := G129_152_0 M
  have hf1 : zgR (N129_152 M) 12 0 5 = (51, 0) := G129_152_1 M
  have hf2 : zgR (N129_152 M) 12 0 7 = (53, 0) := G129_152_2 M
  generalize hN : N129_152 M = X at hX hf0 hf1 hf2 ⊢
  refine (B129_163 (d + 3) 37 X).trans ?_
  rw [show zgR (X) 12 0 5 = (51, 0) from hf1]
  have hz : znx X = 300 := hX
  rw [hz]
  clear hz
  show zgo true (d + 3) 129 180 [zr 12 0, zi 37] [zr 4 37, zi 37, zr 51 0] (znew X 4 37) = _
  rw [show znew X 4 37 = zdo [(0, 4, 37, 0, (0, 0), 0)] X from rfl]
  subst hN
  rfl
theorem H129_153 (M : zM) (hn : znx M = 1) : znx (N129_153 M) = 301 := by
  show znx (zdo [(0, 4, 37, 0, (0, 0), 0)] (N129_152 M)) = _
  rw [zdo_nx, H129_152 M hn]
  rfl
set_option maxRecDepth 100000 in
theorem G129_153_0 (M : zM) : zgR (N129_153 M) 12 0 4 = (50, 0) := by
  show zgR (zdo [(0, 4, 37, 0, (0, 0), 0)] (N129_152 M)) 12 0 4 = _
  rw [zdo_R _ _ (by decide), G129_152_0 M]
set_option maxRecDepth 100000 in
theorem G129_153_1 (M : zM) : zgR (N129_153 M) 12 0 5 = (51, 0) := by
  show zgR (zdo [(0, 4, 37, 0, (0, 0), 0)] (N129_152 M)) 12 0 5 = _
  rw [zdo_R _ _ (by decide), G129_152_1 M]
set_option maxRecDepth 100000 in
theorem G129_153_2 (M : zM) : zgR (N129_153 M) 12 0 7 = (53, 0) := by
  show zgR (zdo [(0, 4, 37, 0, (0, 0), 0)] (N129_152 M)) 12 0 7 = _
  rw [zdo_R _ _ (by decide), G129_152_2 M]
def D20_37 : List zOp := [(0, 24, 37, 0, (0, 0), 0), (1, 4, 37, 0, (24, 37), 0), (0, 25, 37, 0, (0, 0), 0), (1, 4, 37, 1, (25, 37), 0), (0, 26, 37, 0, (0, 0), 0), (1, 4, 37, 2, (26, 37), 0), (0, 27, 37, 0, (0, 0), 0), (1, 4, 37, 3, (27, 37), 0), (0, 28, 37, 0, (0, 0), 0), (1, 4, 37, 4, (28, 37), 0)]
set_option maxRecDepth 100000 in
set_option maxHeartbeats 4000000 in
theorem C20_37 (d : Nat) (M : zM) (hn : znx M = 301) : zgo true d 20 0 [zr 4 37] [] M = some (none, zdo D20_37 M) := by
  refine (B20_0 d 37 M).trans ?_
  have hz : znx M = 301 := hn
  rw [hz]
  clear hz
  show zgo true d 20 9 [zr 4 37] [zr 24 37, zr 4 37] (znew M 24 37) = _
  generalize hM1 : znew M 24 37 = M1
  have hn1 : znx M1 = 302 := by rw [← hM1]; exact congrArg (· + 1) hn
  refine (B20_9 d 37 37 24 37 M1).trans ?_
  have hz : znx (zsR M1 4 37 0 (24, 37)) = 302 := hn1
  rw [hz]
  clear hz
  show zgo true d 20 17 [zr 4 37] [zr 25 37, zr 4 37] (znew (zsR M1 4 37 0 (24, 37)) 25 37) = _
  generalize hM2 : znew (zsR M1 4 37 0 (24, 37)) 25 37 = M2
  have hn2 : znx M2 = 303 := by rw [← hM2]; exact congrArg (· + 1) hn1
  clear hn1
  refine (B20_17 d 37 37 25 37 M2).trans ?_
  have hz : znx (zsR M2 4 37 1 (25, 37)) = 303 := hn2
  rw [hz]
  clear hz
  show zgo true d 20 25 [zr 4 37] [zr 26 37, zr 4 37] (znew (zsR M2 4 37 1 (25, 37)) 26 37) = _
  generalize hM3 : znew (zsR M2 4 37 1 (25, 37)) 26 37 = M3
  have hn3 : znx M3 = 304 := by rw [← hM3]; exact congrArg (· + 1) hn2
  clear hn2
  refine (B20_25 d 37 37 26 37 M3).trans ?_
  show zgo true d 20 28 [zr 4 37] [] (zsR M3 4 37 2 (26, 37)) = _
  generalize hM4 : zsR M3 4 37 2 (26, 37) = M4
  have hn4 : znx M4 = 304 := by rw [← hM4]; exact hn3
  clear hn3
  refine (B20_28 d 37 M4).trans ?_
  have hz : znx M4 = 304 := hn4
  rw [hz]
  clear hz
  show zgo true d 20 33 [zr 4 37] [zr 27 37, zr 4 37] (znew M4 27 37) = _
  generalize hM5 : znew M4 27 37 = M5
  have hn5 : znx M5 = 305 := by rw [← hM5]; exact congrArg (· + 1) hn4
  clear hn4
  refine (B20_33 d 37 37 27 37 M5).trans ?_
  have hz : znx (zsR M5 4 37 3 (27, 37)) = 305 := hn5
  rw [hz]
  clear hz
  show zgo true d 20 41 [zr 4 37] [zr 28 37, zr 4 37] (znew (zsR M5 4 37 3 (27, 37)) 28 37) = _
  generalize hM6 : znew (zsR M5 4 37 3 (27, 37)) 28 37 = M6
  have hn6 : znx M6 = 306 := by rw [← hM6]; exact congrArg (· + 1) hn5
  clear hn5
  refine (B20_41 d 37 37 28 37 M6).trans ?_
  generalize hM7 : zsR M6 4 37 4 (28, 37) = M7
  have hn7 : znx M7 = 306 := by rw [← hM7]; exact hn6
  clear hn6
  subst hM7 hM6 hM5 hM4 hM3 hM2 hM1
  rfl
def N129_154 (M : zM) : zM := zdo D20_37 (N129_153 M)
set_option maxRecDepth 100000 in
theorem T129_164 (d : Nat) (M : zM) (hn : znx M = 1) : zgo true (d + 3) 129 180 [zr 12 0, zi 37] [zr 4 37, zi 37, zr 51 0] (N129_153 M) = zgo true (d + 3) 129 184 [zr 12 0, zi 37] [zr 4 37, zi 37, zr 51 0] (N129_154 M) := by
  have hX : znx (N129_153 M) = 301 := H129_153 M hn
  have hf0 : zgR (N129_153 M) 12 0 4 = (50, 0) := G129_153_0 M
  have hf1 : zgR (N129_153 M) 12 0 5 = (51, 0) := G129_153_1 M
  have hf2 : zgR (N129_153 M) 12 0 7 = (53, 0) := G129_153_2 M
  generalize hN : N129_153 M = X at hX hf0 hf1 hf2 ⊢
  refine (B129_180 (d + 2) 37 37 37 X).trans ?_
  show Option.bind (zgo true (d + 2) 20 0 [zr 4 37] [] (X)) _ = _
  refine zbind_of (C20_37 (d + 2) _ hX) ?_
  show zgo true (d + 3) 129 184 [zr 12 0, zi 37] [zr 4 37, zi 37, zr 51 0] (zdo D20_37 (X)) = _
  subst hN
  rfl
theorem H129_154 (M : zM) (hn : znx M = 1) : znx (N129_154 M) = 306 := by
  show znx (zdo D20_37 (N129_153 M)) = _
  rw [zdo_nx, H129_153 M hn]
  rfl
set_option maxRecDepth 100000 in
theorem G129_154_0 (M : zM) : zgR (N129_154 M) 12 0 4 = (50, 0) := by
  show zgR (zdo D20_37 (N129_153 M)) 12 0 4 = _
  rw [zdo_R _ _ (by decide), G129_153_0 M]
set_option maxRecDepth 100000 in
theorem G129_154_1 (M : zM) : zgR (N129_154 M) 12 0 5 = (51, 0) := by
  show zgR (zdo D20_37 (N129_153 M)) 12 0 5 = _
  rw [zdo_R _ _ (by decide), G129_153_1 M]
set_option maxRecDepth 100000 in
theorem G129_154_2 (M : zM) : zgR (N129_154 M) 12 0 7 = (53, 0) := by
  show zgR (zdo D20_37 (N129_153 M)) 12 0 7 = _
  rw [zdo_R _ _ (by decide), G129_153_2 M]
def N129_155 (M : zM) : zM := zdo [(1, 51, 0, 37, (4, 37), 0)] (N129_154 M)
set_option maxRecDepth 100000 in
theorem T129_165 (d : Nat) (M : zM) (hn : znx M = 1) : zgo true (d + 3) 129 184 [zr 12 0, zi 37] [zr 4 37, zi 37, zr 51 0] (N129_154 M) = zgo true (d + 3) 129 163 [zr 12 0, zi 38] [] (N129_155 M) := by
  have hX : znx (N129_154 M) = 306 := H129_154 M hn
  have hf0 : zgR (N129_154 M) 12 0 4 = (50, 0) := G129_154_0 M
  have hf1 : zgR (N129_154 M) 12 0 5 = (51, 0) := G129_154_1 M
  have hf2 : zgR (N129_154 M) 12 0 7 = (53, 0) := G129_154_2 M
  generalize hN : N129_154 M = X at hX hf0 hf1 hf2 ⊢
  refine (B129_184 (d + 3) 37 37 37 X).trans ?_
  show zgo true (d + 3) 129 163 [zr 12 0, zi 38] [] (zsR X 51 0 ((37 : Int32).toNatClampNeg) (4, 37)) = _
  rw [show zsR X 51 0 ((37 : Int32).toNatClampNeg) (4, 37) = zdo [(1, 51, 0, 37, (4, 37), 0)] X from rfl]
  subst hN
  rfl
theorem H129_155 (M : zM) (hn : znx M = 1) : znx (N129_155 M) = 306 := by
  show znx (zdo [(1, 51, 0, 37, (4, 37), 0)] (N129_154 M)) = _
  rw [zdo_nx, H129_154 M hn]
  rfl
set_option maxRecDepth 100000 in
theorem G129_155_0 (M : zM) : zgR (N129_155 M) 12 0 4 = (50, 0) := by
  show zgR (zdo [(1, 51, 0, 37, (4, 37), 0)] (N129_154 M)) 12 0 4 = _
  rw [zdo_R _ _ (by decide), G129_154_0 M]
set_option maxRecDepth 100000 in
theorem G129_155_1 (M : zM) : zgR (N129_155 M) 12 0 5 = (51, 0) := by
  show zgR (zdo [(1, 51, 0, 37, (4, 37), 0)] (N129_154 M)) 12 0 5 = _
  rw [zdo_R _ _ (by decide), G129_154_1 M]
set_option maxRecDepth 100000 in
theorem G129_155_2 (M : zM) : zgR (N129_155 M) 12 0 7 = (53, 0) := by
  show zgR (zdo [(1, 51, 0, 37, (4, 37), 0)] (N129_154 M)) 12 0 7 = _
  rw [zdo_R _ _ (by decide), G129_154_2 M]
def N129_156 (M : zM) : zM := zdo [(0, 4, 38, 0, (0, 0), 0)] (N129_155 M)
set_option maxRecDepth 100000 in
theorem T129_166 (d : Nat) (M : zM) (hn : znx M = 1) : zgo true (d + 3) 129 163 [zr 12 0, zi 38] [] (N129_155 M) = zgo true (d + 3) 129 180 [zr 12 0, zi 38] [zr 4 38, zi 38, zr 51 0] (N129_156 M) := by
  have hX : znx (N129_155 M) = 306 := H129_155 M hn
  have hf0 : zgR (N129_155 M) 12 0 4 = (50, 0) := G129_155_0 M
  have hf1 : zgR (N129_155 M) 12 0 5 = (51, 0) := G129_155_1 M
  have hf2 : zgR (N129_155 M) 12 0 7 = (53, 0) := G129_155_2 M
  generalize hN : N129_155 M = X at hX hf0 hf1 hf2 ⊢
  refine (B129_163 (d + 3) 38 X).trans ?_
  rw [show zgR (X) 12 0 5 = (51, 0) from hf1]
  have hz : znx X = 306 := hX
  rw [hz]
  clear hz
  show zgo true (d + 3) 129 180 [zr 12 0, zi 38] [zr 4 38, zi 38, zr 51 0] (znew X 4 38) = _
  rw [show znew X 4 38 = zdo [(0, 4, 38, 0, (0, 0), 0)] X from rfl]
  subst hN
  rfl
theorem H129_156 (M : zM) (hn : znx M = 1) : znx (N129_156 M) = 307 := by
  show znx (zdo [(0, 4, 38, 0, (0, 0), 0)] (N129_155 M)) = _
  rw [zdo_nx, H129_155 M hn]
  rfl
set_option maxRecDepth 100000 in
theorem G129_156_0 (M : zM) : zgR (N129_156 M) 12 0 4 = (50, 0) := by
  show zgR (zdo [(0, 4, 38, 0, (0, 0), 0)] (N129_155 M)) 12 0 4 = _
  rw [zdo_R _ _ (by decide), G129_155_0 M]
set_option maxRecDepth 100000 in
theorem G129_156_1 (M : zM) : zgR (N129_156 M) 12 0 5 = (51, 0) := by
  show zgR (zdo [(0, 4, 38, 0, (0, 0), 0)] (N129_155 M)) 12 0 5 = _
  rw [zdo_R _ _ (by decide), G129_155_1 M]
set_option maxRecDepth 100000 in
theorem G129_156_2 (M : zM) : zgR (N129_156 M) 12 0 7 = (53, 0) := by
  show zgR (zdo [(0, 4, 38, 0, (0, 0), 0)] (N129_155 M)) 12 0 7 = _
  rw [zdo_R _ _ (by decide), G129_155_2 M]
def D20_38 : List zOp := [(0, 24, 38, 0, (0, 0), 0), (1, 4, 38, 0, (24, 38), 0), (0, 25, 38, 0, (0, 0), 0), (1, 4, 38, 1, (25, 38), 0), (0, 26, 38, 0, (0, 0), 0), (1, 4, 38, 2, (26, 38), 0), (0, 27, 38, 0, (0, 0), 0), (1, 4, 38, 3, (27, 38), 0), (0, 28, 38, 0, (0, 0), 0), (1, 4, 38, 4, (28, 38), 0)]
set_option maxRecDepth 100000 in
set_option maxHeartbeats 4000000 in
theorem C20_38 (d : Nat) (M : zM) (hn : znx M = 307) : zgo true d 20 0 [zr 4 38] [] M = some (none, zdo D20_38 M) := by
  refine (B20_0 d 38 M).trans ?_
  have hz : znx M = 307 := hn
  rw [hz]
  clear hz
  show zgo true d 20 9 [zr 4 38] [zr 24 38, zr 4 38] (znew M 24 38) = _
  generalize hM1 : znew M 24 38 = M1
  have hn1 : znx M1 = 308 := by rw [← hM1]; exact congrArg (· + 1) hn
  refine (B20_9 d 38 38 24 38 M1).trans ?_
  have hz : znx (zsR M1 4 38 0 (24, 38)) = 308 := hn1
  rw [hz]
  clear hz
  show zgo true d 20 17 [zr 4 38] [zr 25 38, zr 4 38] (znew (zsR M1 4 38 0 (24, 38)) 25 38) = _
  generalize hM2 : znew (zsR M1 4 38 0 (24, 38)) 25 38 = M2
  have hn2 : znx M2 = 309 := by rw [← hM2]; exact congrArg (· + 1) hn1
  clear hn1
  refine (B20_17 d 38 38 25 38 M2).trans ?_
  have hz : znx (zsR M2 4 38 1 (25, 38)) = 309 := hn2
  rw [hz]
  clear hz
  show zgo true d 20 25 [zr 4 38] [zr 26 38, zr 4 38] (znew (zsR M2 4 38 1 (25, 38)) 26 38) = _
  generalize hM3 : znew (zsR M2 4 38 1 (25, 38)) 26 38 = M3
  have hn3 : znx M3 = 310 := by rw [← hM3]; exact congrArg (· + 1) hn2
  clear hn2
  refine (B20_25 d 38 38 26 38 M3).trans ?_
  show zgo true d 20 28 [zr 4 38] [] (zsR M3 4 38 2 (26, 38)) = _
  generalize hM4 : zsR M3 4 38 2 (26, 38) = M4
  have hn4 : znx M4 = 310 := by rw [← hM4]; exact hn3
  clear hn3
  refine (B20_28 d 38 M4).trans ?_
  have hz : znx M4 = 310 := hn4
  rw [hz]
  clear hz
  show zgo true d 20 33 [zr 4 38] [zr 27 38, zr 4 38] (znew M4 27 38) = _
  generalize hM5 : znew M4 27 38 = M5
  have hn5 : znx M5 = 311 := by rw [← hM5]; exact congrArg (· + 1) hn4
  clear hn4
  refine (B20_33 d 38 38 27 38 M5).trans ?_
  have hz : znx (zsR M5 4 38 3 (27, 38)) = 311 := hn5
  rw [hz]
  clear hz
  show zgo true d 20 41 [zr 4 38] [zr 28 38, zr 4 38] (znew (zsR M5 4 38 3 (27, 38)) 28 38) = _
  generalize hM6 : znew (zsR M5 4 38 3 (27, 38)) 28 38 = M6
  have hn6 : znx M6 = 312 := by rw [← hM6]; exact congrArg (· + 1) hn5
  clear hn5
  refine (B20_41 d 38 38 28 38 M6).trans ?_
  generalize hM7 : zsR M6 4 38 4 (28, 38) = M7
  have hn7 : znx M7 = 312 := by rw [← hM7]; exact hn6
  clear hn6
  subst hM7 hM6 hM5 hM4 hM3 hM2 hM1
  rfl
def N129_157 (M : zM) : zM := zdo D20_38 (N129_156 M)
set_option maxRecDepth 100000 in
theorem T129_167 (d : Nat) (M : zM) (hn : znx M = 1) : zgo true (d + 3) 129 180 [zr 12 0, zi 38] [zr 4 38, zi 38, zr 51 0] (N129_156 M) = zgo true (d + 3) 129 184 [zr 12 0, zi 38] [zr 4 38, zi 38, zr 51 0] (N129_157 M) := by
  have hX : znx (N129_156 M) = 307 := H129_156 M hn
  have hf0 : zgR (N129_156 M) 12 0 4 = (50, 0) := G129_156_0 M
  have hf1 : zgR (N129_156 M) 12 0 5 = (51, 0) := G129_156_1 M
  have hf2 : zgR (N129_156 M) 12 0 7 = (53, 0) := G129_156_2 M
  generalize hN : N129_156 M = X at hX hf0 hf1 hf2 ⊢
  refine (B129_180 (d + 2) 38 38 38 X).trans ?_
  show Option.bind (zgo true (d + 2) 20 0 [zr 4 38] [] (X)) _ = _
  refine zbind_of (C20_38 (d + 2) _ hX) ?_
  show zgo true (d + 3) 129 184 [zr 12 0, zi 38] [zr 4 38, zi 38, zr 51 0] (zdo D20_38 (X)) = _
  subst hN
  rfl
theorem H129_157 (M : zM) (hn : znx M = 1) : znx (N129_157 M) = 312 := by
  show znx (zdo D20_38 (N129_156 M)) = _
  rw [zdo_nx, H129_156 M hn]
  rfl
set_option maxRecDepth 100000 in
theorem G129_157_0 (M : zM) : zgR (N129_157 M) 12 0 4 = (50, 0) := by
  show zgR (zdo D20_38 (N129_156 M)) 12 0 4 = _
  rw [zdo_R _ _ (by decide), G129_156_0 M]
set_option maxRecDepth 100000 in
theorem G129_157_1 (M : zM) : zgR (N129_157 M) 12 0 5 = (51, 0) := by
  show zgR (zdo D20_38 (N129_156 M)) 12 0 5 = _
  rw [zdo_R _ _ (by decide), G129_156_1 M]
set_option maxRecDepth 100000 in
theorem G129_157_2 (M : zM) : zgR (N129_157 M) 12 0 7 = (53, 0) := by
  show zgR (zdo D20_38 (N129_156 M)) 12 0 7 = _
  rw [zdo_R _ _ (by decide), G129_156_2 M]
def N129_158 (M : zM) : zM := zdo [(1, 51, 0, 38, (4, 38), 0)] (N129_157 M)
set_option maxRecDepth 100000 in
theorem T129_168 (d : Nat) (M : zM) (hn : znx M = 1) : zgo true (d + 3) 129 184 [zr 12 0, zi 38] [zr 4 38, zi 38, zr 51 0] (N129_157 M) = zgo true (d + 3) 129 163 [zr 12 0, zi 39] [] (N129_158 M) := by
  have hX : znx (N129_157 M) = 312 := H129_157 M hn
  have hf0 : zgR (N129_157 M) 12 0 4 = (50, 0) := G129_157_0 M
  have hf1 : zgR (N129_157 M) 12 0 5 = (51, 0) := G129_157_1 M
  have hf2 : zgR (N129_157 M) 12 0 7 = (53, 0) := G129_157_2 M
  generalize hN : N129_157 M = X at hX hf0 hf1 hf2 ⊢
  refine (B129_184 (d + 3) 38 38 38 X).trans ?_
  show zgo true (d + 3) 129 163 [zr 12 0, zi 39] [] (zsR X 51 0 ((38 : Int32).toNatClampNeg) (4, 38)) = _
  rw [show zsR X 51 0 ((38 : Int32).toNatClampNeg) (4, 38) = zdo [(1, 51, 0, 38, (4, 38), 0)] X from rfl]
  subst hN
  rfl
theorem H129_158 (M : zM) (hn : znx M = 1) : znx (N129_158 M) = 312 := by
  show znx (zdo [(1, 51, 0, 38, (4, 38), 0)] (N129_157 M)) = _
  rw [zdo_nx, H129_157 M hn]
  rfl
set_option maxRecDepth 100000 in
theorem G129_158_0 (M : zM) : zgR (N129_158 M) 12 0 4 = (50, 0) := by
  show zgR (zdo [(1, 51, 0, 38, (4, 38), 0)] (N129_157 M)) 12 0 4 = _
  rw [zdo_R _ _ (by decide), G129_157_0 M]
set_option maxRecDepth 100000 in
theorem G129_158_1 (M : zM) : zgR (N129_158 M) 12 0 5 = (51, 0) := by
  show zgR (zdo [(1, 51, 0, 38, (4, 38), 0)] (N129_157 M)) 12 0 5 = _
  rw [zdo_R _ _ (by decide), G129_157_1 M]
set_option maxRecDepth 100000 in
theorem G129_158_2 (M : zM) : zgR (N129_158 M) 12 0 7 = (53, 0) := by
  show zgR (zdo [(1, 51, 0, 38, (4, 38), 0)] (N129_157 M)) 12 0 7 = _
  rw [zdo_R _ _ (by decide), G129_157_2 M]
def N129_159 (M : zM) : zM := zdo [(0, 4, 39, 0, (0, 0), 0)] (N129_158 M)
set_option maxRecDepth 100000 in
theorem T129_169 (d : Nat) (M : zM) (hn : znx M = 1) : zgo true (d + 3) 129 163 [zr 12 0, zi 39] [] (N129_158 M) = zgo true (d + 3) 129 180 [zr 12 0, zi 39] [zr 4 39, zi 39, zr 51 0] (N129_159 M) := by
  have hX : znx (N129_158 M) = 312 := H129_158 M hn
  have hf0 : zgR (N129_158 M) 12 0 4 = (50, 0) := G129_158_0 M
  have hf1 : zgR (N129_158 M) 12 0 5 = (51, 0) := G129_158_1 M
  have hf2 : zgR (N129_158 M) 12 0 7 = (53, 0) := G129_158_2 M
  generalize hN : N129_158 M = X at hX hf0 hf1 hf2 ⊢
  refine (B129_163 (d + 3) 39 X).trans ?_
  rw [show zgR (X) 12 0 5 = (51, 0) from hf1]
  have hz : znx X = 312 := hX
  rw [hz]
  clear hz
  show zgo true (d + 3) 129 180 [zr 12 0, zi 39] [zr 4 39, zi 39, zr 51 0] (znew X 4 39) = _
  rw [show znew X 4 39 = zdo [(0, 4, 39, 0, (0, 0), 0)] X from rfl]
  subst hN
  rfl
theorem H129_159 (M : zM) (hn : znx M = 1) : znx (N129_159 M) = 313 := by
  show znx (zdo [(0, 4, 39, 0, (0, 0), 0)] (N129_158 M)) = _
  rw [zdo_nx, H129_158 M hn]
  rfl
set_option maxRecDepth 100000 in
theorem G129_159_0 (M : zM) : zgR (N129_159 M) 12 0 4 = (50, 0) := by
  show zgR (zdo [(0, 4, 39, 0, (0, 0), 0)] (N129_158 M)) 12 0 4 = _
  rw [zdo_R _ _ (by decide), G129_158_0 M]
set_option maxRecDepth 100000 in
theorem G129_159_1 (M : zM) : zgR (N129_159 M) 12 0 5 = (51, 0) := by
  show zgR (zdo [(0, 4, 39, 0, (0, 0), 0)] (N129_158 M)) 12 0 5 = _
  rw [zdo_R _ _ (by decide), G129_158_1 M]
set_option maxRecDepth 100000 in
theorem G129_159_2 (M : zM) : zgR (N129_159 M) 12 0 7 = (53, 0) := by
  show zgR (zdo [(0, 4, 39, 0, (0, 0), 0)] (N129_158 M)) 12 0 7 = _
  rw [zdo_R _ _ (by decide), G129_158_2 M]
def D20_39 : List zOp := [(0, 24, 39, 0, (0, 0), 0), (1, 4, 39, 0, (24, 39), 0), (0, 25, 39, 0, (0, 0), 0), (1, 4, 39, 1, (25, 39), 0), (0, 26, 39, 0, (0, 0), 0), (1, 4, 39, 2, (26, 39), 0), (0, 27, 39, 0, (0, 0), 0), (1, 4, 39, 3, (27, 39), 0), (0, 28, 39, 0, (0, 0), 0), (1, 4, 39, 4, (28, 39), 0)]
set_option maxRecDepth 100000 in
set_option maxHeartbeats 4000000 in
theorem C20_39 (d : Nat) (M : zM) (hn : znx M = 313) : zgo true d 20 0 [zr 4 39] [] M = some (none, zdo D20_39 M) := by
  refine (B20_0 d 39 M).trans ?_
  have hz : znx M = 313 := hn
  rw [hz]
  clear hz
  show zgo true d 20 9 [zr 4 39] [zr 24 39, zr 4 39] (znew M 24 39) = _
  generalize hM1 : znew M 24 39 = M1
  have hn1 : znx M1 = 314 := by rw [← hM1]; exact congrArg (· + 1) hn
  refine (B20_9 d 39 39 24 39 M1).trans ?_
  have hz : znx (zsR M1 4 39 0 (24, 39)) = 314 := hn1
  rw [hz]
  clear hz
  show zgo true d 20 17 [zr 4 39] [zr 25 39, zr 4 39] (znew (zsR M1 4 39 0 (24, 39)) 25 39) = _
  generalize hM2 : znew (zsR M1 4 39 0 (24, 39)) 25 39 = M2
  have hn2 : znx M2 = 315 := by rw [← hM2]; exact congrArg (· + 1) hn1
  clear hn1
  refine (B20_17 d 39 39 25 39 M2).trans ?_
  have hz : znx (zsR M2 4 39 1 (25, 39)) = 315 := hn2
  rw [hz]
  clear hz
  show zgo true d 20 25 [zr 4 39] [zr 26 39, zr 4 39] (znew (zsR M2 4 39 1 (25, 39)) 26 39) = _
  generalize hM3 : znew (zsR M2 4 39 1 (25, 39)) 26 39 = M3
  have hn3 : znx M3 = 316 := by rw [← hM3]; exact congrArg (· + 1) hn2
  clear hn2
  refine (B20_25 d 39 39 26 39 M3).trans ?_
  show zgo true d 20 28 [zr 4 39] [] (zsR M3 4 39 2 (26, 39)) = _
  generalize hM4 : zsR M3 4 39 2 (26, 39) = M4
  have hn4 : znx M4 = 316 := by rw [← hM4]; exact hn3
  clear hn3
  refine (B20_28 d 39 M4).trans ?_
  have hz : znx M4 = 316 := hn4
  rw [hz]
  clear hz
  show zgo true d 20 33 [zr 4 39] [zr 27 39, zr 4 39] (znew M4 27 39) = _
  generalize hM5 : znew M4 27 39 = M5
  have hn5 : znx M5 = 317 := by rw [← hM5]; exact congrArg (· + 1) hn4
  clear hn4
  refine (B20_33 d 39 39 27 39 M5).trans ?_
  have hz : znx (zsR M5 4 39 3 (27, 39)) = 317 := hn5
  rw [hz]
  clear hz
  show zgo true d 20 41 [zr 4 39] [zr 28 39, zr 4 39] (znew (zsR M5 4 39 3 (27, 39)) 28 39) = _
  generalize hM6 : znew (zsR M5 4 39 3 (27, 39)) 28 39 = M6
  have hn6 : znx M6 = 318 := by rw [← hM6]; exact congrArg (· + 1) hn5
  clear hn5
  refine (B20_41 d 39 39 28 39 M6).trans ?_
  generalize hM7 : zsR M6 4 39 4 (28, 39) = M7
  have hn7 : znx M7 = 318 := by rw [← hM7]; exact hn6
  clear hn6
  subst hM7 hM6 hM5 hM4 hM3 hM2 hM1
  rfl
def N129_160 (M : zM) : zM := zdo D20_39 (N129_159 M)
set_option maxRecDepth 100000 in
theorem T129_170 (d : Nat) (M : zM) (hn : znx M = 1) : zgo true (d + 3) 129 180 [zr 12 0, zi 39] [zr 4 39, zi 39, zr 51 0] (N129_159 M) = zgo true (d + 3) 129 184 [zr 12 0, zi 39] [zr 4 39, zi 39, zr 51 0] (N129_160 M) := by
  have hX : znx (N129_159 M) = 313 := H129_159 M hn
  have hf0 : zgR (N129_159 M) 12 0 4 = (50, 0) := G129_159_0 M
  have hf1 : zgR (N129_159 M) 12 0 5 = (51, 0) := G129_159_1 M
  have hf2 : zgR (N129_159 M) 12 0 7 = (53, 0) := G129_159_2 M
  generalize hN : N129_159 M = X at hX hf0 hf1 hf2 ⊢
  refine (B129_180 (d + 2) 39 39 39 X).trans ?_
  show Option.bind (zgo true (d + 2) 20 0 [zr 4 39] [] (X)) _ = _
  refine zbind_of (C20_39 (d + 2) _ hX) ?_
  show zgo true (d + 3) 129 184 [zr 12 0, zi 39] [zr 4 39, zi 39, zr 51 0] (zdo D20_39 (X)) = _
  subst hN
  rfl
theorem H129_160 (M : zM) (hn : znx M = 1) : znx (N129_160 M) = 318 := by
  show znx (zdo D20_39 (N129_159 M)) = _
  rw [zdo_nx, H129_159 M hn]
  rfl
set_option maxRecDepth 100000 in
theorem G129_160_0 (M : zM) : zgR (N129_160 M) 12 0 4 = (50, 0) := by
  show zgR (zdo D20_39 (N129_159 M)) 12 0 4 = _
  rw [zdo_R _ _ (by decide), G129_159_0 M]
set_option maxRecDepth 100000 in
theorem G129_160_1 (M : zM) : zgR (N129_160 M) 12 0 5 = (51, 0) := by
  show zgR (zdo D20_39 (N129_159 M)) 12 0 5 = _
  rw [zdo_R _ _ (by decide), G129_159_1 M]
set_option maxRecDepth 100000 in
theorem G129_160_2 (M : zM) : zgR (N129_160 M) 12 0 7 = (53, 0) := by
  show zgR (zdo D20_39 (N129_159 M)) 12 0 7 = _
  rw [zdo_R _ _ (by decide), G129_159_2 M]
def N129_161 (M : zM) : zM := zdo [(1, 51, 0, 39, (4, 39), 0)] (N129_160 M)
set_option maxRecDepth 100000 in
theorem T129_171 (d : Nat) (M : zM) (hn : znx M = 1) : zgo true (d + 3) 129 184 [zr 12 0, zi 39] [zr 4 39, zi 39, zr 51 0] (N129_160 M) = zgo true (d + 3) 129 163 [zr 12 0, zi 40] [] (N129_161 M) := by
  have hX : znx (N129_160 M) = 318 := H129_160 M hn
  have hf0 : zgR (N129_160 M) 12 0 4 = (50, 0) := G129_160_0 M
  have hf1 : zgR (N129_160 M) 12 0 5 = (51, 0) := G129_160_1 M
  have hf2 : zgR (N129_160 M) 12 0 7 = (53, 0) := G129_160_2 M
  generalize hN : N129_160 M = X at hX hf0 hf1 hf2 ⊢
  refine (B129_184 (d + 3) 39 39 39 X).trans ?_
  show zgo true (d + 3) 129 163 [zr 12 0, zi 40] [] (zsR X 51 0 ((39 : Int32).toNatClampNeg) (4, 39)) = _
  rw [show zsR X 51 0 ((39 : Int32).toNatClampNeg) (4, 39) = zdo [(1, 51, 0, 39, (4, 39), 0)] X from rfl]
  subst hN
  rfl
theorem H129_161 (M : zM) (hn : znx M = 1) : znx (N129_161 M) = 318 := by
  show znx (zdo [(1, 51, 0, 39, (4, 39), 0)] (N129_160 M)) = _
  rw [zdo_nx, H129_160 M hn]
  rfl
set_option maxRecDepth 100000 in
theorem G129_161_0 (M : zM) : zgR (N129_161 M) 12 0 4 = (50, 0) := by
  show zgR (zdo [(1, 51, 0, 39, (4, 39), 0)] (N129_160 M)) 12 0 4 = _
  rw [zdo_R _ _ (by decide), G129_160_0 M]
set_option maxRecDepth 100000 in
theorem G129_161_1 (M : zM) : zgR (N129_161 M) 12 0 5 = (51, 0) := by
  show zgR (zdo [(1, 51, 0, 39, (4, 39), 0)] (N129_160 M)) 12 0 5 = _
  rw [zdo_R _ _ (by decide), G129_160_1 M]
set_option maxRecDepth 100000 in
theorem G129_161_2 (M : zM) : zgR (N129_161 M) 12 0 7 = (53, 0) := by
  show zgR (zdo [(1, 51, 0, 39, (4, 39), 0)] (N129_160 M)) 12 0 7 = _
  rw [zdo_R _ _ (by decide), G129_160_2 M]
def N129_162 (M : zM) : zM := zdo [(0, 4, 40, 0, (0, 0), 0)] (N129_161 M)
set_option maxRecDepth 100000 in
theorem T129_172 (d : Nat) (M : zM) (hn : znx M = 1) : zgo true (d + 3) 129 163 [zr 12 0, zi 40] [] (N129_161 M) = zgo true (d + 3) 129 180 [zr 12 0, zi 40] [zr 4 40, zi 40, zr 51 0] (N129_162 M) := by
  have hX : znx (N129_161 M) = 318 := H129_161 M hn
  have hf0 : zgR (N129_161 M) 12 0 4 = (50, 0) := G129_161_0 M
  have hf1 : zgR (N129_161 M) 12 0 5 = (51, 0) := G129_161_1 M
  have hf2 : zgR (N129_161 M) 12 0 7 = (53, 0) := G129_161_2 M
  generalize hN : N129_161 M = X at hX hf0 hf1 hf2 ⊢
  refine (B129_163 (d + 3) 40 X).trans ?_
  rw [show zgR (X) 12 0 5 = (51, 0) from hf1]
  have hz : znx X = 318 := hX
  rw [hz]
  clear hz
  show zgo true (d + 3) 129 180 [zr 12 0, zi 40] [zr 4 40, zi 40, zr 51 0] (znew X 4 40) = _
  rw [show znew X 4 40 = zdo [(0, 4, 40, 0, (0, 0), 0)] X from rfl]
  subst hN
  rfl
theorem H129_162 (M : zM) (hn : znx M = 1) : znx (N129_162 M) = 319 := by
  show znx (zdo [(0, 4, 40, 0, (0, 0), 0)] (N129_161 M)) = _
  rw [zdo_nx, H129_161 M hn]
  rfl
set_option maxRecDepth 100000 in
theorem G129_162_0 (M : zM) : zgR (N129_162 M) 12 0 4 = (50, 0) := by
  show zgR (zdo [(0, 4, 40, 0, (0, 0), 0)] (N129_161 M)) 12 0 4 = _
  rw [zdo_R _ _ (by decide), G129_161_0 M]
set_option maxRecDepth 100000 in
theorem G129_162_1 (M : zM) : zgR (N129_162 M) 12 0 5 = (51, 0) := by
  show zgR (zdo [(0, 4, 40, 0, (0, 0), 0)] (N129_161 M)) 12 0 5 = _
  rw [zdo_R _ _ (by decide), G129_161_1 M]
set_option maxRecDepth 100000 in
theorem G129_162_2 (M : zM) : zgR (N129_162 M) 12 0 7 = (53, 0) := by
  show zgR (zdo [(0, 4, 40, 0, (0, 0), 0)] (N129_161 M)) 12 0 7 = _
  rw [zdo_R _ _ (by decide), G129_161_2 M]
def D20_40 : List zOp := [(0, 24, 40, 0, (0, 0), 0), (1, 4, 40, 0, (24, 40), 0), (0, 25, 40, 0, (0, 0), 0), (1, 4, 40, 1, (25, 40), 0), (0, 26, 40, 0, (0, 0), 0), (1, 4, 40, 2, (26, 40), 0), (0, 27, 40, 0, (0, 0), 0), (1, 4, 40, 3, (27, 40), 0), (0, 28, 40, 0, (0, 0), 0), (1, 4, 40, 4, (28, 40), 0)]
set_option maxRecDepth 100000 in
set_option maxHeartbeats 4000000 in
theorem C20_40 (d : Nat) (M : zM) (hn : znx M = 319) : zgo true d 20 0 [zr 4 40] [] M = some (none, zdo D20_40 M) := by
  refine (B20_0 d 40 M).trans ?_
  have hz : znx M = 319 := hn
  rw [hz]
  clear hz
  show zgo true d 20 9 [zr 4 40] [zr 24 40, zr 4 40] (znew M 24 40) = _
  generalize hM1 : znew M 24 40 = M1
  have hn1 : znx M1 = 320 := by rw [← hM1]; exact congrArg (· + 1) hn
  refine (B20_9 d 40 40 24 40 M1).trans ?_
  have hz : znx (zsR M1 4 40 0 (24, 40)) = 320 := hn1
  rw [hz]
  clear hz
  show zgo true d 20 17 [zr 4 40] [zr 25 40, zr 4 40] (znew (zsR M1 4 40 0 (24, 40)) 25 40) = _
  generalize hM2 : znew (zsR M1 4 40 0 (24, 40)) 25 40 = M2
  have hn2 : znx M2 = 321 := by rw [← hM2]; exact congrArg (· + 1) hn1
  clear hn1
  refine (B20_17 d 40 40 25 40 M2).trans ?_
  have hz : znx (zsR M2 4 40 1 (25, 40)) = 321 := hn2
  rw [hz]
  clear hz
  show zgo true d 20 25 [zr 4 40] [zr 26 40, zr 4 40] (znew (zsR M2 4 40 1 (25, 40)) 26 40) = _
  generalize hM3 : znew (zsR M2 4 40 1 (25, 40)) 26 40 = M3
  have hn3 : znx M3 = 322 := by rw [← hM3]; exact congrArg (· + 1) hn2
  clear hn2
  refine (B20_25 d 40 40 26 40 M3).trans ?_
  show zgo true d 20 28 [zr 4 40] [] (zsR M3 4 40 2 (26, 40)) = _
  generalize hM4 : zsR M3 4 40 2 (26, 40) = M4
  have hn4 : znx M4 = 322 := by rw [← hM4]; exact hn3
  clear hn3
  refine (B20_28 d 40 M4).trans ?_
  have hz : znx M4 = 322 := hn4
  rw [hz]
  clear hz
  show zgo true d 20 33 [zr 4 40] [zr 27 40, zr 4 40] (znew M4 27 40) = _
  generalize hM5 : znew M4 27 40 = M5
  have hn5 : znx M5 = 323 := by rw [← hM5]; exact congrArg (· + 1) hn4
  clear hn4
  refine (B20_33 d 40 40 27 40 M5).trans ?_
  have hz : znx (zsR M5 4 40 3 (27, 40)) = 323 := hn5
  rw [hz]
  clear hz
  show zgo true d 20 41 [zr 4 40] [zr 28 40, zr 4 40] (znew (zsR M5 4 40 3 (27, 40)) 28 40) = _
  generalize hM6 : znew (zsR M5 4 40 3 (27, 40)) 28 40 = M6
  have hn6 : znx M6 = 324 := by rw [← hM6]; exact congrArg (· + 1) hn5
  clear hn5
  refine (B20_41 d 40 40 28 40 M6).trans ?_
  generalize hM7 : zsR M6 4 40 4 (28, 40) = M7
  have hn7 : znx M7 = 324 := by rw [← hM7]; exact hn6
  clear hn6
  subst hM7 hM6 hM5 hM4 hM3 hM2 hM1
  rfl
def N129_163 (M : zM) : zM := zdo D20_40 (N129_162 M)
set_option maxRecDepth 100000 in
theorem T129_173 (d : Nat) (M : zM) (hn : znx M = 1) : zgo true (d + 3) 129 180 [zr 12 0, zi 40] [zr 4 40, zi 40, zr 51 0] (N129_162 M) = zgo true (d + 3) 129 184 [zr 12 0, zi 40] [zr 4 40, zi 40, zr 51 0] (N129_163 M) := by
  have hX : znx (N129_162 M) = 319 := H129_162 M hn
  have hf0 : zgR (N129_162 M) 12 0 4 = (50, 0) := G129_162_0 M
  have hf1 : zgR (N129_162 M) 12 0 5 = (51, 0) := G129_162_1 M
  have hf2 : zgR (N129_162 M) 12 0 7 = (53, 0) := G129_162_2 M
  generalize hN : N129_162 M = X at hX hf0 hf1 hf2 ⊢
  refine (B129_180 (d + 2) 40 40 40 X).trans ?_
  show Option.bind (zgo true (d + 2) 20 0 [zr 4 40] [] (X)) _ = _
  refine zbind_of (C20_40 (d + 2) _ hX) ?_
  show zgo true (d + 3) 129 184 [zr 12 0, zi 40] [zr 4 40, zi 40, zr 51 0] (zdo D20_40 (X)) = _
  subst hN
  rfl
theorem H129_163 (M : zM) (hn : znx M = 1) : znx (N129_163 M) = 324 := by
  show znx (zdo D20_40 (N129_162 M)) = _
  rw [zdo_nx, H129_162 M hn]
  rfl
set_option maxRecDepth 100000 in
theorem G129_163_0 (M : zM) : zgR (N129_163 M) 12 0 4 = (50, 0) := by
  show zgR (zdo D20_40 (N129_162 M)) 12 0 4 = _
  rw [zdo_R _ _ (by decide), G129_162_0 M]
set_option maxRecDepth 100000 in
theorem G129_163_1 (M : zM) : zgR (N129_163 M) 12 0 5 = (51, 0) := by
  show zgR (zdo D20_40 (N129_162 M)) 12 0 5 = _
  rw [zdo_R _ _ (by decide), G129_162_1 M]
set_option maxRecDepth 100000 in
theorem G129_163_2 (M : zM) : zgR (N129_163 M) 12 0 7 = (53, 0) := by
  show zgR (zdo D20_40 (N129_162 M)) 12 0 7 = _
  rw [zdo_R _ _ (by decide), G129_162_2 M]
def N129_164 (M : zM) : zM := zdo [(1, 51, 0, 40, (4, 40), 0)] (N129_163 M)
set_option maxRecDepth 100000 in
theorem T129_174 (d : Nat) (M : zM) (hn : znx M = 1) : zgo true (d + 3) 129 184 [zr 12 0, zi 40] [zr 4 40, zi 40, zr 51 0] (N129_163 M) = zgo true (d + 3) 129 163 [zr 12 0, zi 41] [] (N129_164 M) := by
  have hX : znx (N129_163 M) = 324 := H129_163 M hn
  have hf0 : zgR (N129_163 M) 12 0 4 = (50, 0) := G129_163_0 M
  have hf1 : zgR (N129_163 M) 12 0 5 = (51, 0) := G129_163_1 M
  have hf2 : zgR (N129_163 M) 12 0 7 = (53, 0) := G129_163_2 M
  generalize hN : N129_163 M = X at hX hf0 hf1 hf2 ⊢
  refine (B129_184 (d + 3) 40 40 40 X).trans ?_
  show zgo true (d + 3) 129 163 [zr 12 0, zi 41] [] (zsR X 51 0 ((40 : Int32).toNatClampNeg) (4, 40)) = _
  rw [show zsR X 51 0 ((40 : Int32).toNatClampNeg) (4, 40) = zdo [(1, 51, 0, 40, (4, 40), 0)] X from rfl]
  subst hN
  rfl
theorem H129_164 (M : zM) (hn : znx M = 1) : znx (N129_164 M) = 324 := by
  show znx (zdo [(1, 51, 0, 40, (4, 40), 0)] (N129_163 M)) = _
  rw [zdo_nx, H129_163 M hn]
  rfl
set_option maxRecDepth 100000 in
theorem G129_164_0 (M : zM) : zgR (N129_164 M) 12 0 4 = (50, 0) := by
  show zgR (zdo [(1, 51, 0, 40, (4, 40), 0)] (N129_163 M)) 12 0 4 = _
  rw [zdo_R _ _ (by decide), G129_163_0 M]
set_option maxRecDepth 100000 in
theorem G129_164_1 (M : zM) : zgR (N129_164 M) 12 0 5 = (51, 0) := by
  show zgR (zdo [(1, 51, 0, 40, (4, 40), 0)] (N129_163 M)) 12 0 5 = _
  rw [zdo_R _ _ (by decide), G129_163_1 M]
set_option maxRecDepth 100000 in
theorem G129_164_2 (M : zM) : zgR (N129_164 M) 12 0 7 = (53, 0) := by
  show zgR (zdo [(1, 51, 0, 40, (4, 40), 0)] (N129_163 M)) 12 0 7 = _
  rw [zdo_R _ _ (by decide), G129_163_2 M]
def N129_165 (M : zM) : zM := zdo [(0, 4, 41, 0, (0, 0), 0)] (N129_164 M)
set_option maxRecDepth 100000 in
theorem T129_175 (d : Nat) (M : zM) (hn : znx M = 1) : zgo true (d + 3) 129 163 [zr 12 0, zi 41] [] (N129_164 M) = zgo true (d + 3) 129 180 [zr 12 0, zi 41] [zr 4 41, zi 41, zr 51 0] (N129_165 M) := by
  have hX : znx (N129_164 M) = 324 := H129_164 M hn
  have hf0 : zgR (N129_164 M) 12 0 4 = (50, 0) := G129_164_0 M
  have hf1 : zgR (N129_164 M) 12 0 5 = (51, 0) := G129_164_1 M
  have hf2 : zgR (N129_164 M) 12 0 7 = (53, 0) := G129_164_2 M
  generalize hN : N129_164 M = X at hX hf0 hf1 hf2 ⊢
  refine (B129_163 (d + 3) 41 X).trans ?_
  rw [show zgR (X) 12 0 5 = (51, 0) from hf1]
  have hz : znx X = 324 := hX
  rw [hz]
  clear hz
  show zgo true (d + 3) 129 180 [zr 12 0, zi 41] [zr 4 41, zi 41, zr 51 0] (znew X 4 41) = _
  rw [show znew X 4 41 = zdo [(0, 4, 41, 0, (0, 0), 0)] X from rfl]
  subst hN
  rfl
theorem H129_165 (M : zM) (hn : znx M = 1) : znx (N129_165 M) = 325 := by
  show znx (zdo [(0, 4, 41, 0, (0, 0), 0)] (N129_164 M)) = _
  rw [zdo_nx, H129_164 M hn]
  rfl
set_option maxRecDepth 100000 in
theorem G129_165_0 (M : zM) : zgR (N129_165 M) 12 0 4 = (50, 0) := by
  show zgR (zdo [(0, 4, 41, 0, (0, 0), 0)] (N129_164 M)) 12 0 4 = _
  rw [zdo_R _ _ (by decide), G129_164_0 M]
set_option maxRecDepth 100000 in
theorem G129_165_1 (M : zM) : zgR (N129_165 M) 12 0 5 = (51, 0) := by
  show zgR (zdo [(0, 4, 41, 0, (0, 0), 0)] (N129_164 M)) 12 0 5 = _
  rw [zdo_R _ _ (by decide), G129_164_1 M]
set_option maxRecDepth 100000 in
theorem G129_165_2 (M : zM) : zgR (N129_165 M) 12 0 7 = (53, 0) := by
  show zgR (zdo [(0, 4, 41, 0, (0, 0), 0)] (N129_164 M)) 12 0 7 = _
  rw [zdo_R _ _ (by decide), G129_164_2 M]
def D20_41 : List zOp := [(0, 24, 41, 0, (0, 0), 0), (1, 4, 41, 0, (24, 41), 0), (0, 25, 41, 0, (0, 0), 0), (1, 4, 41, 1, (25, 41), 0), (0, 26, 41, 0, (0, 0), 0), (1, 4, 41, 2, (26, 41), 0), (0, 27, 41, 0, (0, 0), 0), (1, 4, 41, 3, (27, 41), 0), (0, 28, 41, 0, (0, 0), 0), (1, 4, 41, 4, (28, 41), 0)]
set_option maxRecDepth 100000 in
set_option maxHeartbeats 4000000 in
theorem C20_41 (d : Nat) (M : zM) (hn : znx M = 325) : zgo true d 20 0 [zr 4 41] [] M = some (none, zdo D20_41 M) := by
  refine (B20_0 d 41 M).trans ?_
  have hz : znx M = 325 := hn
  rw [hz]
  clear hz
  show zgo true d 20 9 [zr 4 41] [zr 24 41, zr 4 41] (znew M 24 41) = _
  generalize hM1 : znew M 24 41 = M1
  have hn1 : znx M1 = 326 := by rw [← hM1]; exact congrArg (· + 1) hn
  refine (B20_9 d 41 41 24 41 M1).trans ?_
  have hz : znx (zsR M1 4 41 0 (24, 41)) = 326 := hn1
  rw [hz]
  clear hz
  show zgo true d 20 17 [zr 4 41] [zr 25 41, zr 4 41] (znew (zsR M1 4 41 0 (24, 41)) 25 41) = _
  generalize hM2 : znew (zsR M1 4 41 0 (24, 41)) 25 41 = M2
  have hn2 : znx M2 = 327 := by rw [← hM2]; exact congrArg (· + 1) hn1
  clear hn1
  refine (B20_17 d 41 41 25 41 M2).trans ?_
  have hz : znx (zsR M2 4 41 1 (25, 41)) = 327 := hn2
  rw [hz]
  clear hz
  show zgo true d 20 25 [zr 4 41] [zr 26 41, zr 4 41] (znew (zsR M2 4 41 1 (25, 41)) 26 41) = _
  generalize hM3 : znew (zsR M2 4 41 1 (25, 41)) 26 41 = M3
  have hn3 : znx M3 = 328 := by rw [← hM3]; exact congrArg (· + 1) hn2
  clear hn2
  refine (B20_25 d 41 41 26 41 M3).trans ?_
  show zgo true d 20 28 [zr 4 41] [] (zsR M3 4 41 2 (26, 41)) = _
  generalize hM4 : zsR M3 4 41 2 (26, 41) = M4
  have hn4 : znx M4 = 328 := by rw [← hM4]; exact hn3
  clear hn3
  refine (B20_28 d 41 M4).trans ?_
  have hz : znx M4 = 328 := hn4
  rw [hz]
  clear hz
  show zgo true d 20 33 [zr 4 41] [zr 27 41, zr 4 41] (znew M4 27 41) = _
  generalize hM5 : znew M4 27 41 = M5
  have hn5 : znx M5 = 329 := by rw [← hM5]; exact congrArg (· + 1) hn4
  clear hn4
  refine (B20_33 d 41 41 27 41 M5).trans ?_
  have hz : znx (zsR M5 4 41 3 (27, 41)) = 329 := hn5
  rw [hz]
  clear hz
  show zgo true d 20 41 [zr 4 41] [zr 28 41, zr 4 41] (znew (zsR M5 4 41 3 (27, 41)) 28 41) = _
  generalize hM6 : znew (zsR M5 4 41 3 (27, 41)) 28 41 = M6
  have hn6 : znx M6 = 330 := by rw [← hM6]; exact congrArg (· + 1) hn5
  clear hn5
  refine (B20_41 d 41 41 28 41 M6).trans ?_
  generalize hM7 : zsR M6 4 41 4 (28, 41) = M7
  have hn7 : znx M7 = 330 := by rw [← hM7]; exact hn6
  clear hn6
  subst hM7 hM6 hM5 hM4 hM3 hM2 hM1
  rfl
def N129_166 (M : zM) : zM := zdo D20_41 (N129_165 M)
set_option maxRecDepth 100000 in
theorem T129_176 (d : Nat) (M : zM) (hn : znx M = 1) : zgo true (d + 3) 129 180 [zr 12 0, zi 41] [zr 4 41, zi 41, zr 51 0] (N129_165 M) = zgo true (d + 3) 129 184 [zr 12 0, zi 41] [zr 4 41, zi 41, zr 51 0] (N129_166 M) := by
  have hX : znx (N129_165 M) = 325 := H129_165 M hn
  have hf0 : zgR (N129_165 M) 12 0 4 = (50, 0) := G129_165_0 M
  have hf1 : zgR (N129_165 M) 12 0 5 = (51, 0) := G129_165_1 M
  have hf2 : zgR (N129_165 M) 12 0 7 = (53, 0) := G129_165_2 M
  generalize hN : N129_165 M = X at hX hf0 hf1 hf2 ⊢
  refine (B129_180 (d + 2) 41 41 41 X).trans ?_
  show Option.bind (zgo true (d + 2) 20 0 [zr 4 41] [] (X)) _ = _
  refine zbind_of (C20_41 (d + 2) _ hX) ?_
  show zgo true (d + 3) 129 184 [zr 12 0, zi 41] [zr 4 41, zi 41, zr 51 0] (zdo D20_41 (X)) = _
  subst hN
  rfl
theorem H129_166 (M : zM) (hn : znx M = 1) : znx (N129_166 M) = 330 := by
  show znx (zdo D20_41 (N129_165 M)) = _
  rw [zdo_nx, H129_165 M hn]
  rfl
set_option maxRecDepth 100000 in
theorem G129_166_0 (M : zM) : zgR (N129_166 M) 12 0 4 = (50, 0) := by
  show zgR (zdo D20_41 (N129_165 M)) 12 0 4 = _
  rw [zdo_R _ _ (by decide), G129_165_0 M]
set_option maxRecDepth 100000 in
theorem G129_166_1 (M : zM) : zgR (N129_166 M) 12 0 5 = (51, 0) := by
  show zgR (zdo D20_41 (N129_165 M)) 12 0 5 = _
  rw [zdo_R _ _ (by decide), G129_165_1 M]
set_option maxRecDepth 100000 in
theorem G129_166_2 (M : zM) : zgR (N129_166 M) 12 0 7 = (53, 0) := by
  show zgR (zdo D20_41 (N129_165 M)) 12 0 7 = _
  rw [zdo_R _ _ (by decide), G129_165_2 M]
def N129_167 (M : zM) : zM := zdo [(1, 51, 0, 41, (4, 41), 0)] (N129_166 M)
set_option maxRecDepth 100000 in
theorem T129_177 (d : Nat) (M : zM) (hn : znx M = 1) : zgo true (d + 3) 129 184 [zr 12 0, zi 41] [zr 4 41, zi 41, zr 51 0] (N129_166 M) = zgo true (d + 3) 129 163 [zr 12 0, zi 42] [] (N129_167 M) := by
  have hX : znx (N129_166 M) = 330 := H129_166 M hn
  have hf0 : zgR (N129_166 M) 12 0 4 = (50, 0) := G129_166_0 M
  have hf1 : zgR (N129_166 M) 12 0 5 = (51, 0) := G129_166_1 M
  have hf2 : zgR (N129_166 M) 12 0 7 = (53, 0) := G129_166_2 M
  generalize hN : N129_166 M = X at hX hf0 hf1 hf2 ⊢
  refine (B129_184 (d + 3) 41 41 41 X).trans ?_
  show zgo true (d + 3) 129 163 [zr 12 0, zi 42] [] (zsR X 51 0 ((41 : Int32).toNatClampNeg) (4, 41)) = _
  rw [show zsR X 51 0 ((41 : Int32).toNatClampNeg) (4, 41) = zdo [(1, 51, 0, 41, (4, 41), 0)] X from rfl]
  subst hN
  rfl
theorem H129_167 (M : zM) (hn : znx M = 1) : znx (N129_167 M) = 330 := by
  show znx (zdo [(1, 51, 0, 41, (4, 41), 0)] (N129_166 M)) = _
  rw [zdo_nx, H129_166 M hn]
  rfl
set_option maxRecDepth 100000 in
theorem G129_167_0 (M : zM) : zgR (N129_167 M) 12 0 4 = (50, 0) := by
  show zgR (zdo [(1, 51, 0, 41, (4, 41), 0)] (N129_166 M)) 12 0 4 = _
  rw [zdo_R _ _ (by decide), G129_166_0 M]
set_option maxRecDepth 100000 in
theorem G129_167_1 (M : zM) : zgR (N129_167 M) 12 0 5 = (51, 0) := by
  show zgR (zdo [(1, 51, 0, 41, (4, 41), 0)] (N129_166 M)) 12 0 5 = _
  rw [zdo_R _ _ (by decide), G129_166_1 M]
set_option maxRecDepth 100000 in
theorem G129_167_2 (M : zM) : zgR (N129_167 M) 12 0 7 = (53, 0) := by
  show zgR (zdo [(1, 51, 0, 41, (4, 41), 0)] (N129_166 M)) 12 0 7 = _
  rw [zdo_R _ _ (by decide), G129_166_2 M]
def N129_168 (M : zM) : zM := zdo [(0, 4, 42, 0, (0, 0), 0)] (N129_167 M)
set_option maxRecDepth 100000 in
theorem T129_178 (d : Nat) (M : zM) (hn : znx M = 1) : zgo true (d + 3) 129 163 [zr 12 0, zi 42] [] (N129_167 M) = zgo true (d + 3) 129 180 [zr 12 0, zi 42] [zr 4 42, zi 42, zr 51 0] (N129_168 M) := by
  have hX : znx (N129_167 M) = 330 := H129_167 M hn
  have hf0 : zgR (N129_167 M) 12 0 4 = (50, 0) := G129_167_0 M
  have hf1 : zgR (N129_167 M) 12 0 5 = (51, 0) := G129_167_1 M
  have hf2 : zgR (N129_167 M) 12 0 7 = (53, 0) := G129_167_2 M
  generalize hN : N129_167 M = X at hX hf0 hf1 hf2 ⊢
  refine (B129_163 (d + 3) 42 X).trans ?_
  rw [show zgR (X) 12 0 5 = (51, 0) from hf1]
  have hz : znx X = 330 := hX
  rw [hz]
  clear hz
  show zgo true (d + 3) 129 180 [zr 12 0, zi 42] [zr 4 42, zi 42, zr 51 0] (znew X 4 42) = _
  rw [show znew X 4 42 = zdo [(0, 4, 42, 0, (0, 0), 0)] X from rfl]
  subst hN
  rfl
theorem H129_168 (M : zM) (hn : znx M = 1) : znx (N129_168 M) = 331 := by
  show znx (zdo [(0, 4, 42, 0, (0, 0), 0)] (N129_167 M)) = _
  rw [zdo_nx, H129_167 M hn]
  rfl
set_option maxRecDepth 100000 in
theorem G129_168_0 (M : zM) : zgR (N129_168 M) 12 0 4 = (50, 0) := by
  show zgR (zdo [(0, 4, 42, 0, (0, 0), 0)] (N129_167 M)) 12 0 4 = _
  rw [zdo_R _ _ (by decide), G129_167_0 M]
set_option maxRecDepth 100000 in
theorem G129_168_1 (M : zM) : zgR (N129_168 M) 12 0 5 = (51, 0) := by
  show zgR (zdo [(0, 4, 42, 0, (0, 0), 0)] (N129_167 M)) 12 0 5 = _
  rw [zdo_R _ _ (by decide), G129_167_1 M]
set_option maxRecDepth 100000 in
theorem G129_168_2 (M : zM) : zgR (N129_168 M) 12 0 7 = (53, 0) := by
  show zgR (zdo [(0, 4, 42, 0, (0, 0), 0)] (N129_167 M)) 12 0 7 = _
  rw [zdo_R _ _ (by decide), G129_167_2 M]
def D20_42 : List zOp := [(0, 24, 42, 0, (0, 0), 0), (1, 4, 42, 0, (24, 42), 0), (0, 25, 42, 0, (0, 0), 0), (1, 4, 42, 1, (25, 42), 0), (0, 26, 42, 0, (0, 0), 0), (1, 4, 42, 2, (26, 42), 0), (0, 27, 42, 0, (0, 0), 0), (1, 4, 42, 3, (27, 42), 0), (0, 28, 42, 0, (0, 0), 0), (1, 4, 42, 4, (28, 42), 0)]
set_option maxRecDepth 100000 in
set_option maxHeartbeats 4000000 in
theorem C20_42 (d : Nat) (M : zM) (hn : znx M = 331) : zgo true d 20 0 [zr 4 42] [] M = some (none, zdo D20_42 M) := by
  refine (B20_0 d 42 M).trans ?_
  have hz : znx M = 331 := hn
  rw [hz]
  clear hz
  show zgo true d 20 9 [zr 4 42] [zr 24 42, zr 4 42] (znew M 24 42) = _
  generalize hM1 : znew M 24 42 = M1
  have hn1 : znx M1 = 332 := by rw [← hM1]; exact congrArg (· + 1) hn
  refine (B20_9 d 42 42 24 42 M1).trans ?_
  have hz : znx (zsR M1 4 42 0 (24, 42)) = 332 := hn1
  rw [hz]
  clear hz
  show zgo true d 20 17 [zr 4 42] [zr 25 42, zr 4 42] (znew (zsR M1 4 42 0 (24, 42)) 25 42) = _
  generalize hM2 : znew (zsR M1 4 42 0 (24, 42)) 25 42 = M2
  have hn2 : znx M2 = 333 := by rw [← hM2]; exact congrArg (· + 1) hn1
  clear hn1
  refine (B20_17 d 42 42 25 42 M2).trans ?_
  have hz : znx (zsR M2 4 42 1 (25, 42)) = 333 := hn2
  rw [hz]
  clear hz
  show zgo true d 20 25 [zr 4 42] [zr 26 42, zr 4 42] (znew (zsR M2 4 42 1 (25, 42)) 26 42) = _
  generalize hM3 : znew (zsR M2 4 42 1 (25, 42)) 26 42 = M3
  have hn3 : znx M3 = 334 := by rw [← hM3]; exact congrArg (· + 1) hn2
  clear hn2
  refine (B20_25 d 42 42 26 42 M3).trans ?_
  show zgo true d 20 28 [zr 4 42] [] (zsR M3 4 42 2 (26, 42)) = _
  generalize hM4 : zsR M3 4 42 2 (26, 42) = M4
  have hn4 : znx M4 = 334 := by rw [← hM4]; exact hn3
  clear hn3
  refine (B20_28 d 42 M4).trans ?_
  have hz : znx M4 = 334 := hn4
  rw [hz]
  clear hz
  show zgo true d 20 33 [zr 4 42] [zr 27 42, zr 4 42] (znew M4 27 42) = _
  generalize hM5 : znew M4 27 42 = M5
  have hn5 : znx M5 = 335 := by rw [← hM5]; exact congrArg (· + 1) hn4
  clear hn4
  refine (B20_33 d 42 42 27 42 M5).trans ?_
  have hz : znx (zsR M5 4 42 3 (27, 42)) = 335 := hn5
  rw [hz]
  clear hz
  show zgo true d 20 41 [zr 4 42] [zr 28 42, zr 4 42] (znew (zsR M5 4 42 3 (27, 42)) 28 42) = _
  generalize hM6 : znew (zsR M5 4 42 3 (27, 42)) 28 42 = M6
  have hn6 : znx M6 = 336 := by rw [← hM6]; exact congrArg (· + 1) hn5
  clear hn5
  refine (B20_41 d 42 42 28 42 M6).trans ?_
  generalize hM7 : zsR M6 4 42 4 (28, 42) = M7
  have hn7 : znx M7 = 336 := by rw [← hM7]; exact hn6
  clear hn6
  subst hM7 hM6 hM5 hM4 hM3 hM2 hM1
  rfl
def N129_169 (M : zM) : zM := zdo D20_42 (N129_168 M)
set_option maxRecDepth 100000 in
theorem T129_179 (d : Nat) (M : zM) (hn : znx M = 1) : zgo true (d + 3) 129 180 [zr 12 0, zi 42] [zr 4 42, zi 42, zr 51 0] (N129_168 M) = zgo true (d + 3) 129 184 [zr 12 0, zi 42] [zr 4 42, zi 42, zr 51 0] (N129_169 M) := by
  have hX : znx (N129_168 M) = 331 := H129_168 M hn
  have hf0 : zgR (N129_168 M) 12 0 4 = (50, 0) := G129_168_0 M
  have hf1 : zgR (N129_168 M) 12 0 5 = (51, 0) := G129_168_1 M
  have hf2 : zgR (N129_168 M) 12 0 7 = (53, 0) := G129_168_2 M
  generalize hN : N129_168 M = X at hX hf0 hf1 hf2 ⊢
  refine (B129_180 (d + 2) 42 42 42 X).trans ?_
  show Option.bind (zgo true (d + 2) 20 0 [zr 4 42] [] (X)) _ = _
  refine zbind_of (C20_42 (d + 2) _ hX) ?_
  show zgo true (d + 3) 129 184 [zr 12 0, zi 42] [zr 4 42, zi 42, zr 51 0] (zdo D20_42 (X)) = _
  subst hN
  rfl
theorem H129_169 (M : zM) (hn : znx M = 1) : znx (N129_169 M) = 336 := by
  show znx (zdo D20_42 (N129_168 M)) = _
  rw [zdo_nx, H129_168 M hn]
  rfl
set_option maxRecDepth 100000 in
theorem G129_169_0 (M : zM) : zgR (N129_169 M) 12 0 4 = (50, 0) := by
  show zgR (zdo D20_42 (N129_168 M)) 12 0 4 = _
  rw [zdo_R _ _ (by decide), G129_168_0 M]
set_option maxRecDepth 100000 in
theorem G129_169_1 (M : zM) : zgR (N129_169 M) 12 0 5 = (51, 0) := by
  show zgR (zdo D20_42 (N129_168 M)) 12 0 5 = _
  rw [zdo_R _ _ (by decide), G129_168_1 M]
set_option maxRecDepth 100000 in
theorem G129_169_2 (M : zM) : zgR (N129_169 M) 12 0 7 = (53, 0) := by
  show zgR (zdo D20_42 (N129_168 M)) 12 0 7 = _
  rw [zdo_R _ _ (by decide), G129_168_2 M]
def N129_170 (M : zM) : zM := zdo [(1, 51, 0, 42, (4, 42), 0)] (N129_169 M)
set_option maxRecDepth 100000 in
theorem T129_180 (d : Nat) (M : zM) (hn : znx M = 1) : zgo true (d + 3) 129 184 [zr 12 0, zi 42] [zr 4 42, zi 42, zr 51 0] (N129_169 M) = zgo true (d + 3) 129 163 [zr 12 0, zi 43] [] (N129_170 M) := by
  have hX : znx (N129_169 M) = 336 := H129_169 M hn
  have hf0 : zgR (N129_169 M) 12 0 4 = (50, 0) := G129_169_0 M
  have hf1 : zgR (N129_169 M) 12 0 5 = (51, 0) := G129_169_1 M
  have hf2 : zgR (N129_169 M) 12 0 7 = (53, 0) := G129_169_2 M
  generalize hN : N129_169 M = X at hX hf0 hf1 hf2 ⊢
  refine (B129_184 (d + 3) 42 42 42 X).trans ?_
  show zgo true (d + 3) 129 163 [zr 12 0, zi 43] [] (zsR X 51 0 ((42 : Int32).toNatClampNeg) (4, 42)) = _
  rw [show zsR X 51 0 ((42 : Int32).toNatClampNeg) (4, 42) = zdo [(1, 51, 0, 42, (4, 42), 0)] X from rfl]
  subst hN
  rfl
theorem H129_170 (M : zM) (hn : znx M = 1) : znx (N129_170 M) = 336 := by
  show znx (zdo [(1, 51, 0, 42, (4, 42), 0)] (N129_169 M)) = _
  rw [zdo_nx, H129_169 M hn]
  rfl
set_option maxRecDepth 100000 in
theorem G129_170_0 (M : zM) : zgR (N129_170 M) 12 0 4 = (50, 0) := by
  show zgR (zdo [(1, 51, 0, 42, (4, 42), 0)] (N129_169 M)) 12 0 4 = _
  rw [zdo_R _ _ (by decide), G129_169_0 M]
set_option maxRecDepth 100000 in
theorem G129_170_1 (M : zM) : zgR (N129_170 M) 12 0 5 = (51, 0) := by
  show zgR (zdo [(1, 51, 0, 42, (4, 42), 0)] (N129_169 M)) 12 0 5 = _
  rw [zdo_R _ _ (by decide), G129_169_1 M]
set_option maxRecDepth 100000 in
theorem G129_170_2 (M : zM) : zgR (N129_170 M) 12 0 7 = (53, 0) := by
  show zgR (zdo [(1, 51, 0, 42, (4, 42), 0)] (N129_169 M)) 12 0 7 = _
  rw [zdo_R _ _ (by decide), G129_169_2 M]
def N129_171 (M : zM) : zM := zdo [(0, 4, 43, 0, (0, 0), 0)] (N129_170 M)
set_option maxRecDepth 100000 in
theorem T129_181 (d : Nat) (M : zM) (hn : znx M = 1) : zgo true (d + 3) 129 163 [zr 12 0, zi 43] [] (N129_170 M) = zgo true (d + 3) 129 180 [zr 12 0, zi 43] [zr 4 43, zi 43, zr 51 0] (N129_171 M) := by
  have hX : znx (N129_170 M) = 336 := H129_170 M hn
  have hf0 : zgR (N129_170 M) 12 0 4 = (50, 0) := G129_170_0 M
  have hf1 : zgR (N129_170 M) 12 0 5 = (51, 0) := G129_170_1 M
  have hf2 : zgR (N129_170 M) 12 0 7 = (53, 0) := G129_170_2 M
  generalize hN : N129_170 M = X at hX hf0 hf1 hf2 ⊢
  refine (B129_163 (d + 3) 43 X).trans ?_
  rw [show zgR (X) 12 0 5 = (51, 0) from hf1]
  have hz : znx X = 336 := hX
  rw [hz]
  clear hz
  show zgo true (d + 3) 129 180 [zr 12 0, zi 43] [zr 4 43, zi 43, zr 51 0] (znew X 4 43) = _
  rw [show znew X 4 43 = zdo [(0, 4, 43, 0, (0, 0), 0)] X from rfl]
  subst hN
  rfl
theorem H129_171 (M : zM) (hn : znx M = 1) : znx (N129_171 M) = 337 := by
  show znx (zdo [(0, 4, 43, 0, (0, 0), 0)] (N129_170 M)) = _
  rw [zdo_nx, H129_170 M hn]
  rfl
set_option maxRecDepth 100000 in
theorem G129_171_0 (M : zM) : zgR (N129_171 M) 12 0 4 = (50, 0) := by
  show zgR (zdo [(0, 4, 43, 0, (0, 0), 0)] (N129_170 M)) 12 0 4 = _
  rw [zdo_R _ _ (by decide), G129_170_0 M]
set_option maxRecDepth 100000 in
theorem G129_171_1 (M : zM) : zgR (N129_171 M) 12 0 5 = (51, 0) := by
  show zgR (zdo [(0, 4, 43, 0, (0, 0), 0)] (N129_170 M)) 12 0 5 = _
  rw [zdo_R _ _ (by decide), G129_170_1 M]
set_option maxRecDepth 100000 in
theorem G129_171_2 (M : zM) : zgR (N129_171 M) 12 0 7 = (53, 0) := by
  show zgR (zdo [(0, 4, 43, 0, (0, 0), 0)] (N129_170 M)) 12 0 7 = _
  rw [zdo_R _ _ (by decide), G129_170_2 M]
def D20_43 : List zOp := [(0, 24, 43, 0, (0, 0), 0), (1, 4, 43, 0, (24, 43), 0), (0, 25, 43, 0, (0, 0), 0), (1, 4, 43, 1, (25, 43), 0), (0, 26, 43, 0, (0, 0), 0), (1, 4, 43, 2, (26, 43), 0), (0, 27, 43, 0, (0, 0), 0), (1, 4, 43, 3, (27, 43), 0), (0, 28, 43, 0, (0, 0), 0), (1, 4, 43, 4, (28, 43), 0)]
set_option maxRecDepth 100000 in
set_option maxHeartbeats 4000000 in
theorem C20_43 (d : Nat) (M : zM) (hn : znx M = 337) : zgo true d 20 0 [zr 4 43] [] M = some (none, zdo D20_43 M) := by
  refine (B20_0 d 43 M).trans ?_
  have hz : znx M = 337 := hn
  rw [hz]
  clear hz
  show zgo true d 20 9 [zr 4 43] [zr 24 43, zr 4 43] (znew M 24 43) = _
  generalize hM1 : znew M 24 43 = M1
  have hn1 : znx M1 = 338 := by rw [← hM1]; exact congrArg (· + 1) hn
  refine (B20_9 d 43 43 24 43 M1).trans ?_
  have hz : znx (zsR M1 4 43 0 (24, 43)) = 338 := hn1
  rw [hz]
  clear hz
  show zgo true d 20 17 [zr 4 43] [zr 25 43, zr 4 43] (znew (zsR M1 4 43 0 (24, 43)) 25 43) = _
  generalize hM2 : znew (zsR M1 4 43 0 (24, 43)) 25 43 = M2
  have hn2 : znx M2 = 339 := by rw [← hM2]; exact congrArg (· + 1) hn1
  clear hn1
  refine (B20_17 d 43 43 25 43 M2).trans ?_
  have hz : znx (zsR M2 4 43 1 (25, 43)) = 339 := hn2
  rw [hz]
  clear hz
  show zgo true d 20 25 [zr 4 43] [zr 26 43, zr 4 43] (znew (zsR M2 4 43 1 (25, 43)) 26 43) = _
  generalize hM3 : znew (zsR M2 4 43 1 (25, 43)) 26 43 = M3
  have hn3 : znx M3 = 340 := by rw [← hM3]; exact congrArg (· + 1) hn2
  clear hn2
  refine (B20_25 d 43 43 26 43 M3).trans ?_
  show zgo true d 20 28 [zr 4 43] [] (zsR M3 4 43 2 (26, 43)) = _
  generalize hM4 : zsR M3 4 43 2 (26, 43) = M4
  have hn4 : znx M4 = 340 := by rw [← hM4]; exact hn3
  clear hn3
  refine (B20_28 d 43 M4).trans ?_
  have hz : znx M4 = 340 := hn4
  rw [hz]
  clear hz
  show zgo true d 20 33 [zr 4 43] [zr 27 43, zr 4 43] (znew M4 27 43) = _
  generalize hM5 : znew M4 27 43 = M5
  have hn5 : znx M5 = 341 := by rw [← hM5]; exact congrArg (· + 1) hn4
  clear hn4
  refine (B20_33 d 43 43 27 43 M5).trans ?_
  have hz : znx (zsR M5 4 43 3 (27, 43)) = 341 := hn5
  rw [hz]
  clear hz
  show zgo true d 20 41 [zr 4 43] [zr 28 43, zr 4 43] (znew (zsR M5 4 43 3 (27, 43)) 28 43) = _
  generalize hM6 : znew (zsR M5 4 43 3 (27, 43)) 28 43 = M6
  have hn6 : znx M6 = 342 := by rw [← hM6]; exact congrArg (· + 1) hn5
  clear hn5
  refine (B20_41 d 43 43 28 43 M6).trans ?_
  generalize hM7 : zsR M6 4 43 4 (28, 43) = M7
  have hn7 : znx M7 = 342 := by rw [← hM7]; exact hn6
  clear hn6
  subst hM7 hM6 hM5 hM4 hM3 hM2 hM1
  rfl
def N129_172 (M : zM) : zM := zdo D20_43 (N129_171 M)
set_option maxRecDepth 100000 in
theorem T129_182 (d : Nat) (M : zM) (hn : znx M = 1) : zgo true (d + 3) 129 180 [zr 12 0, zi 43] [zr 4 43, zi 43, zr 51 0] (N129_171 M) = zgo true (d + 3) 129 184 [zr 12 0, zi 43] [zr 4 43, zi 43, zr 51 0] (N129_172 M) := by
  have hX : znx (N129_171 M) = 337 := H129_171 M hn
  have hf0 : zgR (N129_171 M) 12 0 4 = (50, 0) := G129_171_0 M
  have hf1 : zgR (N129_171 M) 12 0 5 = (51, 0) := G129_171_1 M
  have hf2 : zgR (N129_171 M) 12 0 7 = (53, 0) := G129_171_2 M
  generalize hN : N129_171 M = X at hX hf0 hf1 hf2 ⊢
  refine (B129_180 (d + 2) 43 43 43 X).trans ?_
  show Option.bind (zgo true (d + 2) 20 0 [zr 4 43] [] (X)) _ = _
  refine zbind_of (C20_43 (d + 2) _ hX) ?_
  show zgo true (d + 3) 129 184 [zr 12 0, zi 43] [zr 4 43, zi 43, zr 51 0] (zdo D20_43 (X)) = _
  subst hN
  rfl
theorem H129_172 (M : zM) (hn : znx M = 1) : znx (N129_172 M) = 342 := by
  show znx (zdo D20_43 (N129_171 M)) = _
  rw [zdo_nx, H129_171 M hn]
  rfl
set_option maxRecDepth 100000 in
theorem G129_172_0 (M : zM) : zgR (N129_172 M) 12 0 4 = (50, 0) := by
  show zgR (zdo D20_43 (N129_171 M)) 12 0 4 = _
  rw [zdo_R _ _ (by decide), G129_171_0 M]
set_option maxRecDepth 100000 in
theorem G129_172_1 (M : zM) : zgR (N129_172 M) 12 0 5 = (51, 0) := by
  show zgR (zdo D20_43 (N129_171 M)) 12 0 5 = _
  rw [zdo_R _ _ (by decide), G129_171_1 M]
set_option maxRecDepth 100000 in
theorem G129_172_2 (M : zM) : zgR (N129_172 M) 12 0 7 = (53, 0) := by
  show zgR (zdo D20_43 (N129_171 M)) 12 0 7 = _
  rw [zdo_R _ _ (by decide), G129_171_2 M]
def N129_173 (M : zM) : zM := zdo [(1, 51, 0, 43, (4, 43), 0)] (N129_172 M)
set_option maxRecDepth 100000 in
theorem T129_183 (d : Nat) (M : zM) (hn : znx M = 1) : zgo true (d + 3) 129 184 [zr 12 0, zi 43] [zr 4 43, zi 43, zr 51 0] (N129_172 M) = zgo true (d + 3) 129 163 [zr 12 0, zi 44] [] (N129_173 M) := by
  have hX : znx (N129_172 M) = 342 := H129_172 M hn
  have hf0 : zgR (N129_172 M) 12 0 4 = (50, 0) := G129_172_0 M
  have hf1 : zgR (N129_172 M) 12 0 5 = (51, 0) := G129_172_1 M
  have hf2 : zgR (N129_172 M) 12 0 7 = (53, 0) := G129_172_2 M
  generalize hN : N129_172 M = X at hX hf0 hf1 hf2 ⊢
  refine (B129_184 (d + 3) 43 43 43 X).trans ?_
  show zgo true (d + 3) 129 163 [zr 12 0, zi 44] [] (zsR X 51 0 ((43 : Int32).toNatClampNeg) (4, 43)) = _
  rw [show zsR X 51 0 ((43 : Int32).toNatClampNeg) (4, 43) = zdo [(1, 51, 0, 43, (4, 43), 0)] X from rfl]
  subst hN
  rfl
theorem H129_173 (M : zM) (hn : znx M = 1) : znx (N129_173 M) = 342 := by
  show znx (zdo [(1, 51, 0, 43, (4, 43), 0)] (N129_172 M)) = _
  rw [zdo_nx, H129_172 M hn]
  rfl
set_option maxRecDepth 100000 in
theorem G129_173_0 (M : zM) : zgR (N129_173 M) 12 0 4 = (50, 0) := by
  show zgR (zdo [(1, 51, 0, 43, (4, 43), 0)] (N129_172 M)) 12 0 4 = _
  rw [zdo_R _ _ (by decide), G129_172_0 M]
set_option maxRecDepth 100000 in
theorem G129_173_1 (M : zM) : zgR (N129_173 M) 12 0 5 = (51, 0) := by
  show zgR (zdo [(1, 51, 0, 43, (4, 43), 0)] (N129_172 M)) 12 0 5 = _
  rw [zdo_R _ _ (by decide), G129_172_1 M]
set_option maxRecDepth 100000 in
theorem G129_173_2 (M : zM) : zgR (N129_173 M) 12 0 7 = (53, 0) := by
  show zgR (zdo [(1, 51, 0, 43, (4, 43), 0)] (N129_172 M)) 12 0 7 = _
  rw [zdo_R _ _ (by decide), G129_172_2 M]
def N129_174 (M : zM) : zM := zdo [(0, 4, 44, 0, (0, 0), 0)] (N129_173 M)
set_option maxRecDepth 100000 in
theorem T129_184 (d : Nat) (M : zM) (hn : znx M = 1) : zgo true (d + 3) 129 163 [zr 12 0, zi 44] [] (N129_173 M) = zgo true (d + 3) 129 180 [zr 12 0, zi 44] [zr 4 44, zi 44, zr 51 0] (N129_174 M) := by
  have hX : znx (N129_173 M) = 342 := H129_173 M hn
  have hf0 : zgR (N129_173 M) 12 0 4 = (50, 0) := G129_173_0 M
  have hf1 : zgR (N129_173 M) 12 0 5 = (51, 0) := G129_173_1 M
  have hf2 : zgR (N129_173 M) 12 0 7 = (53, 0) := G129_173_2 M
  generalize hN : N129_173 M = X at hX hf0 hf1 hf2 ⊢
  refine (B129_163 (d + 3) 44 X).trans ?_
  rw [show zgR (X) 12 0 5 = (51, 0) from hf1]
  have hz : znx X = 342 := hX
  rw [hz]
  clear hz
  show zgo true (d + 3) 129 180 [zr 12 0, zi 44] [zr 4 44, zi 44, zr 51 0] (znew X 4 44) = _
  rw [show znew X 4 44 = zdo [(0, 4, 44, 0, (0, 0), 0)] X from rfl]
  subst hN
  rfl
theorem H129_174 (M : zM) (hn : znx M = 1) : znx (N129_174 M) = 343 := by
  show znx (zdo [(0, 4, 44, 0, (0, 0), 0)] (N129_173 M)) = _
  rw [zdo_nx, H129_173 M hn]
  rfl
set_option maxRecDepth 100000 in
theorem G129_174_0 (M : zM) : zgR (N129_174 M) 12 0 4 = (50, 0) := by
  show zgR (zdo [(0, 4, 44, 0, (0, 0), 0)] (N129_173 M)) 12 0 4 = _
  rw [zdo_R _ _ (by decide), G129_173_0 M]
set_option maxRecDepth 100000 in
theorem G129_174_1 (M : zM) : zgR (N129_174 M) 12 0 5 = (51, 0) := by
  show zgR (zdo [(0, 4, 44, 0, (0, 0), 0)] (N129_173 M)) 12 0 5 = _
  rw [zdo_R _ _ (by decide), G129_173_1 M]
set_option maxRecDepth 100000 in
theorem G129_174_2 (M : zM) : zgR (N129_174 M) 12 0 7 = (53, 0) := by
  show zgR (zdo [(0, 4, 44, 0, (0, 0), 0)] (N129_173 M)) 12 0 7 = _
  rw [zdo_R _ _ (by decide), G129_173_2 M]
def D20_44 : List zOp := [(0, 24, 44, 0, (0, 0), 0), (1, 4, 44, 0, (24, 44), 0), (0, 25, 44, 0, (0, 0), 0), (1, 4, 44, 1, (25, 44), 0), (0, 26, 44, 0, (0, 0), 0), (1, 4, 44, 2, (26, 44), 0), (0, 27, 44, 0, (0, 0), 0), (1, 4, 44, 3, (27, 44), 0), (0, 28, 44, 0, (0, 0), 0), (1, 4, 44, 4, (28, 44), 0)]
set_option maxRecDepth 100000 in
set_option maxHeartbeats 4000000 in
theorem C20_44 (d : Nat) (M : zM) (hn : znx M = 343) : zgo true d 20 0 [zr 4 44] [] M = some (none, zdo D20_44 M) := by
  refine (B20_0 d 44 M).trans ?_
  have hz : znx M = 343 := hn
  rw [hz]
  clear hz
  show zgo true d 20 9 [zr 4 44] [zr 24 44, zr 4 44] (znew M 24 44) = _
  generalize hM1 : znew M 24 44 = M1
  have hn1 : znx M1 = 344 := by rw [← hM1]; exact congrArg (· + 1) hn
  refine (B20_9 d 44 44 24 44 M1).trans ?_
  have hz : znx (zsR M1 4 44 0 (24, 44)) = 344 := hn1
  rw [hz]
  clear hz
  show zgo true d 20 17 [zr 4 44] [zr 25 44, zr 4 44] (znew (zsR M1 4 44 0 (24, 44)) 25 44) = _
  generalize hM2 : znew (zsR M1 4 44 0 (24, 44)) 25 44 = M2
  have hn2 : znx M2 = 345 := by rw [← hM2]; exact congrArg (· + 1) hn1
  clear hn1
  refine (B20_17 d 44 44 25 44 M2).trans ?_
  have hz : znx (zsR M2 4 44 1 (25, 44)) = 345 := hn2
  rw [hz]
  clear hz
  show zgo true d 20 25 [zr 4 44] [zr 26 44, zr 4 44] (znew (zsR M2 4 44 1 (25, 44)) 26 44) = _
  generalize hM3 : znew (zsR M2 4 44 1 (25, 44)) 26 44 = M3
  have hn3 : znx M3 = 346 := by rw [← hM3]; exact congrArg (· + 1) hn2
  clear hn2
  refine (B20_25 d 44 44 26 44 M3).trans ?_
  show zgo true d 20 28 [zr 4 44] [] (zsR M3 4 44 2 (26, 44)) = _
  generalize hM4 : zsR M3 4 44 2 (26, 44) = M4
  have hn4 : znx M4 = 346 := by rw [← hM4]; exact hn3
  clear hn3
  refine (B20_28 d 44 M4).trans ?_
  have hz : znx M4 = 346 := hn4
  rw [hz]
  clear hz
  show zgo true d 20 33 [zr 4 44] [zr 27 44, zr 4 44] (znew M4 27 44) = _
  generalize hM5 : znew M4 27 44 = M5
  have hn5 : znx M5 = 347 := by rw [← hM5]; exact congrArg (· + 1) hn4
  clear hn4
  refine (B20_33 d 44 44 27 44 M5).trans ?_
  have hz : znx (zsR M5 4 44 3 (27, 44)) = 347 := hn5
  rw [hz]
  clear hz
  show zgo true d 20 41 [zr 4 44] [zr 28 44, zr 4 44] (znew (zsR M5 4 44 3 (27, 44)) 28 44) = _
  generalize hM6 : znew (zsR M5 4 44 3 (27, 44)) 28 44 = M6
  have hn6 : znx M6 = 348 := by rw [← hM6]; exact congrArg (· + 1) hn5
  clear hn5
  refine (B20_41 d 44 44 28 44 M6).trans ?_
  generalize hM7 : zsR M6 4 44 4 (28, 44) = M7
  have hn7 : znx M7 = 348 := by rw [← hM7]; exact hn6
  clear hn6
  subst hM7 hM6 hM5 hM4 hM3 hM2 hM1
  rfl
def N129_175 (M : zM) : zM := zdo D20_44 (N129_174 M)
set_option maxRecDepth 100000 in
theorem T129_185 (d : Nat) (M : zM) (hn : znx M = 1) : zgo true (d + 3) 129 180 [zr 12 0, zi 44] [zr 4 44, zi 44, zr 51 0] (N129_174 M) = zgo true (d + 3) 129 184 [zr 12 0, zi 44] [zr 4 44, zi 44, zr 51 0] (N129_175 M) := by
  have hX : znx (N129_174 M) = 343 := H129_174 M hn
  have hf0 : zgR (N129_174 M) 12 0 4 = (50, 0) := G129_174_0 M
  have hf1 : zgR (N129_174 M) 12 0 5 = (51, 0) := G129_174_1 M
  have hf2 : zgR (N129_174 M) 12 0 7 = (53, 0) := G129_174_2 M
  generalize hN : N129_174 M = X at hX hf0 hf1 hf2 ⊢
  refine (B129_180 (d + 2) 44 44 44 X).trans ?_
  show Option.bind (zgo true (d + 2) 20 0 [zr 4 44] [] (X)) _ = _
  refine zbind_of (C20_44 (d + 2) _ hX) ?_
  show zgo true (d + 3) 129 184 [zr 12 0, zi 44] [zr 4 44, zi 44, zr 51 0] (zdo D20_44 (X)) = _
  subst hN
  rfl
theorem H129_175 (M : zM) (hn : znx M = 1) : znx (N129_175 M) = 348 := by
  show znx (zdo D20_44 (N129_174 M)) = _
  rw [zdo_nx, H129_174 M hn]
  rfl
set_option maxRecDepth 100000 in
theorem G129_175_0 (M : zM) : zgR (N129_175 M) 12 0 4 = (50, 0) := by
  show zgR (zdo D20_44 (N129_174 M)) 12 0 4 = _
  rw [zdo_R _ _ (by decide), G129_174_0 M]
set_option maxRecDepth 100000 in
theorem G129_175_1 (M : zM) : zgR (N129_175 M) 12 0 5 = (51, 0) := by
  show zgR (zdo D20_44 (N129_174 M)) 12 0 5 = _
  rw [zdo_R _ _ (by decide), G129_174_1 M]
set_option maxRecDepth 100000 in
theorem G129_175_2 (M : zM) : zgR (N129_175 M) 12 0 7 = (53, 0) := by
  show zgR (zdo D20_44 (N129_174 M)) 12 0 7 = _
  rw [zdo_R _ _ (by decide), G129_174_2 M]
def N129_176 (M : zM) : zM := zdo [(1, 51, 0, 44, (4, 44), 0)] (N129_175 M)
set_option maxRecDepth 100000 in
theorem T129_186 (d : Nat) (M : zM) (hn : znx M = 1) : zgo true (d + 3) 129 184 [zr 12 0, zi 44] [zr 4 44, zi 44, zr 51 0] (N129_175 M) = zgo true (d + 3) 129 163 [zr 12 0, zi 45] [] (N129_176 M) := by
  have hX : znx (N129_175 M) = 348 := H129_175 M hn
  have hf0 : zgR (N129_175 M) 12 0 4 = (50, 0) := G129_175_0 M
  have hf1 : zgR (N129_175 M) 12 0 5 = (51, 0) := G129_175_1 M
  have hf2 : zgR (N129_175 M) 12 0 7 = (53, 0) := G129_175_2 M
  generalize hN : N129_175 M = X at hX hf0 hf1 hf2 ⊢
  refine (B129_184 (d + 3) 44 44 44 X).trans ?_
  show zgo true (d + 3) 129 163 [zr 12 0, zi 45] [] (zsR X 51 0 ((44 : Int32).toNatClampNeg) (4, 44)) = _
  rw [show zsR X 51 0 ((44 : Int32).toNatClampNeg) (4, 44) = zdo [(1, 51, 0, 44, (4, 44), 0)] X from rfl]
  subst hN
  rfl
theorem H129_176 (M : zM) (hn : znx M = 1) : znx (N129_176 M) = 348 := by
  show znx (zdo [(1, 51, 0, 44, (4, 44), 0)] (N129_175 M)) = _
  rw [zdo_nx, H129_175 M hn]
  rfl
set_option maxRecDepth 100000 in
theorem G129_176_0 (M : zM) : zgR (N129_176 M) 12 0 4 = (50, 0) := by
  show zgR (zdo [(1, 51, 0, 44, (4, 44), 0)] (N129_175 M)) 12 0 4 = _
  rw [zdo_R _ _ (by decide), G129_175_0 M]
set_option maxRecDepth 100000 in
theorem G129_176_1 (M : zM) : zgR (N129_176 M) 12 0 5 = (51, 0) := by
  show zgR (zdo [(1, 51, 0, 44, (4, 44), 0)] (N129_175 M)) 12 0 5 = _
  rw [zdo_R _ _ (by decide), G129_175_1 M]
set_option maxRecDepth 100000 in
theorem G129_176_2 (M : zM) : zgR (N129_176 M) 12 0 7 = (53, 0) := by
  show zgR (zdo [(1, 51, 0, 44, (4, 44), 0)] (N129_175 M)) 12 0 7 = _
  rw [zdo_R _ _ (by decide), G129_175_2 M]
def N129_177 (M : zM) : zM := zdo [(0, 4, 45, 0, (0, 0), 0)] (N129_176 M)
set_option maxRecDepth 100000 in
theorem T129_187 (d : Nat) (M : zM) (hn : znx M = 1) : zgo true (d + 3) 129 163 [zr 12 0, zi 45] [] (N129_176 M) = zgo true (d + 3) 129 180 [zr 12 0, zi 45] [zr 4 45, zi 45, zr 51 0] (N129_177 M) := by
  have hX : znx (N129_176 M) = 348 := H129_176 M hn
  have hf0 : zgR (N129_176 M) 12 0 4 = (50, 0) := G129_176_0 M
  have hf1 : zgR (N129_176 M) 12 0 5 = (51, 0) := G129_176_1 M
  have hf2 : zgR (N129_176 M) 12 0 7 = (53, 0) := G129_176_2 M
  generalize hN : N129_176 M = X at hX hf0 hf1 hf2 ⊢
  refine (B129_163 (d + 3) 45 X).trans ?_
  rw [show zgR (X) 12 0 5 = (51, 0) from hf1]
  have hz : znx X = 348 := hX
  rw [hz]
  clear hz
  show zgo true (d + 3) 129 180 [zr 12 0, zi 45] [zr 4 45, zi 45, zr 51 0] (znew X 4 45) = _
  rw [show znew X 4 45 = zdo [(0, 4, 45, 0, (0, 0), 0)] X from rfl]
  subst hN
  rfl
theorem H129_177 (M : zM) (hn : znx M = 1) : znx (N129_177 M) = 349 := by
  show znx (zdo [(0, 4, 45, 0, (0, 0), 0)] (N129_176 M)) = _
  rw [zdo_nx, H129_176 M hn]
  rfl
set_option maxRecDepth 100000 in
theorem G129_177_0 (M : zM) : zgR (N129_177 M) 12 0 4 = (50, 0) := by
  show zgR (zdo [(0, 4, 45, 0, (0, 0), 0)] (N129_176 M)) 12 0 4 = _
  rw [zdo_R _ _ (by decide), G129_176_0 M]
set_option maxRecDepth 100000 in
theorem G129_177_1 (M : zM) : zgR (N129_177 M) 12 0 5 = (51, 0) := by
  show zgR (zdo [(0, 4, 45, 0, (0, 0), 0)] (N129_176 M)) 12 0 5 = _
  rw [zdo_R _ _ (by decide), G129_176_1 M]
set_option maxRecDepth 100000 in
theorem G129_177_2 (M : zM) : zgR (N129_177 M) 12 0 7 = (53, 0) := by
  show zgR (zdo [(0, 4, 45, 0, (0, 0), 0)] (N129_176 M)) 12 0 7 = _
  rw [zdo_R _ _ (by decide), G129_176_2 M]
def D20_45 : List zOp := [(0, 24, 45, 0, (0, 0), 0), (1, 4, 45, 0, (24, 45), 0), (0, 25, 45, 0, (0, 0), 0), (1, 4, 45, 1, (25, 45), 0), (0, 26, 45, 0, (0, 0), 0), (1, 4, 45, 2, (26, 45), 0), (0, 27, 45, 0, (0, 0), 0), (1, 4, 45, 3, (27, 45), 0), (0, 28, 45, 0, (0, 0), 0), (1, 4, 45, 4, (28, 45), 0)]
set_option maxRecDepth 100000 in
set_option maxHeartbeats 4000000 in
theorem C20_45 (d : Nat) (M : zM) (hn : znx M = 349) : zgo true d 20 0 [zr 4 45] [] M = some (none, zdo D20_45 M) := by
  refine (B20_0 d 45 M).trans ?_
  have hz : znx M = 349 := hn
  rw [hz]
  clear hz
  show zgo true d 20 9 [zr 4 45] [zr 24 45, zr 4 45] (znew M 24 45) = _
  generalize hM1 : znew M 24 45 = M1
  have hn1 : znx M1 = 350 := by rw [← hM1]; exact congrArg (· + 1) hn
  refine (B20_9 d 45 45 24 45 M1).trans ?_
  have hz : znx (zsR M1 4 45 0 (24, 45)) = 350 := hn1
  rw [hz]
  clear hz
  show zgo true d 20 17 [zr 4 45] [zr 25 45, zr 4 45] (znew (zsR M1 4 45 0 (24, 45)) 25 45) = _
  generalize hM2 : znew (zsR M1 4 45 0 (24, 45)) 25 45 = M2
  have hn2 : znx M2 = 351 := by rw [← hM2]; exact congrArg (· + 1) hn1
  clear hn1
  refine (B20_17 d 45 45 25 45 M2).trans ?_
  have hz : znx (zsR M2 4 45 1 (25, 45)) = 351 := hn2
  rw [hz]
  clear hz
  show zgo true d 20 25 [zr 4 45] [zr 26 45, zr 4 45] (znew (zsR M2 4 45 1 (25, 45)) 26 45) = _
  generalize hM3 : znew (zsR M2 4 45 1 (25, 45)) 26 45 = M3
  have hn3 : znx M3 = 352 := by rw [← hM3]; exact congrArg (· + 1) hn2
  clear hn2
  refine (B20_25 d 45 45 26 45 M3).trans ?_
  show zgo true d 20 28 [zr 4 45] [] (zsR M3 4 45 2 (26, 45)) = _
  generalize hM4 : zsR M3 4 45 2 (26, 45) = M4
  have hn4 : znx M4 = 352 := by rw [← hM4]; exact hn3
  clear hn3
  refine (B20_28 d 45 M4).trans ?_
  have hz : znx M4 = 352 := hn4
  rw [hz]
  clear hz
  show zgo true d 20 33 [zr 4 45] [zr 27 45, zr 4 45] (znew M4 27 45) = _
  generalize hM5 : znew M4 27 45 = M5
  have hn5 : znx M5 = 353 := by rw [← hM5]; exact congrArg (· + 1) hn4
  clear hn4
  refine (B20_33 d 45 45 27 45 M5).trans ?_
  have hz : znx (zsR M5 4 45 3 (27, 45)) = 353 := hn5
  rw [hz]
  clear hz
  show zgo true d 20 41 [zr 4 45] [zr 28 45, zr 4 45] (znew (zsR M5 4 45 3 (27, 45)) 28 45) = _
  generalize hM6 : znew (zsR M5 4 45 3 (27, 45)) 28 45 = M6
  have hn6 : znx M6 = 354 := by rw [← hM6]; exact congrArg (· + 1) hn5
  clear hn5
  refine (B20_41 d 45 45 28 45 M6).trans ?_
  generalize hM7 : zsR M6 4 45 4 (28, 45) = M7
  have hn7 : znx M7 = 354 := by rw [← hM7]; exact hn6
  clear hn6
  subst hM7 hM6 hM5 hM4 hM3 hM2 hM1
  rfl
def N129_178 (M : zM) : zM := zdo D20_45 (N129_177 M)
set_option maxRecDepth 100000 in
theorem T129_188 (d : Nat) (M : zM) (hn : znx M = 1) : zgo true (d + 3) 129 180 [zr 12 0, zi 45] [zr 4 45, zi 45, zr 51 0] (N129_177 M) = zgo true (d + 3) 129 184 [zr 12 0, zi 45] [zr 4 45, zi 45, zr 51 0] (N129_178 M) := by
  have hX : znx (N129_177 M) = 349 := H129_177 M hn
  have hf0 : zgR (N129_177 M) 12 0 4 = (50, 0) := G129_177_0 M
  have hf1 : zgR (N129_177 M) 12 0 5 = (51, 0) := G129_177_1 M
  have hf2 : zgR (N129_177 M) 12 0 7 = (53, 0) := G129_177_2 M
  generalize hN : N129_177 M = X at hX hf0 hf1 hf2 ⊢
  refine (B129_180 (d + 2) 45 45 45 X).trans ?_
  show Option.bind (zgo true (d + 2) 20 0 [zr 4 45] [] (X)) _ = _
  refine zbind_of (C20_45 (d + 2) _ hX) ?_
  show zgo true (d + 3) 129 184 [zr 12 0, zi 45] [zr 4 45, zi 45, zr 51 0] (zdo D20_45 (X)) = _
  subst hN
  rfl
theorem H129_178 (M : zM) (hn : znx M = 1) : znx (N129_178 M) = 354 := by
  show znx (zdo D20_45 (N129_177 M)) = _
  rw [zdo_nx, H129_177 M hn]
  rfl
set_option maxRecDepth 100000 in
theorem G129_178_0 (M : zM) : zgR (N129_178 M) 12 0 4 = (50, 0) := by
  show zgR (zdo D20_45 (N129_177 M)) 12 0 4 = _
  rw [zdo_R _ _ (by decide), G129_177_0 M]
set_option maxRecDepth 100000 in
theorem G129_178_1 (M : zM) : zgR (N129_178 M) 12 0 5 = (51, 0) := by
  show zgR (zdo D20_45 (N129_177 M)) 12 0 5 = _
  rw [zdo_R _ _ (by decide), G129_177_1 M]
set_option maxRecDepth 100000 in
theorem G129_178_2 (M : zM) : zgR (N129_178 M) 12 0 7 = (53, 0) := by
  show zgR (zdo D20_45 (N129_177 M)) 12 0 7 = _
  rw [zdo_R _ _ (by decide), G129_177_2 M]
def N129_179 (M : zM) : zM := zdo [(1, 51, 0, 45, (4, 45), 0)] (N129_178 M)
set_option maxRecDepth 100000 in
theorem T129_189 (d : Nat) (M : zM) (hn : znx M = 1) : zgo true (d + 3) 129 184 [zr 12 0, zi 45] [zr 4 45, zi 45, zr 51 0] (N129_178 M) = zgo true (d + 3) 129 163 [zr 12 0, zi 46] [] (N129_179 M) := by
  have hX : znx (N129_178 M) = 354 := H129_178 M hn
  have hf0 : zgR (N129_178 M) 12 0 4 = (50, 0) := G129_178_0 M
  have hf1 : zgR (N129_178 M) 12 0 5 = (51, 0) := G129_178_1 M
  have hf2 : zgR (N129_178 M) 12 0 7 = (53, 0) := G129_178_2 M
  generalize hN : N129_178 M = X at hX hf0 hf1 hf2 ⊢
  refine (B129_184 (d + 3) 45 45 45 X).trans ?_
  show zgo true (d + 3) 129 163 [zr 12 0, zi 46] [] (zsR X 51 0 ((45 : Int32).toNatClampNeg) (4, 45)) = _
  rw [show zsR X 51 0 ((45 : Int32).toNatClampNeg) (4, 45) = zdo [(1, 51, 0, 45, (4, 45), 0)] X from rfl]
  subst hN
  rfl
theorem H129_179 (M : zM) (hn : znx M = 1) : znx (N129_179 M) = 354 := by
  show znx (zdo [(1, 51, 0, 45, (4, 45), 0)] (N129_178 M)) = _
  rw [zdo_nx, H129_178 M hn]
  rfl
set_option maxRecDepth 100000 in
theorem G129_179_0 (M : zM) : zgR (N129_179 M) 12 0 4 = (50, 0) := by
  show zgR (zdo [(1, 51, 0, 45, (4, 45), 0)] (N129_178 M)) 12 0 4 = _
  rw [zdo_R _ _ (by decide), G129_178_0 M]
set_option maxRecDepth 100000 in
theorem G129_179_1 (M : zM) : zgR (N129_179 M) 12 0 5 = (51, 0) := by
  show zgR (zdo [(1, 51, 0, 45, (4, 45), 0)] (N129_178 M)) 12 0 5 = _
  rw [zdo_R _ _ (by decide), G129_178_1 M]
set_option maxRecDepth 100000 in
theorem G129_179_2 (M : zM) : zgR (N129_179 M) 12 0 7 = (53, 0) := by
  show zgR (zdo [(1, 51, 0, 45, (4, 45), 0)] (N129_178 M)) 12 0 7 = _
  rw [zdo_R _ _ (by decide), G129_178_2 M]
def N129_180 (M : zM) : zM := zdo [(0, 4, 46, 0, (0, 0), 0)] (N129_179 M)
set_option maxRecDepth 100000 in
theorem T129_190 (d : Nat) (M : zM) (hn : znx M = 1) : zgo true (d + 3) 129 163 [zr 12 0, zi 46] [] (N129_179 M) = zgo true (d + 3) 129 180 [zr 12 0, zi 46] [zr 4 46, zi 46, zr 51 0] (N129_180 M) := by
  have hX : znx (N129_179 M) = 354 := H129_179 M hn
  have hf0 : zgR (N129_179 M) 12 0 4 = (50, 0) := G129_179_0 M
  have hf1 : zgR (N129_179 M) 12 0 5 = (51, 0) := G129_179_1 M
  have hf2 : zgR (N129_179 M) 12 0 7 = (53, 0) := G129_179_2 M
  generalize hN : N129_179 M = X at hX hf0 hf1 hf2 ⊢
  refine (B129_163 (d + 3) 46 X).trans ?_
  rw [show zgR (X) 12 0 5 = (51, 0) from hf1]
  have hz : znx X = 354 := hX
  rw [hz]
  clear hz
  show zgo true (d + 3) 129 180 [zr 12 0, zi 46] [zr 4 46, zi 46, zr 51 0] (znew X 4 46) = _
  rw [show znew X 4 46 = zdo [(0, 4, 46, 0, (0, 0), 0)] X from rfl]
  subst hN
  rfl
theorem H129_180 (M : zM) (hn : znx M = 1) : znx (N129_180 M) = 355 := by
  show znx (zdo [(0, 4, 46, 0, (0, 0), 0)] (N129_179 M)) = _
  rw [zdo_nx, H129_179 M hn]
  rfl
set_option maxRecDepth 100000 in
theorem G129_180_0 (M : zM) : zgR (N129_180 M) 12 0 4 = (50, 0) := by
  show zgR (zdo [(0, 4, 46, 0, (0, 0), 0)] (N129_179 M)) 12 0 4 = _
  rw [zdo_R _ _ (by decide), G129_179_0 M]
set_option maxRecDepth 100000 in
theorem G129_180_1 (M : zM) : zgR (N129_180 M) 12 0 5 = (51, 0) := by
  show zgR (zdo [(0, 4, 46, 0, (0, 0), 0)] (N129_179 M)) 12 0 5 = _
  rw [zdo_R _ _ (by decide), G129_179_1 M]
set_option maxRecDepth 100000 in
theorem G129_180_2 (M : zM) : zgR (N129_180 M) 12 0 7 = (53, 0) := by
  show zgR (zdo [(0, 4, 46, 0, (0, 0), 0)] (N129_179 M)) 12 0 7 = _
  rw [zdo_R _ _ (by decide), G129_179_2 M]
def D20_46 : List zOp := [(0, 24, 46, 0, (0, 0), 0), (1, 4, 46, 0, (24, 46), 0), (0, 25, 46, 0, (0, 0), 0), (1, 4, 46, 1, (25, 46), 0), (0, 26, 46, 0, (0, 0), 0), (1, 4, 46, 2, (26, 46), 0), (0, 27, 46, 0, (0, 0), 0), (1, 4, 46, 3, (27, 46), 0), (0, 28, 46, 0, (0, 0), 0), (1, 4, 46, 4, (28, 46), 0)]
set_option maxRecDepth 100000 in
set_option maxHeartbeats 4000000 in
theorem C20_46 (d : Nat) (M : zM) (hn : znx M = 355) : zgo true d 20 0 [zr 4 46] [] M = some (none, zdo D20_46 M) := by
  refine (B20_0 d 46 M).trans ?_
  have hz : znx M = 355 := hn
  rw [hz]
  clear hz
  show zgo true d 20 9 [zr 4 46] [zr 24 46, zr 4 46] (znew M 24 46) = _
  generalize hM1 : znew M 24 46 = M1
  have hn1 : znx M1 = 356 := by rw [← hM1]; exact congrArg (· + 1) hn
  refine (B20_9 d 46 46 24 46 M1).trans ?_
  have hz : znx (zsR M1 4 46 0 (24, 46)) = 356 := hn1
  rw [hz]
  clear hz
  show zgo true d 20 17 [zr 4 46] [zr 25 46, zr 4 46] (znew (zsR M1 4 46 0 (24, 46)) 25 46) = _
  generalize hM2 : znew (zsR M1 4 46 0 (24, 46)) 25 46 = M2
  have hn2 : znx M2 = 357 := by rw [← hM2]; exact congrArg (· + 1) hn1
  clear hn1
  refine (B20_17 d 46 46 25 46 M2).trans ?_
  have hz : znx (zsR M2 4 46 1 (25, 46)) = 357 := hn2
  rw [hz]
  clear hz
  show zgo true d 20 25 [zr 4 46] [zr 26 46, zr 4 46] (znew (zsR M2 4 46 1 (25, 46)) 26 46) = _
  generalize hM3 : znew (zsR M2 4 46 1 (25, 46)) 26 46 = M3
  have hn3 : znx M3 = 358 := by rw [← hM3]; exact congrArg (· + 1) hn2
  clear hn2
  refine (B20_25 d 46 46 26 46 M3).trans ?_
  show zgo true d 20 28 [zr 4 46] [] (zsR M3 4 46 2 (26, 46)) = _
  generalize hM4 : zsR M3 4 46 2 (26, 46) = M4
  have hn4 : znx M4 = 358 := by rw [← hM4]; exact hn3
  clear hn3
  refine (B20_28 d 46 M4).trans ?_
  have hz : znx M4 = 358 := hn4
  rw [hz]
  clear hz
  show zgo true d 20 33 [zr 4 46] [zr 27 46, zr 4 46] (znew M4 27 46) = _
  generalize hM5 : znew M4 27 46 = M5
  have hn5 : znx M5 = 359 := by rw [← hM5]; exact congrArg (· + 1) hn4
  clear hn4
  refine (B20_33 d 46 46 27 46 M5).trans ?_
  have hz : znx (zsR M5 4 46 3 (27, 46)) = 359 := hn5
  rw [hz]
  clear hz
  show zgo true d 20 41 [zr 4 46] [zr 28 46, zr 4 46] (znew (zsR M5 4 46 3 (27, 46)) 28 46) = _
  generalize hM6 : znew (zsR M5 4 46 3 (27, 46)) 28 46 = M6
  have hn6 : znx M6 = 360 := by rw [← hM6]; exact congrArg (· + 1) hn5
  clear hn5
  refine (B20_41 d 46 46 28 46 M6).trans ?_
  generalize hM7 : zsR M6 4 46 4 (28, 46) = M7
  have hn7 : znx M7 = 360 := by rw [← hM7]; exact hn6
  clear hn6
  subst hM7 hM6 hM5 hM4 hM3 hM2 hM1
  rfl
def N129_181 (M : zM) : zM := zdo D20_46 (N129_180 M)
set_option maxRecDepth 100000 in
theorem T129_191 (d : Nat) (M : zM) (hn : znx M = 1) : zgo true (d + 3) 129 180 [zr 12 0, zi 46] [zr 4 46, zi 46, zr 51 0] (N129_180 M) = zgo true (d + 3) 129 184 [zr 12 0, zi 46] [zr 4 46, zi 46, zr 51 0] (N129_181 M) := by
  have hX : znx (N129_180 M) = 355 := H129_180 M hn
  have hf0 : zgR (N129_180 M) 12 0 4 = (50, 0) := G129_180_0 M
  have hf1 : zgR (N129_180 M) 12 0 5 = (51, 0) := G129_180_1 M
  have hf2 : zgR (N129_180 M) 12 0 7 = (53, 0) := G129_180_2 M
  generalize hN : N129_180 M = X at hX hf0 hf1 hf2 ⊢
  refine (B129_180 (d + 2) 46 46 46 X).trans ?_
  show Option.bind (zgo true (d + 2) 20 0 [zr 4 46] [] (X)) _ = _
  refine zbind_of (C20_46 (d + 2) _ hX) ?_
  show zgo true (d + 3) 129 184 [zr 12 0, zi 46] [zr 4 46, zi 46, zr 51 0] (zdo D20_46 (X)) = _
  subst hN
  rfl
theorem H129_181 (M : zM) (hn : znx M = 1) : znx (N129_181 M) = 360 := by
  show znx (zdo D20_46 (N129_180 M)) = _
  rw [zdo_nx, H129_180 M hn]
  rfl
set_option maxRecDepth 100000 in
theorem G129_181_0 (M : zM) : zgR (N129_181 M) 12 0 4 = (50, 0) := by
  show zgR (zdo D20_46 (N129_180 M)) 12 0 4 = _
  rw [zdo_R _ _ (by decide), G129_180_0 M]
set_option maxRecDepth 100000 in
theorem G129_181_1 (M : zM) : zgR (N129_181 M) 12 0 5 = (51, 0) := by
  show zgR (zdo D20_46 (N129_180 M)) 12 0 5 = _
  rw [zdo_R _ _ (by decide), G129_180_1 M]
set_option maxRecDepth 100000 in
theorem G129_181_2 (M : zM) : zgR (N129_181 M) 12 0 7 = (53, 0) := by
  show zgR (zdo D20_46 (N129_180 M)) 12 0 7 = _
  rw [zdo_R _ _ (by decide), G129_180_2 M]
def N129_182 (M : zM) : zM := zdo [(1, 51, 0, 46, (4, 46), 0)] (N129_181 M)
set_option maxRecDepth 100000 in
theorem T129_192 (d : Nat) (M : zM) (hn : znx M = 1) : zgo true (d + 3) 129 184 [zr 12 0, zi 46] [zr 4 46, zi 46, zr 51 0] (N129_181 M) = zgo true (d + 3) 129 163 [zr 12 0, zi 47] [] (N129_182 M) := by
  have hX : znx (N129_181 M) = 360 := H129_181 M hn
  have hf0 : zgR (N129_181 M) 12 0 4 = (50, 0) := G129_181_0 M
  have hf1 : zgR (N129_181 M) 12 0 5 = (51, 0) := G129_181_1 M
  have hf2 : zgR (N129_181 M) 12 0 7 = (53, 0) := G129_181_2 M
  generalize hN : N129_181 M = X at hX hf0 hf1 hf2 ⊢
  refine (B129_184 (d + 3) 46 46 46 X).trans ?_
  show zgo true (d + 3) 129 163 [zr 12 0, zi 47] [] (zsR X 51 0 ((46 : Int32).toNatClampNeg) (4, 46)) = _
  rw [show zsR X 51 0 ((46 : Int32).toNatClampNeg) (4, 46) = zdo [(1, 51, 0, 46, (4, 46), 0)] X from rfl]
  subst hN
  rfl
theorem H129_182 (M : zM) (hn : znx M = 1) : znx (N129_182 M) = 360 := by
  show znx (zdo [(1, 51, 0, 46, (4, 46), 0)] (N129_181 M)) = _
  rw [zdo_nx, H129_181 M hn]
  rfl
set_option maxRecDepth 100000 in
theorem G129_182_0 (M : zM) : zgR (N129_182 M) 12 0 4 = (50, 0) := by
  show zgR (zdo [(1, 51, 0, 46, (4, 46), 0)] (N129_181 M)) 12 0 4 = _
  rw [zdo_R _ _ (by decide), G129_181_0 M]
set_option maxRecDepth 100000 in
theorem G129_182_1 (M : zM) : zgR (N129_182 M) 12 0 5 = (51, 0) := by
  show zgR (zdo [(1, 51, 0, 46, (4, 46), 0)] (N129_181 M)) 12 0 5 = _
  rw [zdo_R _ _ (by decide), G129_181_1 M]
set_option maxRecDepth 100000 in
theorem G129_182_2 (M : zM) : zgR (N129_182 M) 12 0 7 = (53, 0) := by
  show zgR (zdo [(1, 51, 0, 46, (4, 46), 0)] (N129_181 M)) 12 0 7 = _
  rw [zdo_R _ _ (by decide), G129_181_2 M]
def N129_183 (M : zM) : zM := zdo [(0, 4, 47, 0, (0, 0), 0)] (N129_182 M)
set_option maxRecDepth 100000 in
theorem T129_193 (d : Nat) (M : zM) (hn : znx M = 1) : zgo true (d + 3) 129 163 [zr 12 0, zi 47] [] (N129_182 M) = zgo true (d + 3) 129 180 [zr 12 0, zi 47] [zr 4 47, zi 47, zr 51 0] (N129_183 M) := by
  have hX : znx (N129_182 M) = 360 := H129_182 M hn
  have hf0 : zgR (N129_182 M) 12 0 4 = (50, 0) := G129_182_0 M
  have hf1 : zgR (N129_182 M) 12 0 5 = (51, 0) := G129_182_1 M
  have hf2 : zgR (N129_182 M) 12 0 7 = (53, 0) := G129_182_2 M
  generalize hN : N129_182 M = X at hX hf0 hf1 hf2 ⊢
  refine (B129_163 (d + 3) 47 X).trans ?_
  rw [show zgR (X) 12 0 5 = (51, 0) from hf1]
  have hz : znx X = 360 := hX
  rw [hz]
  clear hz
  show zgo true (d + 3) 129 180 [zr 12 0, zi 47] [zr 4 47, zi 47, zr 51 0] (znew X 4 47) = _
  rw [show znew X 4 47 = zdo [(0, 4, 47, 0, (0, 0), 0)] X from rfl]
  subst hN
  rfl
theorem H129_183 (M : zM) (hn : znx M = 1) : znx (N129_183 M) = 361 := by
  show znx (zdo [(0, 4, 47, 0, (0, 0), 0)] (N129_182 M)) = _
  rw [zdo_nx, H129_182 M hn]
  rfl
set_option maxRecDepth 100000 in
theorem G129_183_0 (M : zM) : zgR (N129_183 M) 12 0 4 = (50, 0) := by
  show zgR (zdo [(0, 4, 47, 0, (0, 0), 0)] (N129_182 M)) 12 0 4 = _
  rw [zdo_R _ _ (by decide), G129_182_0 M]
set_option maxRecDepth 100000 in
theorem G129_183_1 (M : zM) : zgR (N129_183 M) 12 0 5 = (51, 0) := by
  show zgR (zdo [(0, 4, 47, 0, (0, 0), 0)] (N129_182 M)) 12 0 5 = _
  rw [zdo_R _ _ (by decide), G129_182_1 M]
set_option maxRecDepth 100000 in
theorem G129_183_2 (M : zM) : zgR (N129_183 M) 12 0 7 = (53, 0) := by
  show zgR (zdo [(0, 4, 47, 0, (0, 0), 0)] (N129_182 M)) 12 0 7 = _
  rw [zdo_R _ _ (by decide), G129_182_2 M]
def D20_47 : List zOp := [(0, 24, 47, 0, (0, 0), 0), (1, 4, 47, 0, (24, 47), 0), (0, 25, 47, 0, (0, 0), 0), (1, 4, 47, 1, (25, 47), 0), (0, 26, 47, 0, (0, 0), 0), (1, 4, 47, 2, (26, 47), 0), (0, 27, 47, 0, (0, 0), 0), (1, 4, 47, 3, (27, 47), 0), (0, 28, 47, 0, (0, 0), 0), (1, 4, 47, 4, (28, 47), 0)]
set_option maxRecDepth 100000 in
set_option maxHeartbeats 4000000 in
theorem C20_47 (d : Nat) (M : zM) (hn : znx M = 361) : zgo true d 20 0 [zr 4 47] [] M = some (none, zdo D20_47 M) := by
  refine (B20_0 d 47 M).trans ?_
  have hz : znx M = 361 := hn
  rw [hz]
  clear hz
  show zgo true d 20 9 [zr 4 47] [zr 24 47, zr 4 47] (znew M 24 47) = _
  generalize hM1 : znew M 24 47 = M1
  have hn1 : znx M1 = 362 := by rw [← hM1]; exact congrArg (· + 1) hn
  refine (B20_9 d 47 47 24 47 M1).trans ?_
  have hz : znx (zsR M1 4 47 0 (24, 47)) = 362 := hn1
  rw [hz]
  clear hz
  show zgo true d 20 17 [zr 4 47] [zr 25 47, zr 4 47] (znew (zsR M1 4 47 0 (24, 47)) 25 47) = _
  generalize hM2 : znew (zsR M1 4 47 0 (24, 47)) 25 47 = M2
  have hn2 : znx M2 = 363 := by rw [← hM2]; exact congrArg (· + 1) hn1
  clear hn1
  refine (B20_17 d 47 47 25 47 M2).trans ?_
  have hz : znx (zsR M2 4 47 1 (25, 47)) = 363 := hn2
  rw [hz]
  clear hz
  show zgo true d 20 25 [zr 4 47] [zr 26 47, zr 4 47] (znew (zsR M2 4 47 1 (25, 47)) 26 47) = _
  generalize hM3 : znew (zsR M2 4 47 1 (25, 47)) 26 47 = M3
  have hn3 : znx M3 = 364 := by rw [← hM3]; exact congrArg (· + 1) hn2
  clear hn2
  refine (B20_25 d 47 47 26 47 M3).trans ?_
  show zgo true d 20 28 [zr 4 47] [] (zsR M3 4 47 2 (26, 47)) = _
  generalize hM4 : zsR M3 4 47 2 (26, 47) = M4
  have hn4 : znx M4 = 364 := by rw [← hM4]; exact hn3
  clear hn3
  refine (B20_28 d 47 M4).trans ?_
  have hz : znx M4 = 364 := hn4
  rw [hz]
  clear hz
  show zgo true d 20 33 [zr 4 47] [zr 27 47, zr 4 47] (znew M4 27 47) = _
  generalize hM5 : znew M4 27 47 = M5
  have hn5 : znx M5 = 365 := by rw [← hM5]; exact congrArg (· + 1) hn4
  clear hn4
  refine (B20_33 d 47 47 27 47 M5).trans ?_
  have hz : znx (zsR M5 4 47 3 (27, 47)) = 365 := hn5
  rw [hz]
  clear hz
  show zgo true d 20 41 [zr 4 47] [zr 28 47, zr 4 47] (znew (zsR M5 4 47 3 (27, 47)) 28 47) = _
  generalize hM6 : znew (zsR M5 4 47 3 (27, 47)) 28 47 = M6
  have hn6 : znx M6 = 366 := by rw [← hM6]; exact congrArg (· + 1) hn5
  clear hn5
  refine (B20_41 d 47 47 28 47 M6).trans ?_
  generalize hM7 : zsR M6 4 47 4 (28, 47) = M7
  have hn7 : znx M7 = 366 := by rw [← hM7]; exact hn6
  clear hn6
  subst hM7 hM6 hM5 hM4 hM3 hM2 hM1
  rfl
def N129_184 (M : zM) : zM := zdo D20_47 (N129_183 M)
set_option maxRecDepth 100000 in
theorem T129_194 (d : Nat) (M : zM) (hn : znx M = 1) : zgo true (d + 3) 129 180 [zr 12 0, zi 47] [zr 4 47, zi 47, zr 51 0] (N129_183 M) = zgo true (d + 3) 129 184 [zr 12 0, zi 47] [zr 4 47, zi 47, zr 51 0] (N129_184 M) := by
  have hX : znx (N129_183 M) = 361 := H129_183 M hn
  have hf0 : zgR (N129_183 M) 12 0 4 = (50, 0) := G129_183_0 M
  have hf1 : zgR (N129_183 M) 12 0 5 = (51, 0) := G129_183_1 M
  have hf2 : zgR (N129_183 M) 12 0 7 = (53, 0) := G129_183_2 M
  generalize hN : N129_183 M = X at hX hf0 hf1 hf2 ⊢
  refine (B129_180 (d + 2) 47 47 47 X).trans ?_
  show Option.bind (zgo true (d + 2) 20 0 [zr 4 47] [] (X)) _ = _
  refine zbind_of (C20_47 (d + 2) _ hX) ?_
  show zgo true (d + 3) 129 184 [zr 12 0, zi 47] [zr 4 47, zi 47, zr 51 0] (zdo D20_47 (X)) = _
  subst hN
  rfl
theorem H129_184 (M : zM) (hn : znx M = 1) : znx (N129_184 M) = 366 := by
  show znx (zdo D20_47 (N129_183 M)) = _
  rw [zdo_nx, H129_183 M hn]
  rfl
set_option maxRecDepth 100000 in
theorem G129_184_0 (M : zM) : zgR (N129_184 M) 12 0 4 = (50, 0) := by
  show zgR (zdo D20_47 (N129_183 M)) 12 0 4 = _
  rw [zdo_R _ _ (by decide), G129_183_0 M]
set_option maxRecDepth 100000 in
theorem G129_184_1 (M : zM) : zgR (N129_184 M) 12 0 5 = (51, 0) := by
  show zgR (zdo D20_47 (N129_183 M)) 12 0 5 = _
  rw [zdo_R _ _ (by decide), G129_183_1 M]
set_option maxRecDepth 100000 in
theorem G129_184_2 (M : zM) : zgR (N129_184 M) 12 0 7 = (53, 0) := by
  show zgR (zdo D20_47 (N129_183 M)) 12 0 7 = _
  rw [zdo_R _ _ (by decide), G129_183_2 M]
def N129_185 (M : zM) : zM := zdo [(1, 51, 0, 47, (4, 47), 0)] (N129_184 M)
set_option maxRecDepth 100000 in
theorem T129_195 (d : Nat) (M : zM) (hn : znx M = 1) : zgo true (d + 3) 129 184 [zr 12 0, zi 47] [zr 4 47, zi 47, zr 51 0] (N129_184 M) = zgo true (d + 3) 129 163 [zr 12 0, zi 48] [] (N129_185 M) := by
  have hX : znx (N129_184 M) = 366 := H129_184 M hn
  have hf0 : zgR (N129_184 M) 12 0 4 = (50, 0) := G129_184_0 M
  have hf1 : zgR (N129_184 M) 12 0 5 = (51, 0) := G129_184_1 M
  have hf2 : zgR (N129_184 M) 12 0 7 = (53, 0) := G129_184_2 M
  generalize hN : N129_184 M = X at hX hf0 hf1 hf2 ⊢
  refine (B129_184 (d + 3) 47 47 47 X).trans ?_
  show zgo true (d + 3) 129 163 [zr 12 0, zi 48] [] (zsR X 51 0 ((47 : Int32).toNatClampNeg) (4, 47)) = _
  rw [show zsR X 51 0 ((47 : Int32).toNatClampNeg) (4, 47) = zdo [(1, 51, 0, 47, (4, 47), 0)] X from rfl]
  subst hN
  rfl
theorem H129_185 (M : zM) (hn : znx M = 1) : znx (N129_185 M) = 366 := by
  show znx (zdo [(1, 51, 0, 47, (4, 47), 0)] (N129_184 M)) = _
  rw [zdo_nx, H129_184 M hn]
  rfl
set_option maxRecDepth 100000 in
theorem G129_185_0 (M : zM) : zgR (N129_185 M) 12 0 4 = (50, 0) := by
  show zgR (zdo [(1, 51, 0, 47, (4, 47), 0)] (N129_184 M)) 12 0 4 = _
  rw [zdo_R _ _ (by decide), G129_184_0 M]
set_option maxRecDepth 100000 in
theorem G129_185_1 (M : zM) : zgR (N129_185 M) 12 0 5 = (51, 0) := by
  show zgR (zdo [(1, 51, 0, 47, (4, 47), 0)] (N129_184 M)) 12 0 5 = _
  rw [zdo_R _ _ (by decide), G129_184_1 M]
set_option maxRecDepth 100000 in
theorem G129_185_2 (M : zM) : zgR (N129_185 M) 12 0 7 = (53, 0) := by
  show zgR (zdo [(1, 51, 0, 47, (4, 47), 0)] (N129_184 M)) 12 0 7 = _
  rw [zdo_R _ _ (by decide), G129_184_2 M]
def N129_186 (M : zM) : zM := zdo [(0, 4, 48, 0, (0, 0), 0)] (N129_185 M)
set_option maxRecDepth 100000 in
theorem T129_196 (d : Nat) (M : zM) (hn : znx M = 1) : zgo true (d + 3) 129 163 [zr 12 0, zi 48] [] (N129_185 M) = zgo true (d + 3) 129 180 [zr 12 0, zi 48] [zr 4 48, zi 48, zr 51 0] (N129_186 M) := by
  have hX : znx (N129_185 M) = 366 := H129_185 M hn
  have hf0 : zgR (N129_185 M) 12 0 4 = (50, 0) := G129_185_0 M
  have hf1 : zgR (N129_185 M) 12 0 5 = (51, 0) := G129_185_1 M
  have hf2 : zgR (N129_185 M) 12 0 7 = (53, 0) := G129_185_2 M
  generalize hN : N129_185 M = X at hX hf0 hf1 hf2 ⊢
  refine (B129_163 (d + 3) 48 X).trans ?_
  rw [show zgR (X) 12 0 5 = (51, 0) from hf1]
  have hz : znx X = 366 := hX
  rw [hz]
  clear hz
  show zgo true (d + 3) 129 180 [zr 12 0, zi 48] [zr 4 48, zi 48, zr 51 0] (znew X 4 48) = _
  rw [show znew X 4 48 = zdo [(0, 4, 48, 0, (0, 0), 0)] X from rfl]
  subst hN
  rfl
theorem H129_186 (M : zM) (hn : znx M = 1) : znx (N129_186 M) = 367 := by
  show znx (zdo [(0, 4, 48, 0, (0, 0), 0)] (N129_185 M)) = _
  rw [zdo_nx, H129_185 M hn]
  rfl
set_option maxRecDepth 100000 in
theorem G129_186_0 (M : zM) : zgR (N129_186 M) 12 0 4 = (50, 0) := by
  show zgR (zdo [(0, 4, 48, 0, (0, 0), 0)] (N129_185 M)) 12 0 4 = _
  rw [zdo_R _ _ (by decide), G129_185_0 M]
set_option maxRecDepth 100000 in
theorem G129_186_1 (M : zM) : zgR (N129_186 M) 12 0 5 = (51, 0) := by
  show zgR (zdo [(0, 4, 48, 0, (0, 0), 0)] (N129_185 M)) 12 0 5 = _
  rw [zdo_R _ _ (by decide), G129_185_1 M]
set_option maxRecDepth 100000 in
theorem G129_186_2 (M : zM) : zgR (N129_186 M) 12 0 7 = (53, 0) := by
  show zgR (zdo [(0, 4, 48, 0, (0, 0), 0)] (N129_185 M)) 12 0 7 = _
  rw [zdo_R _ _ (by decide), G129_185_2 M]
def D20_48 : List zOp := [(0, 24, 48, 0, (0, 0), 0), (1, 4, 48, 0, (24, 48), 0), (0, 25, 48, 0, (0, 0), 0), (1, 4, 48, 1, (25, 48), 0), (0, 26, 48, 0, (0, 0), 0), (1, 4, 48, 2, (26, 48), 0), (0, 27, 48, 0, (0, 0), 0), (1, 4, 48, 3, (27, 48), 0), (0, 28, 48, 0, (0, 0), 0), (1, 4, 48, 4, (28, 48), 0)]
set_option maxRecDepth 100000 in
set_option maxHeartbeats 4000000 in
theorem C20_48 (d : Nat) (M : zM) (hn : znx M = 367) : zgo true d 20 0 [zr 4 48] [] M = some (none, zdo D20_48 M) := by
  refine (B20_0 d 48 M).trans ?_
  have hz : znx M = 367 := hn
  rw [hz]
  clear hz
  show zgo true d 20 9 [zr 4 48] [zr 24 48, zr 4 48] (znew M 24 48) = _
  generalize hM1 : znew M 24 48 = M1
  have hn1 : znx M1 = 368 := by rw [← hM1]; exact congrArg (· + 1) hn
  refine (B20_9 d 48 48 24 48 M1).trans ?_
  have hz : znx (zsR M1 4 48 0 (24, 48)) = 368 := hn1
  rw [hz]
  clear hz
  show zgo true d 20 17 [zr 4 48] [zr 25 48, zr 4 48] (znew (zsR M1 4 48 0 (24, 48)) 25 48) = _
  generalize hM2 : znew (zsR M1 4 48 0 (24, 48)) 25 48 = M2
  have hn2 : znx M2 = 369 := by rw [← hM2]; exact congrArg (· + 1) hn1
  clear hn1
  refine (B20_17 d 48 48 25 48 M2).trans ?_
  have hz : znx (zsR M2 4 48 1 (25, 48)) = 369 := hn2
  rw [hz]
  clear hz
  show zgo true d 20 25 [zr 4 48] [zr 26 48, zr 4 48] (znew (zsR M2 4 48 1 (25, 48)) 26 48) = _
  generalize hM3 : znew (zsR M2 4 48 1 (25, 48)) 26 48 = M3
  have hn3 : znx M3 = 370 := by rw [← hM3]; exact congrArg (· + 1) hn2
  clear hn2
  refine (B20_25 d 48 48 26 48 M3).trans ?_
  show zgo true d 20 28 [zr 4 48] [] (zsR M3 4 48 2 (26, 48)) = _
  generalize hM4 : zsR M3 4 48 2 (26, 48) = M4
  have hn4 : znx M4 = 370 := by rw [← hM4]; exact hn3
  clear hn3
  refine (B20_28 d 48 M4).trans ?_
  have hz : znx M4 = 370 := hn4
  rw [hz]
  clear hz
  show zgo true d 20 33 [zr 4 48] [zr 27 48, zr 4 48] (znew M4 27 48) = _
  generalize hM5 : znew M4 27 48 = M5
  have hn5 : znx M5 = 371 := by rw [← hM5]; exact congrArg (· + 1) hn4
  clear hn4
  refine (B20_33 d 48 48 27 48 M5).trans ?_
  have hz : znx (zsR M5 4 48 3 (27, 48)) = 371 := hn5
  rw [hz]
  clear hz
  show zgo true d 20 41 [zr 4 48] [zr 28 48, zr 4 48] (znew (zsR M5 4 48 3 (27, 48)) 28 48) = _
  generalize hM6 : znew (zsR M5 4 48 3 (27, 48)) 28 48 = M6
  have hn6 : znx M6 = 372 := by rw [← hM6]; exact congrArg (· + 1) hn5
  clear hn5
  refine (B20_41 d 48 48 28 48 M6).trans ?_
  generalize hM7 : zsR M6 4 48 4 (28, 48) = M7
  have hn7 : znx M7 = 372 := by rw [← hM7]; exact hn6
  clear hn6
  subst hM7 hM6 hM5 hM4 hM3 hM2 hM1
  rfl
def N129_187 (M : zM) : zM := zdo D20_48 (N129_186 M)
set_option maxRecDepth 100000 in
theorem T129_197 (d : Nat) (M : zM) (hn : znx M = 1) : zgo true (d + 3) 129 180 [zr 12 0, zi 48] [zr 4 48, zi 48, zr 51 0] (N129_186 M) = zgo true (d + 3) 129 184 [zr 12 0, zi 48] [zr 4 48, zi 48, zr 51 0] (N129_187 M) := by
  have hX : znx (N129_186 M) = 367 := H129_186 M hn
  have hf0 : zgR (N129_186 M) 12 0 4 = (50, 0) := G129_186_0 M
  have hf1 : zgR (N129_186 M) 12 0 5 = (51, 0) := G129_186_1 M
  have hf2 : zgR (N129_186 M) 12 0 7 = (53, 0) := G129_186_2 M
  generalize hN : N129_186 M = X at hX hf0 hf1 hf2 ⊢
  refine (B129_180 (d + 2) 48 48 48 X).trans ?_
  show Option.bind (zgo true (d + 2) 20 0 [zr 4 48] [] (X)) _ = _
  refine zbind_of (C20_48 (d + 2) _ hX) ?_
  show zgo true (d + 3) 129 184 [zr 12 0, zi 48] [zr 4 48, zi 48, zr 51 0] (zdo D20_48 (X)) = _
  subst hN
  rfl
theorem H129_187 (M : zM) (hn : znx M = 1) : znx (N129_187 M) = 372 := by
  show znx (zdo D20_48 (N129_186 M)) = _
  rw [zdo_nx, H129_186 M hn]
  rfl
set_option maxRecDepth 100000 in
theorem G129_187_0 (M : zM) : zgR (N129_187 M) 12 0 4 = (50, 0) := by
  show zgR (zdo D20_48 (N129_186 M)) 12 0 4 = _
  rw [zdo_R _ _ (by decide), G129_186_0 M]
set_option maxRecDepth 100000 in
theorem G129_187_1 (M : zM) : zgR (N129_187 M) 12 0 5 = (51, 0) := by
  show zgR (zdo D20_48 (N129_186 M)) 12 0 5 = _
  rw [zdo_R _ _ (by decide), G129_186_1 M]
set_option maxRecDepth 100000 in
theorem G129_187_2 (M : zM) : zgR (N129_187 M) 12 0 7 = (53, 0) := by
  show zgR (zdo D20_48 (N129_186 M)) 12 0 7 = _
  rw [zdo_R _ _ (by decide), G129_186_2 M]
def N129_188 (M : zM) : zM := zdo [(1, 51, 0, 48, (4, 48), 0)] (N129_187 M)
set_option maxRecDepth 100000 in
theorem T129_198 (d : Nat) (M : zM) (hn : znx M = 1) : zgo true (d + 3) 129 184 [zr 12 0, zi 48] [zr 4 48, zi 48, zr 51 0] (N129_187 M) = zgo true (d + 3) 129 163 [zr 12 0, zi 49] [] (N129_188 M) := by
  have hX : znx (N129_187 M) = 372 := H129_187 M hn
  have hf0 : zgR (N129_187 M) 12 0 4 = (50, 0) := G129_187_0 M
  have hf1 : zgR (N129_187 M) 12 0 5 = (51, 0) := G129_187_1 M
  have hf2 : zgR (N129_187 M) 12 0 7 = (53, 0) := G129_187_2 M
  generalize hN : N129_187 M = X at hX hf0 hf1 hf2 ⊢
  refine (B129_184 (d + 3) 48 48 48 X).trans ?_
  show zgo true (d + 3) 129 163 [zr 12 0, zi 49] [] (zsR X 51 0 ((48 : Int32).toNatClampNeg) (4, 48)) = _
  rw [show zsR X 51 0 ((48 : Int32).toNatClampNeg) (4, 48) = zdo [(1, 51, 0, 48, (4, 48), 0)] X from rfl]
  subst hN
  rfl
theorem H129_188 (M : zM) (hn : znx M = 1) : znx (N129_188 M) = 372 := by
  show znx (zdo [(1, 51, 0, 48, (4, 48), 0)] (N129_187 M)) = _
  rw [zdo_nx, H129_187 M hn]
  rfl
set_option maxRecDepth 100000 in
theorem G129_188_0 (M : zM) : zgR (N129_188 M) 12 0 4 = (50, 0) := by
  show zgR (zdo [(1, 51, 0, 48, (4, 48), 0)] (N129_187 M)) 12 0 4 = _
  rw [zdo_R _ _ (by decide), G129_187_0 M]
set_option maxRecDepth 100000 in
theorem G129_188_1 (M : zM) : zgR (N129_188 M) 12 0 5 = (51, 0) := by
  show zgR (zdo [(1, 51, 0, 48, (4, 48), 0)] (N129_187 M)) 12 0 5 = _
  rw [zdo_R _ _ (by decide), G129_187_1 M]
set_option maxRecDepth 100000 in
theorem G129_188_2 (M : zM) : zgR (N129_188 M) 12 0 7 = (53, 0) := by
  show zgR (zdo [(1, 51, 0, 48, (4, 48), 0)] (N129_187 M)) 12 0 7 = _
  rw [zdo_R _ _ (by decide), G129_187_2 M]
def N129_189 (M : zM) : zM := zdo [(0, 4, 49, 0, (0, 0), 0)] (N129_188 M)
set_option maxRecDepth 100000 in
theorem T129_199 (d : Nat) (M : zM) (hn : znx M = 1) : zgo true (d + 3) 129 163 [zr 12 0, zi 49] [] (N129_188 M) = zgo true (d + 3) 129 180 [zr 12 0, zi 49] [zr 4 49, zi 49, zr 51 0] (N129_189 M) := by
  have hX : znx (N129_188 M) = 372 := H129_188 M hn
  have hf0 : zgR (N129_188 M) 12 0 4 = (50, 0) := G129_188_0 M
  have hf1 : zgR (N129_188 M) 12 0 5 = (51, 0) := G129_188_1 M
  have hf2 : zgR (N129_188 M) 12 0 7 = (53, 0) := G129_188_2 M
  generalize hN : N129_188 M = X at hX hf0 hf1 hf2 ⊢
  refine (B129_163 (d + 3) 49 X).trans ?_
  rw [show zgR (X) 12 0 5 = (51, 0) from hf1]
  have hz : znx X = 372 := hX
  rw [hz]
  clear hz
  show zgo true (d + 3) 129 180 [zr 12 0, zi 49] [zr 4 49, zi 49, zr 51 0] (znew X 4 49) = _
  rw [show znew X 4 49 = zdo [(0, 4, 49, 0, (0, 0), 0)] X from rfl]
  subst hN
  rfl
theorem H129_189 (M : zM) (hn : znx M = 1) : znx (N129_189 M) = 373 := by
  show znx (zdo [(0, 4, 49, 0, (0, 0), 0)] (N129_188 M)) = _
  rw [zdo_nx, H129_188 M hn]
  rfl
set_option maxRecDepth 100000 in
theorem G129_189_0 (M : zM) : zgR (N129_189 M) 12 0 4 = (50, 0) := by
  show zgR (zdo [(0, 4, 49, 0, (0, 0), 0)] (N129_188 M)) 12 0 4 = _
  rw [zdo_R _ _ (by decide), G129_188_0 M]
set_option maxRecDepth 100000 in
theorem G129_189_1 (M : zM) : zgR (N129_189 M) 12 0 5 = (51, 0) := by
  show zgR (zdo [(0, 4, 49, 0, (0, 0), 0)] (N129_188 M)) 12 0 5 = _
  rw [zdo_R _ _ (by decide), G129_188_1 M]
set_option maxRecDepth 100000 in
theorem G129_189_2 (M : zM) : zgR (N129_189 M) 12 0 7 = (53, 0) := by
  show zgR (zdo [(0, 4, 49, 0, (0, 0), 0)] (N129_188 M)) 12 0 7 = _
  rw [zdo_R _ _ (by decide), G129_188_2 M]
def D20_49 : List zOp := [(0, 24, 49, 0, (0, 0), 0), (1, 4, 49, 0, (24, 49), 0), (0, 25, 49, 0, (0, 0), 0), (1, 4, 49, 1, (25, 49), 0), (0, 26, 49, 0, (0, 0), 0), (1, 4, 49, 2, (26, 49), 0), (0, 27, 49, 0, (0, 0), 0), (1, 4, 49, 3, (27, 49), 0), (0, 28, 49, 0, (0, 0), 0), (1, 4, 49, 4, (28, 49), 0)]
set_option maxRecDepth 100000 in
set_option maxHeartbeats 4000000 in
theorem C20_49 (d : Nat) (M : zM) (hn : znx M = 373) : zgo true d 20 0 [zr 4 49] [] M = some (none, zdo D20_49 M) := by
  refine (B20_0 d 49 M).trans ?_
  have hz : znx M = 373 := hn
  rw [hz]
  clear hz
  show zgo true d 20 9 [zr 4 49] [zr 24 49, zr 4 49] (znew M 24 49) = _
  generalize hM1 : znew M 24 49 = M1
  have hn1 : znx M1 = 374 := by rw [← hM1]; exact congrArg (· + 1) hn
  refine (B20_9 d 49 49 24 49 M1).trans ?_
  have hz : znx (zsR M1 4 49 0 (24, 49)) = 374 := hn1
  rw [hz]
  clear hz
  show zgo true d 20 17 [zr 4 49] [zr 25 49, zr 4 49] (znew (zsR M1 4 49 0 (24, 49)) 25 49) = _
  generalize hM2 : znew (zsR M1 4 49 0 (24, 49)) 25 49 = M2
  have hn2 : znx M2 = 375 := by rw [← hM2]; exact congrArg (· + 1) hn1
  clear hn1
  refine (B20_17 d 49 49 25 49 M2).trans ?_
  have hz : znx (zsR M2 4 49 1 (25, 49)) = 375 := hn2
  rw [hz]
  clear hz
  show zgo true d 20 25 [zr 4 49] [zr 26 49, zr 4 49] (znew (zsR M2 4 49 1 (25, 49)) 26 49) = _
  generalize hM3 : znew (zsR M2 4 49 1 (25, 49)) 26 49 = M3
  have hn3 : znx M3 = 376 := by rw [← hM3]; exact congrArg (· + 1) hn2
  clear hn2
  refine (B20_25 d 49 49 26 49 M3).trans ?_
  show zgo true d 20 28 [zr 4 49] [] (zsR M3 4 49 2 (26, 49)) = _
  generalize hM4 : zsR M3 4 49 2 (26, 49) = M4
  have hn4 : znx M4 = 376 := by rw [← hM4]; exact hn3
  clear hn3
  refine (B20_28 d 49 M4).trans ?_
  have hz : znx M4 = 376 := hn4
  rw [hz]
  clear hz
  show zgo true d 20 33 [zr 4 49] [zr 27 49, zr 4 49] (znew M4 27 49) = _
  generalize hM5 : znew M4 27 49 = M5
  have hn5 : znx M5 = 377 := by rw [← hM5]; exact congrArg (· + 1) hn4
  clear hn4
  refine (B20_33 d 49 49 27 49 M5).trans ?_
  have hz : znx (zsR M5 4 49 3 (27, 49)) = 377 := hn5
  rw [hz]
  clear hz
  show zgo true d 20 41 [zr 4 49] [zr 28 49, zr 4 49] (znew (zsR M5 4 49 3 (27, 49)) 28 49) = _
  generalize hM6 : znew (zsR M5 4 49 3 (27, 49)) 28 49 = M6
  have hn6 : znx M6 = 378 := by rw [← hM6]; exact congrArg (· + 1) hn5
  clear hn5
  refine (B20_41 d 49 49 28 49 M6).trans ?_
  generalize hM7 : zsR M6 4 49 4 (28, 49) = M7
  have hn7 : znx M7 = 378 := by rw [← hM7]; exact hn6
  clear hn6
  subst hM7 hM6 hM5 hM4 hM3 hM2 hM1
  rfl
def N129_190 (M : zM) : zM := zdo D20_49 (N129_189 M)
set_option maxRecDepth 100000 in
theorem T129_200 (d : Nat) (M : zM) (hn : znx M = 1) : zgo true (d + 3) 129 180 [zr 12 0, zi 49] [zr 4 49, zi 49, zr 51 0] (N129_189 M) = zgo true (d + 3) 129 184 [zr 12 0, zi 49] [zr 4 49, zi 49, zr 51 0] (N129_190 M) := by
  have hX : znx (N129_189 M) = 373 := H129_189 M hn
  have hf0 : zgR (N129_189 M) 12 0 4 = (50, 0) := G129_189_0 M
  have hf1 : zgR (N129_189 M) 12 0 5 = (51, 0) := G129_189_1 M
  have hf2 : zgR (N129_189 M) 12 0 7 = (53, 0) := G129_189_2 M
  generalize hN : N129_189 M = X at hX hf0 hf1 hf2 ⊢
  refine (B129_180 (d + 2) 49 49 49 X).trans ?_
  show Option.bind (zgo true (d + 2) 20 0 [zr 4 49] [] (X)) _ = _
  refine zbind_of (C20_49 (d + 2) _ hX) ?_
  show zgo true (d + 3) 129 184 [zr 12 0, zi 49] [zr 4 49, zi 49, zr 51 0] (zdo D20_49 (X)) = _
  subst hN
  rfl
theorem H129_190 (M : zM) (hn : znx M = 1) : znx (N129_190 M) = 378 := by
  show znx (zdo D20_49 (N129_189 M)) = _
  rw [zdo_nx, H129_189 M hn]
  rfl
set_option maxRecDepth 100000 in
theorem G129_190_0 (M : zM) : zgR (N129_190 M) 12 0 4 = (50, 0) := by
  show zgR (zdo D20_49 (N129_189 M)) 12 0 4 = _
  rw [zdo_R _ _ (by decide), G129_189_0 M]
set_option maxRecDepth 100000 in
theorem G129_190_1 (M : zM) : zgR (N129_190 M) 12 0 5 = (51, 0) := by
  show zgR (zdo D20_49 (N129_189 M)) 12 0 5 = _
  rw [zdo_R _ _ (by decide), G129_189_1 M]
set_option maxRecDepth 100000 in
theorem G129_190_2 (M : zM) : zgR (N129_190 M) 12 0 7 = (53, 0) := by
  show zgR (zdo D20_49 (N129_189 M)) 12 0 7 = _
  rw [zdo_R _ _ (by decide), G129_189_2 M]
def N129_191 (M : zM) : zM := zdo [(1, 51, 0, 49, (4, 49), 0)] (N129_190 M)
set_option maxRecDepth 100000 in
theorem T129_201 (d : Nat) (M : zM) (hn : znx M = 1) : zgo true (d + 3) 129 184 [zr 12 0, zi 49] [zr 4 49, zi 49, zr 51 0] (N129_190 M) = zgo true (d + 3) 129 163 [zr 12 0, zi 50] [] (N129_191 M) := by
  have hX : znx (N129_190 M) = 378 := H129_190 M hn
  have hf0 : zgR (N129_190 M) 12 0 4 = (50, 0) := G129_190_0 M
  have hf1 : zgR (N129_190 M) 12 0 5 = (51, 0) := G129_190_1 M
  have hf2 : zgR (N129_190 M) 12 0 7 = (53, 0) := G129_190_2 M
  generalize hN : N129_190 M = X at hX hf0 hf1 hf2 ⊢
  refine (B129_184 (d + 3) 49 49 49 X).trans ?_
  show zgo true (d + 3) 129 163 [zr 12 0, zi 50] [] (zsR X 51 0 ((49 : Int32).toNatClampNeg) (4, 49)) = _
  rw [show zsR X 51 0 ((49 : Int32).toNatClampNeg) (4, 49) = zdo [(1, 51, 0, 49, (4, 49), 0)] X from rfl]
  subst hN
  rfl
theorem H129_191 (M : zM) (hn : znx M = 1) : znx (N129_191 M) = 378 := by
  show znx (zdo [(1, 51, 0, 49, (4, 49), 0)] (N129_190 M)) = _
  rw [zdo_nx, H129_190 M hn]
  rfl
set_option maxRecDepth 100000 in
theorem G129_191_0 (M : zM) : zgR (N129_191 M) 12 0 4 = (50, 0) := by
  show zgR (zdo [(1, 51, 0, 49, (4, 49), 0)] (N129_190 M)) 12 0 4 = _
  rw [zdo_R _ _ (by decide), G129_190_0 M]
set_option maxRecDepth 100000 in
theorem G129_191_1 (M : zM) : zgR (N129_191 M) 12 0 5 = (51, 0) := by
  show zgR (zdo [(1, 51, 0, 49, (4, 49), 0)] (N129_190 M)) 12 0 5 = _
  rw [zdo_R _ _ (by decide), G129_190_1 M]
set_option maxRecDepth 100000 in
theorem G129_191_2 (M : zM) : zgR (N129_191 M) 12 0 7 = (53, 0) := by
  show zgR (zdo [(1, 51, 0, 49, (4, 49), 0)] (N129_190 M)) 12 0 7 = _
  rw [zdo_R _ _ (by decide), G129_190_2 M]
def N129_192 (M : zM) : zM := zdo [(0, 4, 50, 0, (0, 0), 0)] (N129_191 M)
set_option maxRecDepth 100000 in
theorem T129_202 (d : Nat) (M : zM) (hn : znx M = 1) : zgo true (d + 3) 129 163 [zr 12 0, zi 50] [] (N129_191 M) = zgo true (d + 3) 129 180 [zr 12 0, zi 50] [zr 4 50, zi 50, zr 51 0] (N129_192 M) := by
  have hX : znx (N129_191 M) = 378 := H129_191 M hn
  have hf0 : zgR (N129_191 M) 12 0 4 = (50, 0) := G129_191_0 M
  have hf1 : zgR (N129_191 M) 12 0 5 = (51, 0) := G129_191_1 M
  have hf2 : zgR (N129_191 M) 12 0 7 = (53, 0) := G129_191_2 M
  generalize hN : N129_191 M = X at hX hf0 hf1 hf2 ⊢
  refine (B129_163 (d + 3) 50 X).trans ?_
  rw [show zgR (X) 12 0 5 = (51, 0) from hf1]
  have hz : znx X = 378 := hX
  rw [hz]
  clear hz
  show zgo true (d + 3) 129 180 [zr 12 0, zi 50] [zr 4 50, zi 50, zr 51 0] (znew X 4 50) = _
  rw [show znew X 4 50 = zdo [(0, 4, 50, 0, (0, 0), 0)] X from rfl]
  subst hN
  rfl
theorem H129_192 (M : zM) (hn : znx M = 1) : znx (N129_192 M) = 379 := by
  show znx (zdo [(0, 4, 50, 0, (0, 0), 0)] (N129_191 M)) = _
  rw [zdo_nx, H129_191 M hn]
  rfl
set_option maxRecDepth 100000 in
theorem G129_192_0 (M : zM) : zgR (N129_192 M) 12 0 4 = (50, 0) := by
  show zgR (zdo [(0, 4, 50, 0, (0, 0), 0)] (N129_191 M)) 12 0 4 = _
  rw [zdo_R _ _ (by decide), G129_191_0 M]
set_option maxRecDepth 100000 in
theorem G129_192_1 (M : zM) : zgR (N129_192 M) 12 0 5 = (51, 0) := by
  show zgR (zdo [(0, 4, 50, 0, (0, 0), 0)] (N129_191 M)) 12 0 5 = _
  rw [zdo_R _ _ (by decide), G129_191_1 M]
set_option maxRecDepth 100000 in
theorem G129_192_2 (M : zM) : zgR (N129_192 M) 12 0 7 = (53, 0) := by
  show zgR (zdo [(0, 4, 50, 0, (0, 0), 0)] (N129_191 M)) 12 0 7 = _
  rw [zdo_R _ _ (by decide), G129_191_2 M]
def D20_50 : List zOp := [(0, 24, 50, 0, (0, 0), 0), (1, 4, 50, 0, (24, 50), 0), (0, 25, 50, 0, (0, 0), 0), (1, 4, 50, 1, (25, 50), 0), (0, 26, 50, 0, (0, 0), 0), (1, 4, 50, 2, (26, 50), 0), (0, 27, 50, 0, (0, 0), 0), (1, 4, 50, 3, (27, 50), 0), (0, 28, 50, 0, (0, 0), 0), (1, 4, 50, 4, (28, 50), 0)]
set_option maxRecDepth 100000 in
set_option maxHeartbeats 4000000 in
theorem C20_50 (d : Nat) (M : zM) (hn : znx M = 379) : zgo true d 20 0 [zr 4 50] [] M = some (none, zdo D20_50 M) := by
  refine (B20_0 d 50 M).trans ?_
  have hz : znx M = 379 := hn
  rw [hz]
  clear hz
  show zgo true d 20 9 [zr 4 50] [zr 24 50, zr 4 50] (znew M 24 50) = _
  generalize hM1 : znew M 24 50 = M1
  have hn1 : znx M1 = 380 := by rw [← hM1]; exact congrArg (· + 1) hn
  refine (B20_9 d 50 50 24 50 M1).trans ?_
  have hz : znx (zsR M1 4 50 0 (24, 50)) = 380 := hn1
  rw [hz]
  clear hz
  show zgo true d 20 17 [zr 4 50] [zr 25 50, zr 4 50] (znew (zsR M1 4 50 0 (24, 50)) 25 50) = _
  generalize hM2 : znew (zsR M1 4 50 0 (24, 50)) 25 50 = M2
  have hn2 : znx M2 = 381 := by rw [← hM2]; exact congrArg (· + 1) hn1
  clear hn1
  refine (B20_17 d 50 50 25 50 M2).trans ?_
  have hz : znx (zsR M2 4 50 1 (25, 50)) = 381 := hn2
  rw [hz]
  clear hz
  show zgo true d 20 25 [zr 4 50] [zr 26 50, zr 4 50] (znew (zsR M2 4 50 1 (25, 50)) 26 50) = _
  generalize hM3 : znew (zsR M2 4 50 1 (25, 50)) 26 50 = M3
  have hn3 : znx M3 = 382 := by rw [← hM3]; exact congrArg (· + 1) hn2
  clear hn2
  refine (B20_25 d 50 50 26 50 M3).trans ?_
  show zgo true d 20 28 [zr 4 50] [] (zsR M3 4 50 2 (26, 50)) = _
  generalize hM4 : zsR M3 4 50 2 (26, 50) = M4
  have hn4 : znx M4 = 382 := by rw [← hM4]; exact hn3
  clear hn3
  refine (B20_28 d 50 M4).trans ?_
  have hz : znx M4 = 382 := hn4
  rw [hz]
  clear hz
  show zgo true d 20 33 [zr 4 50] [zr 27 50, zr 4 50] (znew M4 27 50) = _
  generalize hM5 : znew M4 27 50 = M5
  have hn5 : znx M5 = 383 := by rw [← hM5]; exact congrArg (· + 1) hn4
  clear hn4
  refine (B20_33 d 50 50 27 50 M5).trans ?_
  have hz : znx (zsR M5 4 50 3 (27, 50)) = 383 := hn5
  rw [hz]
  clear hz
  show zgo true d 20 41 [zr 4 50] [zr 28 50, zr 4 50] (znew (zsR M5 4 50 3 (27, 50)) 28 50) = _
  generalize hM6 : znew (zsR M5 4 50 3 (27, 50)) 28 50 = M6
  have hn6 : znx M6 = 384 := by rw [← hM6]; exact congrArg (· + 1) hn5
  clear hn5
  refine (B20_41 d 50 50 28 50 M6).trans ?_
  generalize hM7 : zsR M6 4 50 4 (28, 50) = M7
  have hn7 : znx M7 = 384 := by rw [← hM7]; exact hn6
  clear hn6
  subst hM7 hM6 hM5 hM4 hM3 hM2 hM1
  rfl
def N129_193 (M : zM) : zM := zdo D20_50 (N129_192 M)
set_option maxRecDepth 100000 in
theorem T129_203 (d : Nat) (M : zM) (hn : znx M = 1) : zgo true (d + 3) 129 180 [zr 12 0, zi 50] [zr 4 50, zi 50, zr 51 0] (N129_192 M) = zgo true (d + 3) 129 184 [zr 12 0, zi 50] [zr 4 50, zi 50, zr 51 0] (N129_193 M) := by
  have hX : znx (N129_192 M) = 379 := H129_192 M hn
  have hf0 : zgR (N129_192 M) 12 0 4 = (50, 0) := G129_192_0 M
  have hf1 : zgR (N129_192 M) 12 0 5 = (51, 0) := G129_192_1 M
  have hf2 : zgR (N129_192 M) 12 0 7 = (53, 0) := G129_192_2 M
  generalize hN : N129_192 M = X at hX hf0 hf1 hf2 ⊢
  refine (B129_180 (d + 2) 50 50 50 X).trans ?_
  show Option.bind (zgo true (d + 2) 20 0 [zr 4 50] [] (X)) _ = _
  refine zbind_of (C20_50 (d + 2) _ hX) ?_
  show zgo true (d + 3) 129 184 [zr 12 0, zi 50] [zr 4 50, zi 50, zr 51 0] (zdo D20_50 (X)) = _
  subst hN
  rfl
theorem H129_193 (M : zM) (hn : znx M = 1) : znx (N129_193 M) = 384 := by
  show znx (zdo D20_50 (N129_192 M)) = _
  rw [zdo_nx, H129_192 M hn]
  rfl
set_option maxRecDepth 100000 in
theorem G129_193_0 (M : zM) : zgR (N129_193 M) 12 0 4 = (50, 0) := by
  show zgR (zdo D20_50 (N129_192 M)) 12 0 4 = _
  rw [zdo_R _ _ (by decide), G129_192_0 M]
set_option maxRecDepth 100000 in
theorem G129_193_1 (M : zM) : zgR (N129_193 M) 12 0 5 = (51, 0) := by
  show zgR (zdo D20_50 (N129_192 M)) 12 0 5 = _
  rw [zdo_R _ _ (by decide), G129_192_1 M]
set_option maxRecDepth 100000 in
theorem G129_193_2 (M : zM) : zgR (N129_193 M) 12 0 7 = (53, 0) := by
  show zgR (zdo D20_50 (N129_192 M)) 12 0 7 = _
  rw [zdo_R _ _ (by decide), G129_192_2 M]
def N129_194 (M : zM) : zM := zdo [(1, 51, 0, 50, (4, 50), 0)] (N129_193 M)
set_option maxRecDepth 100000 in
theorem T129_204 (d : Nat) (M : zM) (hn : znx M = 1) : zgo true (d + 3) 129 184 [zr 12 0, zi 50] [zr 4 50, zi 50, zr 51 0] (N129_193 M) = zgo true (d + 3) 129 163 [zr 12 0, zi 51] [] (N129_194 M) := by
  have hX : znx (N129_193 M) = 384 := H129_193 M hn
  have hf0 : zgR (N129_193 M) 12 0 4 = (50, 0) := G129_193_0 M
  have hf1 : zgR (N129_193 M) 12 0 5 = (51, 0) := G129_193_1 M
  have hf2 : zgR (N129_193 M) 12 0 7 = (53, 0) := G129_193_2 M
  generalize hN : N129_193 M = X at hX hf0 hf1 hf2 ⊢
  refine (B129_184 (d + 3) 50 50 50 X).trans ?_
  show zgo true (d + 3) 129 163 [zr 12 0, zi 51] [] (zsR X 51 0 ((50 : Int32).toNatClampNeg) (4, 50)) = _
  rw [show zsR X 51 0 ((50 : Int32).toNatClampNeg) (4, 50) = zdo [(1, 51, 0, 50, (4, 50), 0)] X from rfl]
  subst hN
  rfl
theorem H129_194 (M : zM) (hn : znx M = 1) : znx (N129_194 M) = 384 := by
  show znx (zdo [(1, 51, 0, 50, (4, 50), 0)] (N129_193 M)) = _
  rw [zdo_nx, H129_193 M hn]
  rfl
set_option maxRecDepth 100000 in
theorem G129_194_0 (M : zM) : zgR (N129_194 M) 12 0 4 = (50, 0) := by
  show zgR (zdo [(1, 51, 0, 50, (4, 50), 0)] (N129_193 M)) 12 0 4 = _
  rw [zdo_R _ _ (by decide), G129_193_0 M]
set_option maxRecDepth 100000 in
theorem G129_194_1 (M : zM) : zgR (N129_194 M) 12 0 5 = (51, 0) := by
  show zgR (zdo [(1, 51, 0, 50, (4, 50), 0)] (N129_193 M)) 12 0 5 = _
  rw [zdo_R _ _ (by decide), G129_193_1 M]
set_option maxRecDepth 100000 in
theorem G129_194_2 (M : zM) : zgR (N129_194 M) 12 0 7 = (53, 0) := by
  show zgR (zdo [(1, 51, 0, 50, (4, 50), 0)] (N129_193 M)) 12 0 7 = _
  rw [zdo_R _ _ (by decide), G129_193_2 M]
def N129_195 (M : zM) : zM := zdo [(0, 4, 51, 0, (0, 0), 0)] (N129_194 M)
set_option maxRecDepth 100000 in
theorem T129_205 (d : Nat) (M : zM) (hn : znx M = 1) : zgo true (d + 3) 129 163 [zr 12 0, zi 51] [] (N129_194 M) = zgo true (d + 3) 129 180 [zr 12 0, zi 51] [zr 4 51, zi 51, zr 51 0] (N129_195 M) := by
  have hX : znx (N129_194 M) = 384 := H129_194 M hn
  have hf0 : zgR (N129_194 M) 12 0 4 = (50, 0) := G129_194_0 M
  have hf1 : zgR (N129_194 M) 12 0 5 = (51, 0) := G129_194_1 M
  have hf2 : zgR (N129_194 M) 12 0 7 = (53, 0) := G129_194_2 M
  generalize hN : N129_194 M = X at hX hf0 hf1 hf2 ⊢
  refine (B129_163 (d + 3) 51 X).trans ?_
  rw [show zgR (X) 12 0 5 = (51, 0) from hf1]
  have hz : znx X = 384 := hX
  rw [hz]
  clear hz
  show zgo true (d + 3) 129 180 [zr 12 0, zi 51] [zr 4 51, zi 51, zr 51 0] (znew X 4 51) = _
  rw [show znew X 4 51 = zdo [(0, 4, 51, 0, (0, 0), 0)] X from rfl]
  subst hN
  rfl
theorem H129_195 (M : zM) (hn : znx M = 1) : znx (N129_195 M) = 385 := by
  show znx (zdo [(0, 4, 51, 0, (0, 0), 0)] (N129_194 M)) = _
  rw [zdo_nx, H129_194 M hn]
  rfl
set_option maxRecDepth 100000 in
theorem G129_195_0 (M : zM) : zgR (N129_195 M) 12 0 4 = (50, 0) := by
  show zgR (zdo [(0, 4, 51, 0, (0, 0), 0)] (N129_194 M)) 12 0 4 = _
  rw [zdo_R _ _ (by decide), G129_194_0 M]
set_option maxRecDepth 100000 in
theorem G129_195_1 (M : zM) : zgR (N129_195 M) 12 0 5 = (51, 0) := by
  show zgR (zdo [(0, 4, 51, 0, (0, 0), 0)] (N129_194 M)) 12 0 5 = _
  rw [zdo_R _ _ (by decide), G129_194_1 M]
set_option maxRecDepth 100000 in
theorem G129_195_2 (M : zM) : zgR (N129_195 M) 12 0 7 = (53, 0) := by
  show zgR (zdo [(0, 4, 51, 0, (0, 0), 0)] (N129_194 M)) 12 0 7 = _
  rw [zdo_R _ _ (by decide), G129_194_2 M]
def D20_51 : List zOp := [(0, 24, 51, 0, (0, 0), 0), (1, 4, 51, 0, (24, 51), 0), (0, 25, 51, 0, (0, 0), 0), (1, 4, 51, 1, (25, 51), 0), (0, 26, 51, 0, (0, 0), 0), (1, 4, 51, 2, (26, 51), 0), (0, 27, 51, 0, (0, 0), 0), (1, 4, 51, 3, (27, 51), 0), (0, 28, 51, 0, (0, 0), 0), (1, 4, 51, 4, (28, 51), 0)]
set_option maxRecDepth 100000 in
set_option maxHeartbeats 4000000 in
theorem C20_51 (d : Nat) (M : zM) (hn : znx M = 385) : zgo true d 20 0 [zr 4 51] [] M = some (none, zdo D20_51 M) := by
  refine (B20_0 d 51 M).trans ?_
  have hz : znx M = 385 := hn
  rw [hz]
  clear hz
  show zgo true d 20 9 [zr 4 51] [zr 24 51, zr 4 51] (znew M 24 51) = _
  generalize hM1 : znew M 24 51 = M1
  have hn1 : znx M1 = 386 := by rw [← hM1]; exact congrArg (· + 1) hn
  refine (B20_9 d 51 51 24 51 M1).trans ?_
  have hz : znx (zsR M1 4 51 0 (24, 51)) = 386 := hn1
  rw [hz]
  clear hz
  show zgo true d 20 17 [zr 4 51] [zr 25 51, zr 4 51] (znew (zsR M1 4 51 0 (24, 51)) 25 51) = _
  generalize hM2 : znew (zsR M1 4 51 0 (24, 51)) 25 51 = M2
  have hn2 : znx M2 = 387 := by rw [← hM2]; exact congrArg (· + 1) hn1
  clear hn1
  refine (B20_17 d 51 51 25 51 M2).trans ?_
  have hz : znx (zsR M2 4 51 1 (25, 51)) = 387 := hn2
  rw [hz]
  clear hz
  show zgo true d 20 25 [zr 4 51] [zr 26 51, zr 4 51] (znew (zsR M2 4 51 1 (25, 51)) 26 51) = _
  generalize hM3 : znew (zsR M2 4 51 1 (25, 51)) 26 51 = M3
  have hn3 : znx M3 = 388 := by rw [← hM3]; exact congrArg (· + 1) hn2
  clear hn2
  refine (B20_25 d 51 51 26 51 M3).trans ?_
  show zgo true d 20 28 [zr 4 51] [] (zsR M3 4 51 2 (26, 51)) = _
  generalize hM4 : zsR M3 4 51 2 (26, 51) = M4
  have hn4 : znx M4 = 388 := by rw [← hM4]; exact hn3
  clear hn3
  refine (B20_28 d 51 M4).trans ?_
  have hz : znx M4 = 388 := hn4
  rw [hz]
  clear hz
  show zgo true d 20 33 [zr 4 51] [zr 27 51, zr 4 51] (znew M4 27 51) = _
  generalize hM5 : znew M4 27 51 = M5
  have hn5 : znx M5 = 389 := by rw [← hM5]; exact congrArg (· + 1) hn4
  clear hn4
  refine (B20_33 d 51 51 27 51 M5).trans ?_
  have hz : znx (zsR M5 4 51 3 (27, 51)) = 389 := hn5
  rw [hz]
  clear hz
  show zgo true d 20 41 [zr 4 51] [zr 28 51, zr 4 51] (znew (zsR M5 4 51 3 (27, 51)) 28 51) = _
  generalize hM6 : znew (zsR M5 4 51 3 (27, 51)) 28 51 = M6
  have hn6 : znx M6 = 390 := by rw [← hM6]; exact congrArg (· + 1) hn5
  clear hn5
  refine (B20_41 d 51 51 28 51 M6).trans ?_
  generalize hM7 : zsR M6 4 51 4 (28, 51) = M7
  have hn7 : znx M7 = 390 := by rw [← hM7]; exact hn6
  clear hn6
  subst hM7 hM6 hM5 hM4 hM3 hM2 hM1
  rfl
def N129_196 (M : zM) : zM := zdo D20_51 (N129_195 M)
set_option maxRecDepth 100000 in
theorem T129_206 (d : Nat) (M : zM) (hn : znx M = 1) : zgo true (d + 3) 129 180 [zr 12 0, zi 51] [zr 4 51, zi 51, zr 51 0] (N129_195 M) = zgo true (d + 3) 129 184 [zr 12 0, zi 51] [zr 4 51, zi 51, zr 51 0] (N129_196 M) := by
  have hX : znx (N129_195 M) = 385 := H129_195 M hn
  have hf0 : zgR (N129_195 M) 12 0 4 = (50, 0) := G129_195_0 M
  have hf1 : zgR (N129_195 M) 12 0 5 = (51, 0) := G129_195_1 M
  have hf2 : zgR (N129_195 M) 12 0 7 = (53, 0) := G129_195_2 M
  generalize hN : N129_195 M = X at hX hf0 hf1 hf2 ⊢
  refine (B129_180 (d + 2) 51 51 51 X).trans ?_
  show Option.bind (zgo true (d + 2) 20 0 [zr 4 51] [] (X)) _ = _
  refine zbind_of (C20_51 (d + 2) _ hX) ?_
  show zgo true (d + 3) 129 184 [zr 12 0, zi 51] [zr 4 51, zi 51, zr 51 0] (zdo D20_51 (X)) = _
  subst hN
  rfl
theorem H129_196 (M : zM) (hn : znx M = 1) : znx (N129_196 M) = 390 := by
  show znx (zdo D20_51 (N129_195 M)) = _
  rw [zdo_nx, H129_195 M hn]
  rfl
set_option maxRecDepth 100000 in
theorem G129_196_0 (M : zM) : zgR (N129_196 M) 12 0 4 = (50, 0) := by
  show zgR (zdo D20_51 (N129_195 M)) 12 0 4 = _
  rw [zdo_R _ _ (by decide), G129_195_0 M]
set_option maxRecDepth 100000 in
theorem G129_196_1 (M : zM) : zgR (N129_196 M) 12 0 5 = (51, 0) := by
  show zgR (zdo D20_51 (N129_195 M)) 12 0 5 = _
  rw [zdo_R _ _ (by decide), G129_195_1 M]
set_option maxRecDepth 100000 in
theorem G129_196_2 (M : zM) : zgR (N129_196 M) 12 0 7 = (53, 0) := by
  show zgR (zdo D20_51 (N129_195 M)) 12 0 7 = _
  rw [zdo_R _ _ (by decide), G129_195_2 M]
def N129_197 (M : zM) : zM := zdo [(1, 51, 0, 51, (4, 51), 0)] (N129_196 M)
set_option maxRecDepth 100000 in
theorem T129_207 (d : Nat) (M : zM) (hn : znx M = 1) : zgo true (d + 3) 129 184 [zr 12 0, zi 51] [zr 4 51, zi 51, zr 51 0] (N129_196 M) = zgo true (d + 3) 129 163 [zr 12 0, zi 52] [] (N129_197 M) := by
  have hX : znx (N129_196 M) = 390 := H129_196 M hn
  have hf0 : zgR (N129_196 M) 12 0 4 = (50, 0) := G129_196_0 M
  have hf1 : zgR (N129_196 M) 12 0 5 = (51, 0) := G129_196_1 M
  have hf2 : zgR (N129_196 M) 12 0 7 = (53, 0) := G129_196_2 M
  generalize hN : N129_196 M = X at hX hf0 hf1 hf2 ⊢
  refine (B129_184 (d + 3) 51 51 51 X).trans ?_
  show zgo true (d + 3) 129 163 [zr 12 0, zi 52] [] (zsR X 51 0 ((51 : Int32).toNatClampNeg) (4, 51)) = _
  rw [show zsR X 51 0 ((51 : Int32).toNatClampNeg) (4, 51) = zdo [(1, 51, 0, 51, (4, 51), 0)] X from rfl]
  subst hN
  rfl
theorem H129_197 (M : zM) (hn : znx M = 1) : znx (N129_197 M) = 390 := by
  show znx (zdo [(1, 51, 0, 51, (4, 51), 0)] (N129_196 M)) = _
  rw [zdo_nx, H129_196 M hn]
  rfl
set_option maxRecDepth 100000 in
theorem G129_197_0 (M : zM) : zgR (N129_197 M) 12 0 4 = (50, 0) := by
  show zgR (zdo [(1, 51, 0, 51, (4, 51), 0)] (N129_196 M)) 12 0 4 = _
  rw [zdo_R _ _ (by decide), G129_196_0 M]
set_option maxRecDepth 100000 in
theorem G129_197_1 (M : zM) : zgR (N129_197 M) 12 0 5 = (51, 0) := by
  show zgR (zdo [(1, 51, 0, 51, (4, 51), 0)] (N129_196 M)) 12 0 5 = _
  rw [zdo_R _ _ (by decide), G129_196_1 M]
set_option maxRecDepth 100000 in
theorem G129_197_2 (M : zM) : zgR (N129_197 M) 12 0 7 = (53, 0) := by
  show zgR (zdo [(1, 51, 0, 51, (4, 51), 0)] (N129_196 M)) 12 0 7 = _
  rw [zdo_R _ _ (by decide), G129_196_2 M]
def N129_198 (M : zM) : zM := zdo [(0, 4, 52, 0, (0, 0), 0)] (N129_197 M)
set_option maxRecDepth 100000 in
theorem T129_208 (d : Nat) (M : zM) (hn : znx M = 1) : zgo true (d + 3) 129 163 [zr 12 0, zi 52] [] (N129_197 M) = zgo true (d + 3) 129 180 [zr 12 0, zi 52] [zr 4 52, zi 52, zr 51 0] (N129_198 M) := by
  have hX : znx (N129_197 M) = 390 := H129_197 M hn
  have hf0 : zgR (N129_197 M) 12 0 4 = (50, 0) := G129_197_0 M
  have hf1 : zgR (N129_197 M) 12 0 5 = (51, 0) := G129_197_1 M
  have hf2 : zgR (N129_197 M) 12 0 7 = (53, 0) := G129_197_2 M
  generalize hN : N129_197 M = X at hX hf0 hf1 hf2 ⊢
  refine (B129_163 (d + 3) 52 X).trans ?_
  rw [show zgR (X) 12 0 5 = (51, 0) from hf1]
  have hz : znx X = 390 := hX
  rw [hz]
  clear hz
  show zgo true (d + 3) 129 180 [zr 12 0, zi 52] [zr 4 52, zi 52, zr 51 0] (znew X 4 52) = _
  rw [show znew X 4 52 = zdo [(0, 4, 52, 0, (0, 0), 0)] X from rfl]
  subst hN
  rfl
theorem H129_198 (M : zM) (hn : znx M = 1) : znx (N129_198 M) = 391 := by
  show znx (zdo [(0, 4, 52, 0, (0, 0), 0)] (N129_197 M)) = _
  rw [zdo_nx, H129_197 M hn]
  rfl
set_option maxRecDepth 100000 in
theorem G129_198_0 (M : zM) : zgR (N129_198 M) 12 0 4 = (50, 0) := by
  show zgR (zdo [(0, 4, 52, 0, (0, 0), 0)] (N129_197 M)) 12 0 4 = _
  rw [zdo_R _ _ (by decide), G129_197_0 M]
set_option maxRecDepth 100000 in
theorem G129_198_1 (M : zM) : zgR (N129_198 M) 12 0 5 = (51, 0) := by
  show zgR (zdo [(0, 4, 52, 0, (0, 0), 0)] (N129_197 M)) 12 0 5 = _
  rw [zdo_R _ _ (by decide), G129_197_1 M]
set_option maxRecDepth 100000 in
theorem G129_198_2 (M : zM) : zgR (N129_198 M) 12 0 7 = (53, 0) := by
  show zgR (zdo [(0, 4, 52, 0, (0, 0), 0)] (N129_197 M)) 12 0 7 = _
  rw [zdo_R _ _ (by decide), G129_197_2 M]
def D20_52 : List zOp := [(0, 24, 52, 0, (0, 0), 0), (1, 4, 52, 0, (24, 52), 0), (0, 25, 52, 0, (0, 0), 0), (1, 4, 52, 1, (25, 52), 0), (0, 26, 52, 0, (0, 0), 0), (1, 4, 52, 2, (26, 52), 0), (0, 27, 52, 0, (0, 0), 0), (1, 4, 52, 3, (27, 52), 0), (0, 28, 52, 0, (0, 0), 0), (1, 4, 52, 4, (28, 52), 0)]
set_option maxRecDepth 100000 in
set_option maxHeartbeats 4000000 in
theorem C20_52 (d : Nat) (M : zM) (hn : znx M = 391) : zgo true d 20 0 [zr 4 52] [] M = some (none, zdo D20_52 M) := by
  refine (B20_0 d 52 M).trans ?_
  have hz : znx M = 391 := hn
  rw [hz]
  clear hz
  show zgo true d 20 9 [zr 4 52] [zr 24 52, zr 4 52] (znew M 24 52) = _
  generalize hM1 : znew M 24 52 = M1
  have hn1 : znx M1 = 392 := by rw [← hM1]; exact congrArg (· + 1) hn
  refine (B20_9 d 52 52 24 52 M1).trans ?_
  have hz : znx (zsR M1 4 52 0 (24, 52)) = 392 := hn1
  rw [hz]
  clear hz
  show zgo true d 20 17 [zr 4 52] [zr 25 52, zr 4 52] (znew (zsR M1 4 52 0 (24, 52)) 25 52) = _
  generalize hM2 : znew (zsR M1 4 52 0 (24, 52)) 25 52 = M2
  have hn2 : znx M2 = 393 := by rw [← hM2]; exact congrArg (· + 1) hn1
  clear hn1
  refine (B20_17 d 52 52 25 52 M2).trans ?_
  have hz : znx (zsR M2 4 52 1 (25, 52)) = 393 := hn2
  rw [hz]
  clear hz
  show zgo true d 20 25 [zr 4 52] [zr 26 52, zr 4 52] (znew (zsR M2 4 52 1 (25, 52)) 26 52) = _
  generalize hM3 : znew (zsR M2 4 52 1 (25, 52)) 26 52 = M3
  have hn3 : znx M3 = 394 := by rw [← hM3]; exact congrArg (· + 1) hn2
  clear hn2
  refine (B20_25 d 52 52 26 52 M3).trans ?_
  show zgo true d 20 28 [zr 4 52] [] (zsR M3 4 52 2 (26, 52)) = _
  generalize hM4 : zsR M3 4 52 2 (26, 52) = M4
  have hn4 : znx M4 = 394 := by rw [← hM4]; exact hn3
  clear hn3
  refine (B20_28 d 52 M4).trans ?_
  have hz : znx M4 = 394 := hn4
  rw [hz]
  clear hz
  show zgo true d 20 33 [zr 4 52] [zr 27 52, zr 4 52] (znew M4 27 52) = _
  generalize hM5 : znew M4 27 52 = M5
  have hn5 : znx M5 = 395 := by rw [← hM5]; exact congrArg (· + 1) hn4
  clear hn4
  refine (B20_33 d 52 52 27 52 M5).trans ?_
  have hz : znx (zsR M5 4 52 3 (27, 52)) = 395 := hn5
  rw [hz]
  clear hz
  show zgo true d 20 41 [zr 4 52] [zr 28 52, zr 4 52] (znew (zsR M5 4 52 3 (27, 52)) 28 52) = _
  generalize hM6 : znew (zsR M5 4 52 3 (27, 52)) 28 52 = M6
  have hn6 : znx M6 = 396 := by rw [← hM6]; exact congrArg (· + 1) hn5
  clear hn5
  refine (B20_41 d 52 52 28 52 M6).trans ?_
  generalize hM7 : zsR M6 4 52 4 (28, 52) = M7
  have hn7 : znx M7 = 396 := by rw [← hM7]; exact hn6
  clear hn6
  subst hM7 hM6 hM5 hM4 hM3 hM2 hM1
  rfl
def N129_199 (M : zM) : zM := zdo D20_52 (N129_198 M)
set_option maxRecDepth 100000 in
theorem T129_209 (d : Nat) (M : zM) (hn : znx M = 1) : zgo true (d + 3) 129 180 [zr 12 0, zi 52] [zr 4 52, zi 52, zr 51 0] (N129_198 M) = zgo true (d + 3) 129 184 [zr 12 0, zi 52] [zr 4 52, zi 52, zr 51 0] (N129_199 M) := by
  have hX : znx (N129_198 M) = 391 := H129_198 M hn
  have hf0 : zgR (N129_198 M) 12 0 4 = (50, 0) := G129_198_0 M
  have hf1 : zgR (N129_198 M) 12 0 5 = (51, 0) := G129_198_1 M
  have hf2 : zgR (N129_198 M) 12 0 7 = (53, 0) := G129_198_2 M
  generalize hN : N129_198 M = X at hX hf0 hf1 hf2 ⊢
  refine (B129_180 (d + 2) 52 52 52 X).trans ?_
  show Option.bind (zgo true (d + 2) 20 0 [zr 4 52] [] (X)) _ = _
  refine zbind_of (C20_52 (d + 2) _ hX) ?_
  show zgo true (d + 3) 129 184 [zr 12 0, zi 52] [zr 4 52, zi 52, zr 51 0] (zdo D20_52 (X)) = _
  subst hN
  rfl
theorem H129_199 (M : zM) (hn : znx M = 1) : znx (N129_199 M) = 396 := by
  show znx (zdo D20_52 (N129_198 M)) = _
  rw [zdo_nx, H129_198 M hn]
  rfl
set_option maxRecDepth 100000 in
theorem G129_199_0 (M : zM) : zgR (N129_199 M) 12 0 4 = (50, 0) := by
  show zgR (zdo D20_52 (N129_198 M)) 12 0 4 = _
  rw [zdo_R _ _ (by decide), G129_198_0 M]
set_option maxRecDepth 100000 in
theorem G129_199_1 (M : zM) : zgR (N129_199 M) 12 0 5 = (51, 0) := by
  show zgR (zdo D20_52 (N129_198 M)) 12 0 5 = _
  rw [zdo_R _ _ (by decide), G129_198_1 M]
set_option maxRecDepth 100000 in
theorem G129_199_2 (M : zM) : zgR (N129_199 M) 12 0 7 = (53, 0) := by
  show zgR (zdo D20_52 (N129_198 M)) 12 0 7 = _
  rw [zdo_R _ _ (by decide), G129_198_2 M]
def N129_200 (M : zM) : zM := zdo [(1, 51, 0, 52, (4, 52), 0)] (N129_199 M)
set_option maxRecDepth 100000 in
theorem T129_210 (d : Nat) (M : zM) (hn : znx M = 1) : zgo true (d + 3) 129 184 [zr 12 0, zi 52] [zr 4 52, zi 52, zr 51 0] (N129_199 M) = zgo true (d + 3) 129 163 [zr 12 0, zi 53] [] (N129_200 M) := by
  have hX : znx (N129_199 M) = 396 := H129_199 M hn
  have hf0 : zgR (N129_199 M) 12 0 4 = (50, 0) := G129_199_0 M
  have hf1 : zgR (N129_199 M) 12 0 5 = (51, 0) := G129_199_1 M
  have hf2 : zgR (N129_199 M) 12 0 7 = (53, 0) := G129_199_2 M
  generalize hN : N129_199 M = X at hX hf0 hf1 hf2 ⊢
  refine (B129_184 (d + 3) 52 52 52 X).trans ?_
  show zgo true (d + 3) 129 163 [zr 12 0, zi 53] [] (zsR X 51 0 ((52 : Int32).toNatClampNeg) (4, 52)) = _
  rw [show zsR X 51 0 ((52 : Int32).toNatClampNeg) (4, 52) = zdo [(1, 51, 0, 52, (4, 52), 0)] X from rfl]
  subst hN
  rfl
theorem H129_200 (M : zM) (hn : znx M = 1) : znx (N129_200 M) = 396 := by
  show znx (zdo [(1, 51, 0, 52, (4, 52), 0)] (N129_199 M)) = _
  rw [zdo_nx, H129_199 M hn]
  rfl
set_option maxRecDepth 100000 in
theorem G129_200_0 (M : zM) : zgR (N129_200 M) 12 0 4 = (50, 0) := by
  show zgR (zdo [(1, 51, 0, 52, (4, 52), 0)] (N129_199 M)) 12 0 4 = _
  rw [zdo_R _ _ (by decide), G129_199_0 M]
set_option maxRecDepth 100000 in
theorem G129_200_1 (M : zM) : zgR (N129_200 M) 12 0 5 = (51, 0) := by
  show zgR (zdo [(1, 51, 0, 52, (4, 52), 0)] (N129_199 M)) 12 0 5 = _
  rw [zdo_R _ _ (by decide), G129_199_1 M]
set_option maxRecDepth 100000 in
theorem G129_200_2 (M : zM) : zgR (N129_200 M) 12 0 7 = (53, 0) := by
  show zgR (zdo [(1, 51, 0, 52, (4, 52), 0)] (N129_199 M)) 12 0 7 = _
  rw [zdo_R _ _ (by decide), G129_199_2 M]
def N129_201 (M : zM) : zM := zdo [(0, 4, 53, 0, (0, 0), 0)] (N129_200 M)
set_option maxRecDepth 100000 in
theorem T129_211 (d : Nat) (M : zM) (hn : znx M = 1) : zgo true (d + 3) 129 163 [zr 12 0, zi 53] [] (N129_200 M) = zgo true (d + 3) 129 180 [zr 12 0, zi 53] [zr 4 53, zi 53, zr 51 0] (N129_201 M) := by
  have hX : znx (N129_200 M) = 396 := H129_200 M hn
  have hf0 : zgR (N129_200 M) 12 0 4 = (50, 0) := G129_200_0 M
  have hf1 : zgR (N129_200 M) 12 0 5 = (51, 0) := G129_200_1 M
  have hf2 : zgR (N129_200 M) 12 0 7 = (53, 0) := G129_200_2 M
  generalize hN : N129_200 M = X at hX hf0 hf1 hf2 ⊢
  refine (B129_163 (d + 3) 53 X).trans ?_
  rw [show zgR (X) 12 0 5 = (51, 0) from hf1]
  have hz : znx X = 396 := hX
  rw [hz]
  clear hz
  show zgo true (d + 3) 129 180 [zr 12 0, zi 53] [zr 4 53, zi 53, zr 51 0] (znew X 4 53) = _
  rw [show znew X 4 53 = zdo [(0, 4, 53, 0, (0, 0), 0)] X from rfl]
  subst hN
  rfl
theorem H129_201 (M : zM) (hn : znx M = 1) : znx (N129_201 M) = 397 := by
  show znx (zdo [(0, 4, 53, 0, (0, 0), 0)] (N129_200 M)) = _
  rw [zdo_nx, H129_200 M hn]
  rfl
set_option maxRecDepth 100000 in
theorem G129_201_0 (M : zM) : zgR (N129_201 M) 12 0 4 = (50, 0) := by
  show zgR (zdo [(0, 4, 53, 0, (0, 0), 0)] (N129_200 M)) 12 0 4 = _
  rw [zdo_R _ _ (by decide), G129_200_0 M]
set_option maxRecDepth 100000 in
theorem G129_201_1 (M : zM) : zgR (N129_201 M) 12 0 5 = (51, 0) := by
  show zgR (zdo [(0, 4, 53, 0, (0, 0), 0)] (N129_200 M)) 12 0 5 = _
  rw [zdo_R _ _ (by decide), G129_200_1 M]
set_option maxRecDepth 100000 in
theorem G129_201_2 (M : zM) : zgR (N129_201 M) 12 0 7 = (53, 0) := by
  show zgR (zdo [(0, 4, 53, 0, (0, 0), 0)] (N129_200 M)) 12 0 7 = _
  rw [zdo_R _ _ (by decide), G129_200_2 M]
def D20_53 : List zOp := [(0, 24, 53, 0, (0, 0), 0), (1, 4, 53, 0, (24, 53), 0), (0, 25, 53, 0, (0, 0), 0), (1, 4, 53, 1, (25, 53), 0), (0, 26, 53, 0, (0, 0), 0), (1, 4, 53, 2, (26, 53), 0), (0, 27, 53, 0, (0, 0), 0), (1, 4, 53, 3, (27, 53), 0), (0, 28, 53, 0, (0, 0), 0), (1, 4, 53, 4, (28, 53), 0)]
set_option maxRecDepth 100000 in
set_option maxHeartbeats 4000000 in
theorem C20_53 (d : Nat) (M : zM) (hn : znx M = 397) : zgo true d 20 0 [zr 4 53] [] M = some (none, zdo D20_53 M) := by
  refine (B20_0 d 53 M).trans ?_
  have hz : znx M = 397 := hn
  rw [hz]
  clear hz
  show zgo true d 20 9 [zr 4 53] [zr 24 53, zr 4 53] (znew M 24 53) = _
  generalize hM1 : znew M 24 53 = M1
  have hn1 : znx M1 = 398 := by rw [← hM1]; exact congrArg (· + 1) hn
  refine (B20_9 d 53 53 24 53 M1).trans ?_
  have hz : znx (zsR M1 4 53 0 (24, 53)) = 398 := hn1
  rw [hz]
  clear hz
  show zgo true d 20 17 [zr 4 53] [zr 25 53, zr 4 53] (znew (zsR M1 4 53 0 (24, 53)) 25 53) = _
  generalize hM2 : znew (zsR M1 4 53 0 (24, 53)) 25 53 = M2
  have hn2 : znx M2 = 399 := by rw [← hM2]; exact congrArg (· + 1) hn1
  clear hn1
  refine (B20_17 d 53 53 25 53 M2).trans ?_
  have hz : znx (zsR M2 4 53 1 (25, 53)) = 399 := hn2
  rw [hz]
  clear hz
  show zgo true d 20 25 [zr 4 53] [zr 26 53, zr 4 53] (znew (zsR M2 4 53 1 (25, 53)) 26 53) = _
  generalize hM3 : znew (zsR M2 4 53 1 (25, 53)) 26 53 = M3
  have hn3 : znx M3 = 400 := by rw [← hM3]; exact congrArg (· + 1) hn2
  clear hn2
  refine (B20_25 d 53 53 26 53 M3).trans ?_
  show zgo true d 20 28 [zr 4 53] [] (zsR M3 4 53 2 (26, 53)) = _
  generalize hM4 : zsR M3 4 53 2 (26, 53) = M4
  have hn4 : znx M4 = 400 := by rw [← hM4]; exact hn3
  clear hn3
  refine (B20_28 d 53 M4).trans ?_
  have hz : znx M4 = 400 := hn4
  rw [hz]
  clear hz
  show zgo true d 20 33 [zr 4 53] [zr 27 53, zr 4 53] (znew M4 27 53) = _
  generalize hM5 : znew M4 27 53 = M5
  have hn5 : znx M5 = 401 := by rw [← hM5]; exact congrArg (· + 1) hn4
  clear hn4
  refine (B20_33 d 53 53 27 53 M5).trans ?_
  have hz : znx (zsR M5 4 53 3 (27, 53)) = 401 := hn5
  rw [hz]
  clear hz
  show zgo true d 20 41 [zr 4 53] [zr 28 53, zr 4 53] (znew (zsR M5 4 53 3 (27, 53)) 28 53) = _
  generalize hM6 : znew (zsR M5 4 53 3 (27, 53)) 28 53 = M6
  have hn6 : znx M6 = 402 := by rw [← hM6]; exact congrArg (· + 1) hn5
  clear hn5
  refine (B20_41 d 53 53 28 53 M6).trans ?_
  generalize hM7 : zsR M6 4 53 4 (28, 53) = M7
  have hn7 : znx M7 = 402 := by rw [← hM7]; exact hn6
  clear hn6
  subst hM7 hM6 hM5 hM4 hM3 hM2 hM1
  rfl
def N129_202 (M : zM) : zM := zdo D20_53 (N129_201 M)
set_option maxRecDepth 100000 in
theorem T129_212 (d : Nat) (M : zM) (hn : znx M = 1) : zgo true (d + 3) 129 180 [zr 12 0, zi 53] [zr 4 53, zi 53, zr 51 0] (N129_201 M) = zgo true (d + 3) 129 184 [zr 12 0, zi 53] [zr 4 53, zi 53, zr 51 0] (N129_202 M) := by
  have hX : znx (N129_201 M) = 397 := H129_201 M hn
  have hf0 : zgR (N129_201 M) 12 0 4 = (50, 0) := G129_201_0 M
  have hf1 : zgR (N129_201 M) 12 0 5 = (51, 0) := G129_201_1 M
  have hf2 : zgR (N129_201 M) 12 0 7 = (53, 0) := G129_201_2 M
  generalize hN : N129_201 M = X at hX hf0 hf1 hf2 ⊢
  refine (B129_180 (d + 2) 53 53 53 X).trans ?_
  show Option.bind (zgo true (d + 2) 20 0 [zr 4 53] [] (X)) _ = _
  refine zbind_of (C20_53 (d + 2) _ hX) ?_
  show zgo true (d + 3) 129 184 [zr 12 0, zi 53] [zr 4 53, zi 53, zr 51 0] (zdo D20_53 (X)) = _
  subst hN
  rfl
theorem H129_202 (M : zM) (hn : znx M = 1) : znx (N129_202 M) = 402 := by
  show znx (zdo D20_53 (N129_201 M)) = _
  rw [zdo_nx, H129_201 M hn]
  rfl
set_option maxRecDepth 100000 in
theorem G129_202_0 (M : zM) : zgR (N129_202 M) 12 0 4 = (50, 0) := by
  show zgR (zdo D20_53 (N129_201 M)) 12 0 4 = _
  rw [zdo_R _ _ (by decide), G129_201_0 M]
set_option maxRecDepth 100000 in
theorem G129_202_1 (M : zM) : zgR (N129_202 M) 12 0 5 = (51, 0) := by
  show zgR (zdo D20_53 (N129_201 M)) 12 0 5 = _
  rw [zdo_R _ _ (by decide), G129_201_1 M]
set_option maxRecDepth 100000 in
theorem G129_202_2 (M : zM) : zgR (N129_202 M) 12 0 7 = (53, 0) := by
  show zgR (zdo D20_53 (N129_201 M)) 12 0 7 = _
  rw [zdo_R _ _ (by decide), G129_201_2 M]
def N129_203 (M : zM) : zM := zdo [(1, 51, 0, 53, (4, 53), 0)] (N129_202 M)
set_option maxRecDepth 100000 in
theorem T129_213 (d : Nat) (M : zM) (hn : znx M = 1) : zgo true (d + 3) 129 184 [zr 12 0, zi 53] [zr 4 53, zi 53, zr 51 0] (N129_202 M) = zgo true (d + 3) 129 163 [zr 12 0, zi 54] [] (N129_203 M) := by
  have hX : znx (N129_202 M) = 402 := H129_202 M hn
  have hf0 : zgR (N129_202 M) 12 0 4 = (50, 0) := G129_202_0 M
  have hf1 : zgR (N129_202 M) 12 0 5 = (51, 0) := G129_202_1 M
  have hf2 : zgR (N129_202 M) 12 0 7 = (53, 0) := G129_202_2 M
  generalize hN : N129_202 M = X at hX hf0 hf1 hf2 ⊢
  refine (B129_184 (d + 3) 53 53 53 X).trans ?_
  show zgo true (d + 3) 129 163 [zr 12 0, zi 54] [] (zsR X 51 0 ((53 : Int32).toNatClampNeg) (4, 53)) = _
  rw [show zsR X 51 0 ((53 : Int32).toNatClampNeg) (4, 53) = zdo [(1, 51, 0, 53, (4, 53), 0)] X from rfl]
  subst hN
  rfl
theorem H129_203 (M : zM) (hn : znx M = 1) : znx (N129_203 M) = 402 := by
  show znx (zdo [(1, 51, 0, 53, (4, 53), 0)] (N129_202 M)) = _
  rw [zdo_nx, H129_202 M hn]
  rfl
set_option maxRecDepth 100000 in
theorem G129_203_0 (M : zM) : zgR (N129_203 M) 12 0 4 = (50, 0) := by
  show zgR (zdo [(1, 51, 0, 53, (4, 53), 0)] (N129_202 M)) 12 0 4 = _
  rw [zdo_R _ _ (by decide), G129_202_0 M]
set_option maxRecDepth 100000 in
theorem G129_203_1 (M : zM) : zgR (N129_203 M) 12 0 5 = (51, 0) := by
  show zgR (zdo [(1, 51, 0, 53, (4, 53), 0)] (N129_202 M)) 12 0 5 = _
  rw [zdo_R _ _ (by decide), G129_202_1 M]
set_option maxRecDepth 100000 in
theorem G129_203_2 (M : zM) : zgR (N129_203 M) 12 0 7 = (53, 0) := by
  show zgR (zdo [(1, 51, 0, 53, (4, 53), 0)] (N129_202 M)) 12 0 7 = _
  rw [zdo_R _ _ (by decide), G129_202_2 M]
def N129_204 (M : zM) : zM := zdo [(0, 4, 54, 0, (0, 0), 0)] (N129_203 M)
set_option maxRecDepth 100000 in
theorem T129_214 (d : Nat) (M : zM) (hn : znx M = 1) : zgo true (d + 3) 129 163 [zr 12 0, zi 54] [] (N129_203 M) = zgo true (d + 3) 129 180 [zr 12 0, zi 54] [zr 4 54, zi 54, zr 51 0] (N129_204 M) := by
  have hX : znx (N129_203 M) = 402 := H129_203 M hn
  have hf0 : zgR (N129_203 M) 12 0 4 = (50, 0) := G129_203_0 M
  have hf1 : zgR (N129_203 M) 12 0 5 = (51, 0) := G129_203_1 M
  have hf2 : zgR (N129_203 M) 12 0 7 = (53, 0) := G129_203_2 M
  generalize hN : N129_203 M = X at hX hf0 hf1 hf2 ⊢
  refine (B129_163 (d + 3) 54 X).trans ?_
  rw [show zgR (X) 12 0 5 = (51, 0) from hf1]
  have hz : znx X = 402 := hX
  rw [hz]
  clear hz
  show zgo true (d + 3) 129 180 [zr 12 0, zi 54] [zr 4 54, zi 54, zr 51 0] (znew X 4 54) = _
  rw [show znew X 4 54 = zdo [(0, 4, 54, 0, (0, 0), 0)] X from rfl]
  subst hN
  rfl
theorem H129_204 (M : zM) (hn : znx M = 1) : znx (N129_204 M) = 403 := by
  show znx (zdo [(0, 4, 54, 0, (0, 0), 0)] (N129_203 M)) = _
  rw [zdo_nx, H129_203 M hn]
  rfl
set_option maxRecDepth 100000 in
theorem G129_204_0 (M : zM) : zgR (N129_204 M) 12 0 4 = (50, 0) := by
  show zgR (zdo [(0, 4, 54, 0, (0, 0), 0)] (N129_203 M)) 12 0 4 = _
  rw [zdo_R _ _ (by decide), G129_203_0 M]
set_option maxRecDepth 100000 in
theorem G129_204_1 (M : zM) : zgR (N129_204 M) 12 0 5 = (51, 0) := by
  show zgR (zdo [(0, 4, 54, 0, (0, 0), 0)] (N129_203 M)) 12 0 5 = _
  rw [zdo_R _ _ (by decide), G129_203_1 M]
set_option maxRecDepth 100000 in
theorem G129_204_2 (M : zM) : zgR (N129_204 M) 12 0 7 = (53, 0) := by
  show zgR (zdo [(0, 4, 54, 0, (0, 0), 0)] (N129_203 M)) 12 0 7 = _
  rw [zdo_R _ _ (by decide), G129_203_2 M]
def D20_54 : List zOp := [(0, 24, 54, 0, (0, 0), 0), (1, 4, 54, 0, (24, 54), 0), (0, 25, 54, 0, (0, 0), 0), (1, 4, 54, 1, (25, 54), 0), (0, 26, 54, 0, (0, 0), 0), (1, 4, 54, 2, (26, 54), 0), (0, 27, 54, 0, (0, 0), 0), (1, 4, 54, 3, (27, 54), 0), (0, 28, 54, 0, (0, 0), 0), (1, 4, 54, 4, (28, 54), 0)]
set_option maxRecDepth 100000 in
set_option maxHeartbeats 4000000 in
theorem C20_54 (d : Nat) (M : zM) (hn : znx M = 403) : zgo true d 20 0 [zr 4 54] [] M = some (none, zdo D20_54 M) := by
  refine (B20_0 d 54 M).trans ?_
  have hz : znx M = 403 := hn
  rw [hz]
  clear hz
  show zgo true d 20 9 [zr 4 54] [zr 24 54, zr 4 54] (znew M 24 54) = _
  generalize hM1 : znew M 24 54 = M1
  have hn1 : znx M1 = 404 := by rw [← hM1]; exact congrArg (· + 1) hn
  refine (B20_9 d 54 54 24 54 M1).trans ?_
  have hz : znx (zsR M1 4 54 0 (24, 54)) = 404 := hn1
  rw [hz]
  clear hz
  show zgo true d 20 17 [zr 4 54] [zr 25 54, zr 4 54] (znew (zsR M1 4 54 0 (24, 54)) 25 54) = _
  generalize hM2 : znew (zsR M1 4 54 0 (24, 54)) 25 54 = M2
  have hn2 : znx M2 = 405 := by rw [← hM2]; exact congrArg (· + 1) hn1
  clear hn1
  refine (B20_17 d 54 54 25 54 M2).trans ?_
  have hz : znx (zsR M2 4 54 1 (25, 54)) = 405 := hn2
  rw [hz]
  clear hz
  show zgo true d 20 25 [zr 4 54] [zr 26 54, zr 4 54] (znew (zsR M2 4 54 1 (25, 54)) 26 54) = _
  generalize hM3 : znew (zsR M2 4 54 1 (25, 54)) 26 54 = M3
  have hn3 : znx M3 = 406 := by rw [← hM3]; exact congrArg (· + 1) hn2
  clear hn2
  refine (B20_25 d 54 54 26 54 M3).trans ?_
  show zgo true d 20 28 [zr 4 54] [] (zsR M3 4 54 2 (26, 54)) = _
  generalize hM4 : zsR M3 4 54 2 (26, 54) = M4
  have hn4 : znx M4 = 406 := by rw [← hM4]; exact hn3
  clear hn3
  refine (B20_28 d 54 M4).trans ?_
  have hz : znx M4 = 406 := hn4
  rw [hz]
  clear hz
  show zgo true d 20 33 [zr 4 54] [zr 27 54, zr 4 54] (znew M4 27 54) = _
  generalize hM5 : znew M4 27 54 = M5
  have hn5 : znx M5 = 407 := by rw [← hM5]; exact congrArg (· + 1) hn4
  clear hn4
  refine (B20_33 d 54 54 27 54 M5).trans ?_
  have hz : znx (zsR M5 4 54 3 (27, 54)) = 407 := hn5
  rw [hz]
  clear hz
  show zgo true d 20 41 [zr 4 54] [zr 28 54, zr 4 54] (znew (zsR M5 4 54 3 (27, 54)) 28 54) = _
  generalize hM6 : znew (zsR M5 4 54 3 (27, 54)) 28 54 = M6
  have hn6 : znx M6 = 408 := by rw [← hM6]; exact congrArg (· + 1) hn5
  clear hn5
  refine (B20_41 d 54 54 28 54 M6).trans ?_
  generalize hM7 : zsR M6 4 54 4 (28, 54) = M7
  have hn7 : znx M7 = 408 := by rw [← hM7]; exact hn6
  clear hn6
  subst hM7 hM6 hM5 hM4 hM3 hM2 hM1
  rfl
def N129_205 (M : zM) : zM := zdo D20_54 (N129_204 M)
set_option maxRecDepth 100000 in
theorem T129_215 (d : Nat) (M : zM) (hn : znx M = 1) : zgo true (d + 3) 129 180 [zr 12 0, zi 54] [zr 4 54, zi 54, zr 51 0] (N129_204 M) = zgo true (d + 3) 129 184 [zr 12 0, zi 54] [zr 4 54, zi 54, zr 51 0] (N129_205 M) := by
  have hX : znx (N129_204 M) = 403 := H129_204 M hn
  have hf0 : zgR (N129_204 M) 12 0 4 = (50, 0) := G129_204_0 M
  have hf1 : zgR (N129_204 M) 12 0 5 = (51, 0) := G129_204_1 M
  have hf2 : zgR (N129_204 M) 12 0 7 = (53, 0) := G129_204_2 M
  generalize hN : N129_204 M = X at hX hf0 hf1 hf2 ⊢
  refine (B129_180 (d + 2) 54 54 54 X).trans ?_
  show Option.bind (zgo true (d + 2) 20 0 [zr 4 54] [] (X)) _ = _
  refine zbind_of (C20_54 (d + 2) _ hX) ?_
  show zgo true (d + 3) 129 184 [zr 12 0, zi 54] [zr 4 54, zi 54, zr 51 0] (zdo D20_54 (X)) = _
  subst hN
  rfl
theorem H129_205 (M : zM) (hn : znx M = 1) : znx (N129_205 M) = 408 := by
  show znx (zdo D20_54 (N129_204 M)) = _
  rw [zdo_nx, H129_204 M hn]
  rfl
set_option maxRecDepth 100000 in
theorem G129_205_0 (M : zM) : zgR (N129_205 M) 12 0 4 = (50, 0) := by
  show zgR (zdo D20_54 (N129_204 M)) 12 0 4 = _
  rw [zdo_R _ _ (by decide), G129_204_0 M]
set_option maxRecDepth 100000 in
theorem G129_205_1 (M : zM) : zgR (N129_205 M) 12 0 5 = (51, 0) := by
  show zgR (zdo D20_54 (N129_204 M)) 12 0 5 = _
  rw [zdo_R _ _ (by decide), G129_204_1 M]
set_option maxRecDepth 100000 in
theorem G129_205_2 (M : zM) : zgR (N129_205 M) 12 0 7 = (53, 0) := by
  show zgR (zdo D20_54 (N129_204 M)) 12 0 7 = _
  rw [zdo_R _ _ (by decide), G129_204_2 M]
def N129_206 (M : zM) : zM := zdo [(1, 51, 0, 54, (4, 54), 0)] (N129_205 M)
set_option maxRecDepth 100000 in
theorem T129_216 (d : Nat) (M : zM) (hn : znx M = 1) : zgo true (d + 3) 129 184 [zr 12 0, zi 54] [zr 4 54, zi 54, zr 51 0] (N129_205 M) = zgo true (d + 3) 129 163 [zr 12 0, zi 55] [] (N129_206 M) := by
  have hX : znx (N129_205 M) = 408 := H129_205 M hn
  have hf0 : zgR (N129_205 M) 12 0 4 = (50, 0) := G129_205_0 M
  have hf1 : zgR (N129_205 M) 12 0 5 = (51, 0) := G129_205_1 M
  have hf2 : zgR (N129_205 M) 12 0 7 = (53, 0) := G129_205_2 M
  generalize hN : N129_205 M = X at hX hf0 hf1 hf2 ⊢
  refine (B129_184 (d + 3) 54 54 54 X).trans ?_
  show zgo true (d + 3) 129 163 [zr 12 0, zi 55] [] (zsR X 51 0 ((54 : Int32).toNatClampNeg) (4, 54)) = _
  rw [show zsR X 51 0 ((54 : Int32).toNatClampNeg) (4, 54) = zdo [(1, 51, 0, 54, (4, 54), 0)] X from rfl]
  subst hN
  rfl
theorem H129_206 (M : zM) (hn : znx M = 1) : znx (N129_206 M) = 408 := by
  show znx (zdo [(1, 51, 0, 54, (4, 54), 0)] (N129_205 M)) = _
  rw [zdo_nx, H129_205 M hn]
  rfl
set_option maxRecDepth 100000 in
theorem G129_206_0 (M : zM) : zgR (N129_206 M) 12 0 4 = (50, 0) := by
  show zgR (zdo [(1, 51, 0, 54, (4, 54), 0)] (N129_205 M)) 12 0 4 = _
  rw [zdo_R _ _ (by decide), G129_205_0 M]
set_option maxRecDepth 100000 in
theorem G129_206_1 (M : zM) : zgR (N129_206 M) 12 0 5 = (51, 0) := by
  show zgR (zdo [(1, 51, 0, 54, (4, 54), 0)] (N129_205 M)) 12 0 5 = _
  rw [zdo_R _ _ (by decide), G129_205_1 M]
set_option maxRecDepth 100000 in
theorem G129_206_2 (M : zM) : zgR (N129_206 M) 12 0 7 = (53, 0) := by
  show zgR (zdo [(1, 51, 0, 54, (4, 54), 0)] (N129_205 M)) 12 0 7 = _
  rw [zdo_R _ _ (by decide), G129_205_2 M]
def N129_207 (M : zM) : zM := zdo [(0, 4, 55, 0, (0, 0), 0)] (N129_206 M)
set_option maxRecDepth 100000 in
theorem T129_217 (d : Nat) (M : zM) (hn : znx M = 1) : zgo true (d + 3) 129 163 [zr 12 0, zi 55] [] (N129_206 M) = zgo true (d + 3) 129 180 [zr 12 0, zi 55] [zr 4 55, zi 55, zr 51 0] (N129_207 M) := by
  have hX : znx (N129_206 M) = 408 := H129_206 M hn
  have hf0 : zgR (N129_206 M) 12 0 4 = (50, 0) := G129_206_0 M
  have hf1 : zgR (N129_206 M) 12 0 5 = (51, 0) := G129_206_1 M
  have hf2 : zgR (N129_206 M) 12 0 7 = (53, 0) := G129_206_2 M
  generalize hN : N129_206 M = X at hX hf0 hf1 hf2 ⊢
  refine (B129_163 (d + 3) 55 X).trans ?_
  rw [show zgR (X) 12 0 5 = (51, 0) from hf1]
  have hz : znx X = 408 := hX
  rw [hz]
  clear hz
  show zgo true (d + 3) 129 180 [zr 12 0, zi 55] [zr 4 55, zi 55, zr 51 0] (znew X 4 55) = _
  rw [show znew X 4 55 = zdo [(0, 4, 55, 0, (0, 0), 0)] X from rfl]
  subst hN
  rfl
theorem H129_207 (M : zM) (hn : znx M = 1) : znx (N129_207 M) = 409 := by
  show znx (zdo [(0, 4, 55, 0, (0, 0), 0)] (N129_206 M)) = _
  rw [zdo_nx, H129_206 M hn]
  rfl
set_option maxRecDepth 100000 in
theorem G129_207_0 (M : zM) : zgR (N129_207 M) 12 0 4 = (50, 0) := by
  show zgR (zdo [(0, 4, 55, 0, (0, 0), 0)] (N129_206 M)) 12 0 4 = _
  rw [zdo_R _ _ (by decide), G129_206_0 M]
set_option maxRecDepth 100000 in
theorem G129_207_1 (M : zM) : zgR (N129_207 M) 12 0 5 = (51, 0) := by
  show zgR (zdo [(0, 4, 55, 0, (0, 0), 0)] (N129_206 M)) 12 0 5 = _
  rw [zdo_R _ _ (by decide), G129_206_1 M]
set_option maxRecDepth 100000 in
theorem G129_207_2 (M : zM) : zgR (N129_207 M) 12 0 7 = (53, 0) := by
  show zgR (zdo [(0, 4, 55, 0, (0, 0), 0)] (N129_206 M)) 12 0 7 = _
  rw [zdo_R _ _ (by decide), G129_206_2 M]
def D20_55 : List zOp := [(0, 24, 55, 0, (0, 0), 0), (1, 4, 55, 0, (24, 55), 0), (0, 25, 55, 0, (0, 0), 0), (1, 4, 55, 1, (25, 55), 0), (0, 26, 55, 0, (0, 0), 0), (1, 4, 55, 2, (26, 55), 0), (0, 27, 55, 0, (0, 0), 0), (1, 4, 55, 3, (27, 55), 0), (0, 28, 55, 0, (0, 0), 0), (1, 4, 55, 4, (28, 55), 0)]
set_option maxRecDepth 100000 in
set_option maxHeartbeats 4000000 in
theorem C20_55 (d : Nat) (M : zM) (hn : znx M = 409) : zgo true d 20 0 [zr 4 55] [] M = some (none, zdo D20_55 M) := by
  refine (B20_0 d 55 M).trans ?_
  have hz : znx M = 409 := hn
  rw [hz]
  clear hz
  show zgo true d 20 9 [zr 4 55] [zr 24 55, zr 4 55] (znew M 24 55) = _
  generalize hM1 : znew M 24 55 = M1
  have hn1 : znx M1 = 410 := by rw [← hM1]; exact congrArg (· + 1) hn
  refine (B20_9 d 55 55 24 55 M1).trans ?_
  have hz : znx (zsR M1 4 55 0 (24, 55)) = 410 := hn1
  rw [hz]
  clear hz
  show zgo true d 20 17 [zr 4 55] [zr 25 55, zr 4 55] (znew (zsR M1 4 55 0 (24, 55)) 25 55) = _
  generalize hM2 : znew (zsR M1 4 55 0 (24, 55)) 25 55 = M2
  have hn2 : znx M2 = 411 := by rw [← hM2]; exact congrArg (· + 1) hn1
  clear hn1
  refine (B20_17 d 55 55 25 55 M2).trans ?_
  have hz : znx (zsR M2 4 55 1 (25, 55)) = 411 := hn2
  rw [hz]
  clear hz
  show zgo true d 20 25 [zr 4 55] [zr 26 55, zr 4 55] (znew (zsR M2 4 55 1 (25, 55)) 26 55) = _
  generalize hM3 : znew (zsR M2 4 55 1 (25, 55)) 26 55 = M3
  have hn3 : znx M3 = 412 := by rw [← hM3]; exact congrArg (· + 1) hn2
  clear hn2
  refine (B20_25 d 55 55 26 55 M3).trans ?_
  show zgo true d 20 28 [zr 4 55] [] (zsR M3 4 55 2 (26, 55)) = _
  generalize hM4 : zsR M3 4 55 2 (26, 55) = M4
  have hn4 : znx M4 = 412 := by rw [← hM4]; exact hn3
  clear hn3
  refine (B20_28 d 55 M4).trans ?_
  have hz : znx M4 = 412 := hn4
  rw [hz]
  clear hz
  show zgo true d 20 33 [zr 4 55] [zr 27 55, zr 4 55] (znew M4 27 55) = _
  generalize hM5 : znew M4 27 55 = M5
  have hn5 : znx M5 = 413 := by rw [← hM5]; exact congrArg (· + 1) hn4
  clear hn4
  refine (B20_33 d 55 55 27 55 M5).trans ?_
  have hz : znx (zsR M5 4 55 3 (27, 55)) = 413 := hn5
  rw [hz]
  clear hz
  show zgo true d 20 41 [zr 4 55] [zr 28 55, zr 4 55] (znew (zsR M5 4 55 3 (27, 55)) 28 55) = _
  generalize hM6 : znew (zsR M5 4 55 3 (27, 55)) 28 55 = M6
  have hn6 : znx M6 = 414 := by rw [← hM6]; exact congrArg (· + 1) hn5
  clear hn5
  refine (B20_41 d 55 55 28 55 M6).trans ?_
  generalize hM7 : zsR M6 4 55 4 (28, 55) = M7
  have hn7 : znx M7 = 414 := by rw [← hM7]; exact hn6
  clear hn6
  subst hM7 hM6 hM5 hM4 hM3 hM2 hM1
  rfl
def N129_208 (M : zM) : zM := zdo D20_55 (N129_207 M)
set_option maxRecDepth 100000 in
theorem T129_218 (d : Nat) (M : zM) (hn : znx M = 1) : zgo true (d + 3) 129 180 [zr 12 0, zi 55] [zr 4 55, zi 55, zr 51 0] (N129_207 M) = zgo true (d + 3) 129 184 [zr 12 0, zi 55] [zr 4 55, zi 55, zr 51 0] (N129_208 M) := by
  have hX : znx (N129_207 M) = 409 := H129_207 M hn
  have hf0 : zgR (N129_207 M) 12 0 4 = (50, 0) := G129_207_0 M
  have hf1 : zgR (N129_207 M) 12 0 5 = (51, 0) := G129_207_1 M
  have hf2 : zgR (N129_207 M) 12 0 7 = (53, 0) := G129_207_2 M
  generalize hN : N129_207 M = X at hX hf0 hf1 hf2 ⊢
  refine (B129_180 (d + 2) 55 55 55 X).trans ?_
  show Option.bind (zgo true (d + 2) 20 0 [zr 4 55] [] (X)) _ = _
  refine zbind_of (C20_55 (d + 2) _ hX) ?_
  show zgo true (d + 3) 129 184 [zr 12 0, zi 55] [zr 4 55, zi 55, zr 51 0] (zdo D20_55 (X)) = _
  subst hN
  rfl
theorem H129_208 (M : zM) (hn : znx M = 1) : znx (N129_208 M) = 414 := by
  show znx (zdo D20_55 (N129_207 M)) = _
  rw [zdo_nx, H129_207 M hn]
  rfl
set_option maxRecDepth 100000 in
theorem G129_208_0 (M : zM) : zgR (N129_208 M) 12 0 4 = (50, 0) := by
  show zgR (zdo D20_55 (N129_207 M)) 12 0 4 = _
  rw [zdo_R _ _ (by decide), G129_207_0 M]
set_option maxRecDepth 100000 in
theorem G129_208_1 (M : zM) : zgR (N129_208 M) 12 0 5 = (51, 0) := by
  show zgR (zdo D20_55 (N129_207 M)) 12 0 5 = _
  rw [zdo_R _ _ (by decide), G129_207_1 M]
set_option maxRecDepth 100000 in
theorem G129_208_2 (M : zM) : zgR (N129_208 M) 12 0 7 = (53, 0) := by
  show zgR (zdo D20_55 (N129_207 M)) 12 0 7 = _
  rw [zdo_R _ _ (by decide), G129_207_2 M]
def N129_209 (M : zM) : zM := zdo [(1, 51, 0, 55, (4, 55), 0)] (N129_208 M)
set_option maxRecDepth 100000 in
theorem T129_219 (d : Nat) (M : zM) (hn : znx M = 1) : zgo true (d + 3) 129 184 [zr 12 0, zi 55] [zr 4 55, zi 55, zr 51 0] (N129_208 M) = zgo true (d + 3) 129 163 [zr 12 0, zi 56] [] (N129_209 M) := by
  have hX : znx (N129_208 M) = 414 := H129_208 M hn
  have hf0 : zgR (N129_208 M) 12 0 4 = (50, 0) := G129_208_0 M
  have hf1 : zgR (N129_208 M) 12 0 5 = (51, 0) := G129_208_1 M
  have hf2 : zgR (N129_208 M) 12 0 7 = (53, 0) := G129_208_2 M
  generalize hN : N129_208 M = X at hX hf0 hf1 hf2 ⊢
  refine (B129_184 (d + 3) 55 55 55 X).trans ?_
  show zgo true (d + 3) 129 163 [zr 12 0, zi 56] [] (zsR X 51 0 ((55 : Int32).toNatClampNeg) (4, 55)) = _
  rw [show zsR X 51 0 ((55 : Int32).toNatClampNeg) (4, 55) = zdo [(1, 51, 0, 55, (4, 55), 0)] X from rfl]
  subst hN
  rfl
theorem H129_209 (M : zM) (hn : znx M = 1) : znx (N129_209 M) = 414 := by
  show znx (zdo [(1, 51, 0, 55, (4, 55), 0)] (N129_208 M)) = _
  rw [zdo_nx, H129_208 M hn]
  rfl
set_option maxRecDepth 100000 in
theorem G129_209_0 (M : zM) : zgR (N129_209 M) 12 0 4 = (50, 0) := by
  show zgR (zdo [(1, 51, 0, 55, (4, 55), 0)] (N129_208 M)) 12 0 4 = _
  rw [zdo_R _ _ (by decide), G129_208_0 M]
set_option maxRecDepth 100000 in
theorem G129_209_1 (M : zM) : zgR (N129_209 M) 12 0 5 = (51, 0) := by
  show zgR (zdo [(1, 51, 0, 55, (4, 55), 0)] (N129_208 M)) 12 0 5 = _
  rw [zdo_R _ _ (by decide), G129_208_1 M]
set_option maxRecDepth 100000 in
theorem G129_209_2 (M : zM) : zgR (N129_209 M) 12 0 7 = (53, 0) := by
  show zgR (zdo [(1, 51, 0, 55, (4, 55), 0)] (N129_208 M)) 12 0 7 = _
  rw [zdo_R _ _ (by decide), G129_208_2 M]
def N129_210 (M : zM) : zM := zdo [(0, 4, 56, 0, (0, 0), 0)] (N129_209 M)
set_option maxRecDepth 100000 in
theorem T129_220 (d : Nat) (M : zM) (hn : znx M = 1) : zgo true (d + 3) 129 163 [zr 12 0, zi 56] [] (N129_209 M) = zgo true (d + 3) 129 180 [zr 12 0, zi 56] [zr 4 56, zi 56, zr 51 0] (N129_210 M) := by
  have hX : znx (N129_209 M) = 414 := H129_209 M hn
  have hf0 : zgR (N129_209 M) 12 0 4 = (50, 0) := G129_209_0 M
  have hf1 : zgR (N129_209 M) 12 0 5 = (51, 0) := G129_209_1 M
  have hf2 : zgR (N129_209 M) 12 0 7 = (53, 0) := G129_209_2 M
  generalize hN : N129_209 M = X at hX hf0 hf1 hf2 ⊢
  refine (B129_163 (d + 3) 56 X).trans ?_
  rw [show zgR (X) 12 0 5 = (51, 0) from hf1]
  have hz : znx X = 414 := hX
  rw [hz]
  clear hz
  show zgo true (d + 3) 129 180 [zr 12 0, zi 56] [zr 4 56, zi 56, zr 51 0] (znew X 4 56) = _
  rw [show znew X 4 56 = zdo [(0, 4, 56, 0, (0, 0), 0)] X from rfl]
  subst hN
  rfl
theorem H129_210 (M : zM) (hn : znx M = 1) : znx (N129_210 M) = 415 := by
  show znx (zdo [(0, 4, 56, 0, (0, 0), 0)] (N129_209 M)) = _
  rw [zdo_nx, H129_209 M hn]
  rfl
set_option maxRecDepth 100000 in
theorem G129_210_0 (M : zM) : zgR (N129_210 M) 12 0 4 = (50, 0) := by
  show zgR (zdo [(0, 4, 56, 0, (0, 0), 0)] (N129_209 M)) 12 0 4 = _
  rw [zdo_R _ _ (by decide), G129_209_0 M]
set_option maxRecDepth 100000 in
theorem G129_210_1 (M : zM) : zgR (N129_210 M) 12 0 5 = (51, 0) := by
  show zgR (zdo [(0, 4, 56, 0, (0, 0), 0)] (N129_209 M)) 12 0 5 = _
  rw [zdo_R _ _ (by decide), G129_209_1 M]
set_option maxRecDepth 100000 in
theorem G129_210_2 (M : zM) : zgR (N129_210 M) 12 0 7 = (53, 0) := by
  show zgR (zdo [(0, 4, 56, 0, (0, 0), 0)] (N129_209 M)) 12 0 7 = _
  rw [zdo_R _ _ (by decide), G129_209_2 M]
def D20_56 : List zOp := [(0, 24, 56, 0, (0, 0), 0), (1, 4, 56, 0, (24, 56), 0), (0, 25, 56, 0, (0, 0), 0), (1, 4, 56, 1, (25, 56), 0), (0, 26, 56, 0, (0, 0), 0), (1, 4, 56, 2, (26, 56), 0), (0, 27, 56, 0, (0, 0), 0), (1, 4, 56, 3, (27, 56), 0), (0, 28, 56, 0, (0, 0), 0), (1, 4, 56, 4, (28, 56), 0)]
set_option maxRecDepth 100000 in
set_option maxHeartbeats 4000000 in
theorem C20_56 (d : Nat) (M : zM) (hn : znx M = 415) : zgo true d 20 0 [zr 4 56] [] M = some (none, zdo D20_56 M) := by
  refine (B20_0 d 56 M).trans ?_
  have hz : znx M = 415 := hn
  rw [hz]
  clear hz
  show zgo true d 20 9 [zr 4 56] [zr 24 56, zr 4 56] (znew M 24 56) = _
  generalize hM1 : znew M 24 56 = M1
  have hn1 : znx M1 = 416 := by rw [← hM1]; exact congrArg (· + 1) hn
  refine (B20_9 d 56 56 24 56 M1).trans ?_
  have hz : znx (zsR M1 4 56 0 (24, 56)) = 416 := hn1
  rw [hz]
  clear hz
  show zgo true d 20 17 [zr 4 56] [zr 25 56, zr 4 56] (znew (zsR M1 4 56 0 (24, 56)) 25 56) = _
  generalize hM2 : znew (zsR M1 4 56 0 (24, 56)) 25 56 = M2
  have hn2 : znx M2 = 417 := by rw [← hM2]; exact congrArg (· + 1) hn1
  clear hn1
  refine (B20_17 d 56 56 25 56 M2).trans ?_
  have hz : znx (zsR M2 4 56 1 (25, 56)) = 417 := hn2
  rw [hz]
  clear hz
  show zgo true d 20 25 [zr 4 56] [zr 26 56, zr 4 56] (znew (zsR M2 4 56 1 (25, 56)) 26 56) = _
  generalize hM3 : znew (zsR M2 4 56 1 (25, 56)) 26 56 = M3
  have hn3 : znx M3 = 418 := by rw [← hM3]; exact congrArg (· + 1) hn2
  clear hn2
  refine (B20_25 d 56 56 26 56 M3).trans ?_
  show zgo true d 20 28 [zr 4 56] [] (zsR M3 4 56 2 (26, 56)) = _
  generalize hM4 : zsR M3 4 56 2 (26, 56) = M4
  have hn4 : znx M4 = 418 := by rw [← hM4]; exact hn3
  clear hn3
  refine (B20_28 d 56 M4).trans ?_
  have hz : znx M4 = 418 := hn4
  rw [hz]
  clear hz
  show zgo true d 20 33 [zr 4 56] [zr 27 56, zr 4 56] (znew M4 27 56) = _
  generalize hM5 : znew M4 27 56 = M5
  have hn5 : znx M5 = 419 := by rw [← hM5]; exact congrArg (· + 1) hn4
  clear hn4
  refine (B20_33 d 56 56 27 56 M5).trans ?_
  have hz : znx (zsR M5 4 56 3 (27, 56)) = 419 := hn5
  rw [hz]
  clear hz
  show zgo true d 20 41 [zr 4 56] [zr 28 56, zr 4 56] (znew (zsR M5 4 56 3 (27, 56)) 28 56) = _
  generalize hM6 : znew (zsR M5 4 56 3 (27, 56)) 28 56 = M6
  have hn6 : znx M6 = 420 := by rw [← hM6]; exact congrArg (· + 1) hn5
  clear hn5
  refine (B20_41 d 56 56 28 56 M6).trans ?_
  generalize hM7 : zsR M6 4 56 4 (28, 56) = M7
  have hn7 : znx M7 = 420 := by rw [← hM7]; exact hn6
  clear hn6
  subst hM7 hM6 hM5 hM4 hM3 hM2 hM1
  rfl
def N129_211 (M : zM) : zM := zdo D20_56 (N129_210 M)
set_option maxRecDepth 100000 in
theorem T129_221 (d : Nat) (M : zM) (hn : znx M = 1) : zgo true (d + 3) 129 180 [zr 12 0, zi 56] [zr 4 56, zi 56, zr 51 0] (N129_210 M) = zgo true (d + 3) 129 184 [zr 12 0, zi 56] [zr 4 56, zi 56, zr 51 0] (N129_211 M) := by
  have hX : znx (N129_210 M) = 415 := H129_210 M hn
  have hf0 : zgR (N129_210 M) 12 0 4 = (50, 0) := G129_210_0 M
  have hf1 : zgR (N129_210 M) 12 0 5 = (51, 0) := G129_210_1 M
  have hf2 : zgR (N129_210 M) 12 0 7 = (53, 0) := G129_210_2 M
  generalize hN : N129_210 M = X at hX hf0 hf1 hf2 ⊢
  refine (B129_180 (d + 2) 56 56 56 X).trans ?_
  show Option.bind (zgo true (d + 2) 20 0 [zr 4 56] [] (X)) _ = _
  refine zbind_of (C20_56 (d + 2) _ hX) ?_
  show zgo true (d + 3) 129 184 [zr 12 0, zi 56] [zr 4 56, zi 56, zr 51 0] (zdo D20_56 (X)) = _
  subst hN
  rfl
theorem H129_211 (M : zM) (hn : znx M = 1) : znx (N129_211 M) = 420 := by
  show znx (zdo D20_56 (N129_210 M)) = _
  rw [zdo_nx, H129_210 M hn]
  rfl
set_option maxRecDepth 100000 in
theorem G129_211_0 (M : zM) : zgR (N129_211 M) 12 0 4 = (50, 0) := by
  show zgR (zdo D20_56 (N129_210 M)) 12 0 4 = _
  rw [zdo_R _ _ (by decide), G129_210_0 M]
set_option maxRecDepth 100000 in
theorem G129_211_1 (M : zM) : zgR (N129_211 M) 12 0 5 = (51, 0) := by
  show zgR (zdo D20_56 (N129_210 M)) 12 0 5 = _
  rw [zdo_R _ _ (by decide), G129_210_1 M]
set_option maxRecDepth 100000 in
theorem G129_211_2 (M : zM) : zgR (N129_211 M) 12 0 7 = (53, 0) := by
  show zgR (zdo D20_56 (N129_210 M)) 12 0 7 = _
  rw [zdo_R _ _ (by decide), G129_210_2 M]
def N129_212 (M : zM) : zM := zdo [(1, 51, 0, 56, (4, 56), 0)] (N129_211 M)
set_option maxRecDepth 100000 in
theorem T129_222 (d : Nat) (M : zM) (hn : znx M = 1) : zgo true (d + 3) 129 184 [zr 12 0, zi 56] [zr 4 56, zi 56, zr 51 0] (N129_211 M) = zgo true (d + 3) 129 163 [zr 12 0, zi 57] [] (N129_212 M) := by
  have hX : znx (N129_211 M) = 420 := H129_211 M hn
  have hf0 : zgR (N129_211 M) 12 0 4 = (50, 0) := G129_211_0 M
  have hf1 : zgR (N129_211 M) 12 0 5 = (51, 0) := G129_211_1 M
  have hf2 : zgR (N129_211 M) 12 0 7 = (53, 0) := G129_211_2 M
  generalize hN : N129_211 M = X at hX hf0 hf1 hf2 ⊢
  refine (B129_184 (d + 3) 56 56 56 X).trans ?_
  show zgo true (d + 3) 129 163 [zr 12 0, zi 57] [] (zsR X 51 0 ((56 : Int32).toNatClampNeg) (4, 56)) = _
  rw [show zsR X 51 0 ((56 : Int32).toNatClampNeg) (4, 56) = zdo [(1, 51, 0, 56, (4, 56), 0)] X from rfl]
  subst hN
  rfl
theorem H129_212 (M : zM) (hn : znx M = 1) : znx (N129_212 M) = 420 := by
  show znx (zdo [(1, 51, 0, 56, (4, 56), 0)] (N129_211 M)) = _
  rw [zdo_nx, H129_211 M hn]
  rfl
set_option maxRecDepth 100000 in
theorem G129_212_0 (M : zM) : zgR (N129_212 M) 12 0 4 = (50, 0) := by
  show zgR (zdo [(1, 51, 0, 56, (4, 56), 0)] (N129_211 M)) 12 0 4 = _
  rw [zdo_R _ _ (by decide), G129_211_0 M]
set_option maxRecDepth 100000 in
theorem G129_212_1 (M : zM) : zgR (N129_212 M) 12 0 5 = (51, 0) := by
  show zgR (zdo [(1, 51, 0, 56, (4, 56), 0)] (N129_211 M)) 12 0 5 = _
  rw [zdo_R _ _ (by decide), G129_211_1 M]
set_option maxRecDepth 100000 in
theorem G129_212_2 (M : zM) : zgR (N129_212 M) 12 0 7 = (53, 0) := by
  show zgR (zdo [(1, 51, 0, 56, (4, 56), 0)] (N129_211 M)) 12 0 7 = _
  rw [zdo_R _ _ (by decide), G129_211_2 M]
def N129_213 (M : zM) : zM := zdo [(0, 4, 57, 0, (0, 0), 0)] (N129_212 M)
set_option maxRecDepth 100000 in
theorem T129_223 (d : Nat) (M : zM) (hn : znx M = 1) : zgo true (d + 3) 129 163 [zr 12 0, zi 57] [] (N129_212 M) = zgo true (d + 3) 129 180 [zr 12 0, zi 57] [zr 4 57, zi 57, zr 51 0] (N129_213 M) := by
  have hX : znx (N129_212 M) = 420 := H129_212 M hn
  have hf0 : zgR (N129_212 M) 12 0 4 = (50, 0) := G129_212_0 M
  have hf1 : zgR (N129_212 M) 12 0 5 = (51, 0) := G129_212_1 M
  have hf2 : zgR (N129_212 M) 12 0 7 = (53, 0) := G129_212_2 M
  generalize hN : N129_212 M = X at hX hf0 hf1 hf2 ⊢
  refine (B129_163 (d + 3) 57 X).trans ?_
  rw [show zgR (X) 12 0 5 = (51, 0) from hf1]
  have hz : znx X = 420 := hX
  rw [hz]
  clear hz
  show zgo true (d + 3) 129 180 [zr 12 0, zi 57] [zr 4 57, zi 57, zr 51 0] (znew X 4 57) = _
  rw [show znew X 4 57 = zdo [(0, 4, 57, 0, (0, 0), 0)] X from rfl]
  subst hN
  rfl
theorem H129_213 (M : zM) (hn : znx M = 1) : znx (N129_213 M) = 421 := by
  show znx (zdo [(0, 4, 57, 0, (0, 0), 0)] (N129_212 M)) = _
  rw [zdo_nx, H129_212 M hn]
  rfl
set_option maxRecDepth 100000 in
theorem G129_213_0 (M : zM) : zgR (N129_213 M) 12 0 4 = (50, 0) := by
  show zgR (zdo [(0, 4, 57, 0, (0, 0), 0)] (N129_212 M)) 12 0 4 = _
  rw [zdo_R _ _ (by decide), G129_212_0 M]
set_option maxRecDepth 100000 in
theorem G129_213_1 (M : zM) : zgR (N129_213 M) 12 0 5 = (51, 0) := by
  show zgR (zdo [(0, 4, 57, 0, (0, 0), 0)] (N129_212 M)) 12 0 5 = _
  rw [zdo_R _ _ (by decide), G129_212_1 M]
set_option maxRecDepth 100000 in
theorem G129_213_2 (M : zM) : zgR (N129_213 M) 12 0 7 = (53, 0) := by
  show zgR (zdo [(0, 4, 57, 0, (0, 0), 0)] (N129_212 M)) 12 0 7 = _
  rw [zdo_R _ _ (by decide), G129_212_2 M]
def D20_57 : List zOp := [(0, 24, 57, 0, (0, 0), 0), (1, 4, 57, 0, (24, 57), 0), (0, 25, 57, 0, (0, 0), 0), (1, 4, 57, 1, (25, 57), 0), (0, 26, 57, 0, (0, 0), 0), (1, 4, 57, 2, (26, 57), 0), (0, 27, 57, 0, (0, 0), 0), (1, 4, 57, 3, (27, 57), 0), (0, 28, 57, 0, (0, 0), 0), (1, 4, 57, 4, (28, 57), 0)]
set_option maxRecDepth 100000 in
set_option maxHeartbeats 4000000 in
theorem C20_57 (d : Nat) (M : zM) (hn : znx M = 421) : zgo true d 20 0 [zr 4 57] [] M = some (none, zdo D20_57 M) := by
  refine (B20_0 d 57 M).trans ?_
  have hz : znx M = 421 := hn
  rw [hz]
  clear hz
  show zgo true d 20 9 [zr 4 57] [zr 24 57, zr 4 57] (znew M 24 57) = _
  generalize hM1 : znew M 24 57 = M1
  have hn1 : znx M1 = 422 := by rw [← hM1]; exact congrArg (· + 1) hn
  refine (B20_9 d 57 57 24 57 M1).trans ?_
  have hz : znx (zsR M1 4 57 0 (24, 57)) = 422 := hn1
  rw [hz]
  clear hz
  show zgo true d 20 17 [zr 4 57] [zr 25 57, zr 4 57] (znew (zsR M1 4 57 0 (24, 57)) 25 57) = _
  generalize hM2 : znew (zsR M1 4 57 0 (24, 57)) 25 57 = M2
  have hn2 : znx M2 = 423 := by rw [← hM2]; exact congrArg (· + 1) hn1
  clear hn1
  refine (B20_17 d 57 57 25 57 M2).trans ?_
  have hz : znx (zsR M2 4 57 1 (25, 57)) = 423 := hn2
  rw [hz]
  clear hz
  show zgo true d 20 25 [zr 4 57] [zr 26 57, zr 4 57] (znew (zsR M2 4 57 1 (25, 57)) 26 57) = _
  generalize hM3 : znew (zsR M2 4 57 1 (25, 57)) 26 57 = M3
  have hn3 : znx M3 = 424 := by rw [← hM3]; exact congrArg (· + 1) hn2
  clear hn2
  refine (B20_25 d 57 57 26 57 M3).trans ?_
  show zgo true d 20 28 [zr 4 57] [] (zsR M3 4 57 2 (26, 57)) = _
  generalize hM4 : zsR M3 4 57 2 (26, 57) = M4
  have hn4 : znx M4 = 424 := by rw [← hM4]; exact hn3
  clear hn3
  refine (B20_28 d 57 M4).trans ?_
  have hz : znx M4 = 424 := hn4
  rw [hz]
  clear hz
  show zgo true d 20 33 [zr 4 57] [zr 27 57, zr 4 57] (znew M4 27 57) = _
  generalize hM5 : znew M4 27 57 = M5
  have hn5 : znx M5 = 425 := by rw [← hM5]; exact congrArg (· + 1) hn4
  clear hn4
  refine (B20_33 d 57 57 27 57 M5).trans ?_
  have hz : znx (zsR M5 4 57 3 (27, 57)) = 425 := hn5
  rw [hz]
  clear hz
  show zgo true d 20 41 [zr 4 57] [zr 28 57, zr 4 57] (znew (zsR M5 4 57 3 (27, 57)) 28 57) = _
  generalize hM6 : znew (zsR M5 4 57 3 (27, 57)) 28 57 = M6
  have hn6 : znx M6 = 426 := by rw [← hM6]; exact congrArg (· + 1) hn5
  clear hn5
  refine (B20_41 d 57 57 28 57 M6).trans ?_
  generalize hM7 : zsR M6 4 57 4 (28, 57) = M7
  have hn7 : znx M7 = 426 := by rw [← hM7]; exact hn6
  clear hn6
  subst hM7 hM6 hM5 hM4 hM3 hM2 hM1
  rfl
def N129_214 (M : zM) : zM := zdo D20_57 (N129_213 M)
set_option maxRecDepth 100000 in
theorem T129_224 (d : Nat) (M : zM) (hn : znx M = 1) : zgo true (d + 3) 129 180 [zr 12 0, zi 57] [zr 4 57, zi 57, zr 51 0] (N129_213 M) = zgo true (d + 3) 129 184 [zr 12 0, zi 57] [zr 4 57, zi 57, zr 51 0] (N129_214 M) := by
  have hX : znx (N129_213 M) = 421 := H129_213 M hn
  have hf0 : zgR (N129_213 M) 12 0 4 = (50, 0) := G129_213_0 M
  have hf1 : zgR (N129_213 M) 12 0 5 = (51, 0) := G129_213_1 M
  have hf2 : zgR (N129_213 M) 12 0 7 = (53, 0) := G129_213_2 M
  generalize hN : N129_213 M = X at hX hf0 hf1 hf2 ⊢
  refine (B129_180 (d + 2) 57 57 57 X).trans ?_
  show Option.bind (zgo true (d + 2) 20 0 [zr 4 57] [] (X)) _ = _
  refine zbind_of (C20_57 (d + 2) _ hX) ?_
  show zgo true (d + 3) 129 184 [zr 12 0, zi 57] [zr 4 57, zi 57, zr 51 0] (zdo D20_57 (X)) = _
  subst hN
  rfl
theorem H129_214 (M : zM) (hn : znx M = 1) : znx (N129_214 M) = 426 := by
  show znx (zdo D20_57 (N129_213 M)) = _
  rw [zdo_nx, H129_213 M hn]
  rfl
set_option maxRecDepth 100000 in
theorem G129_214_0 (M : zM) : zgR (N129_214 M) 12 0 4 = (50, 0) := by
  show zgR (zdo D20_57 (N129_213 M)) 12 0 4 = _
  rw [zdo_R _ _ (by decide), G129_213_0 M]
set_option maxRecDepth 100000 in
theorem G129_214_1 (M : zM) : zgR (N129_214 M) 12 0 5 = (51, 0) := by
  show zgR (zdo D20_57 (N129_213 M)) 12 0 5 = _
  rw [zdo_R _ _ (by decide), G129_213_1 M]
set_option maxRecDepth 100000 in
theorem G129_214_2 (M : zM) : zgR (N129_214 M) 12 0 7 = (53, 0) := by
  show zgR (zdo D20_57 (N129_213 M)) 12 0 7 = _
  rw [zdo_R _ _ (by decide), G129_213_2 M]
def N129_215 (M : zM) : zM := zdo [(1, 51, 0, 57, (4, 57), 0)] (N129_214 M)
set_option maxRecDepth 100000 in
theorem T129_225 (d : Nat) (M : zM) (hn : znx M = 1) : zgo true (d + 3) 129 184 [zr 12 0, zi 57] [zr 4 57, zi 57, zr 51 0] (N129_214 M) = zgo true (d + 3) 129 163 [zr 12 0, zi 58] [] (N129_215 M) := by
  have hX : znx (N129_214 M) = 426 := H129_214 M hn
  have hf0 : zgR (N129_214 M) 12 0 4 = (50, 0) := G129_214_0 M
  have hf1 : zgR (N129_214 M) 12 0 5 = (51, 0) := G129_214_1 M
  have hf2 : zgR (N129_214 M) 12 0 7 = (53, 0) := G129_214_2 M
  generalize hN : N129_214 M = X at hX hf0 hf1 hf2 ⊢
  refine (B129_184 (d + 3) 57 57 57 X).trans ?_
  show zgo true (d + 3) 129 163 [zr 12 0, zi 58] [] (zsR X 51 0 ((57 : Int32).toNatClampNeg) (4, 57)) = _
  rw [show zsR X 51 0 ((57 : Int32).toNatClampNeg) (4, 57) = zdo [(1, 51, 0, 57, (4, 57), 0)] X from rfl]
  subst hN
  rfl
theorem H129_215 (M : zM) (hn : znx M = 1) : znx (N129_215 M) = 426 := by
  show znx (zdo [(1, 51, 0, 57, (4, 57), 0)] (N129_214 M)) = _
  rw [zdo_nx, H129_214 M hn]
  rfl
set_option maxRecDepth 100000 in
theorem G129_215_0 (M : zM) : zgR (N129_215 M) 12 0 4 = (50, 0) := by
  show zgR (zdo [(1, 51, 0, 57, (4, 57), 0)] (N129_214 M)) 12 0 4 = _
  rw [zdo_R _ _ (by decide), G129_214_0 M]
set_option maxRecDepth 100000 in
theorem G129_215_1 (M : zM) : zgR (N129_215 M) 12 0 5 = (51, 0) := by
  show zgR (zdo [(1, 51, 0, 57, (4, 57), 0)] (N129_214 M)) 12 0 5 = _
  rw [zdo_R _ _ (by decide), G129_214_1 M]
set_option maxRecDepth 100000 in
theorem G129_215_2 (M : zM) : zgR (N129_215 M) 12 0 7 = (53, 0) := by
  show zgR (zdo [(1, 51, 0, 57, (4, 57), 0)] (N129_214 M)) 12 0 7 = _
  rw [zdo_R _ _ (by decide), G129_214_2 M]
def N129_216 (M : zM) : zM := zdo [(0, 4, 58, 0, (0, 0), 0)] (N129_215 M)
set_option maxRecDepth 100000 in
theorem T129_226 (d : Nat) (M : zM) (hn : znx M = 1) : zgo true (d + 3) 129 163 [zr 12 0, zi 58] [] (N129_215 M) = zgo true (d + 3) 129 180 [zr 12 0, zi 58] [zr 4 58, zi 58, zr 51 0] (N129_216 M) := by
  have hX : znx (N129_215 M) = 426 := H129_215 M hn
  have hf0 : zgR (N129_215 M) 12 0 4 = (50, 0) := G129_215_0 M
  have hf1 : zgR (N129_215 M) 12 0 5 = (51, 0) := G129_215_1 M
  have hf2 : zgR (N129_215 M) 12 0 7 = (53, 0) := G129_215_2 M
  generalize hN : N129_215 M = X at hX hf0 hf1 hf2 ⊢
  refine (B129_163 (d + 3) 58 X).trans ?_
  rw [show zgR (X) 12 0 5 = (51, 0) from hf1]
  have hz : znx X = 426 := hX
  rw [hz]
  clear hz
  show zgo true (d + 3) 129 180 [zr 12 0, zi 58] [zr 4 58, zi 58, zr 51 0] (znew X 4 58) = _
  rw [show znew X 4 58 = zdo [(0, 4, 58, 0, (0, 0), 0)] X from rfl]
  subst hN
  rfl
theorem H129_216 (M : zM) (hn : znx M = 1) : znx (N129_216 M) = 427 := by
  show znx (zdo [(0, 4, 58, 0, (0, 0), 0)] (N129_215 M)) = _
  rw [zdo_nx, H129_215 M hn]
  rfl
set_option maxRecDepth 100000 in
theorem G129_216_0 (M : zM) : zgR (N129_216 M) 12 0 4 = (50, 0) := by
  show zgR (zdo [(0, 4, 58, 0, (0, 0), 0)] (N129_215 M)) 12 0 4 = _
  rw [zdo_R _ _ (by decide), G129_215_0 M]
set_option maxRecDepth 100000 in
theorem G129_216_1 (M : zM) : zgR (N129_216 M) 12 0 5 = (51, 0) := by
  show zgR (zdo [(0, 4, 58, 0, (0, 0), 0)] (N129_215 M)) 12 0 5 = _
  rw [zdo_R _ _ (by decide), G129_215_1 M]
set_option maxRecDepth 100000 in
theorem G129_216_2 (M : zM) : zgR (N129_216 M) 12 0 7 = (53, 0) := by
  show zgR (zdo [(0, 4, 58, 0, (0, 0), 0)] (N129_215 M)) 12 0 7 = _
  rw [zdo_R _ _ (by decide), G129_215_2 M]
def D20_58 : List zOp := [(0, 24, 58, 0, (0, 0), 0), (1, 4, 58, 0, (24, 58), 0), (0, 25, 58, 0, (0, 0), 0), (1, 4, 58, 1, (25, 58), 0), (0, 26, 58, 0, (0, 0), 0), (1, 4, 58, 2, (26, 58), 0), (0, 27, 58, 0, (0, 0), 0), (1, 4, 58, 3, (27, 58), 0), (0, 28, 58, 0, (0, 0), 0), (1, 4, 58, 4, (28, 58), 0)]
set_option maxRecDepth 100000 in
set_option maxHeartbeats 4000000 in
theorem C20_58 (d : Nat) (M : zM) (hn : znx M = 427) : zgo true d 20 0 [zr 4 58] [] M = some (none, zdo D20_58 M) := by
  refine (B20_0 d 58 M).trans ?_
  have hz : znx M = 427 := hn
  rw [hz]
  clear hz
  show zgo true d 20 9 [zr 4 58] [zr 24 58, zr 4 58] (znew M 24 58) = _
  generalize hM1 : znew M 24 58 = M1
  have hn1 : znx M1 = 428 := by rw [← hM1]; exact congrArg (· + 1) hn
  refine (B20_9 d 58 58 24 58 M1).trans ?_
  have hz : znx (zsR M1 4 58 0 (24, 58)) = 428 := hn1
  rw [hz]
  clear hz
  show zgo true d 20 17 [zr 4 58] [zr 25 58, zr 4 58] (znew (zsR M1 4 58 0 (24, 58)) 25 58) = _
  generalize hM2 : znew (zsR M1 4 58 0 (24, 58)) 25 58 = M2
  have hn2 : znx M2 = 429 := by rw [← hM2]; exact congrArg (· + 1) hn1
  clear hn1
  refine (B20_17 d 58 58 25 58 M2).trans ?_
  have hz : znx (zsR M2 4 58 1 (25, 58)) = 429 := hn2
  rw [hz]
  clear hz
  show zgo true d 20 25 [zr 4 58] [zr 26 58, zr 4 58] (znew (zsR M2 4 58 1 (25, 58)) 26 58) = _
  generalize hM3 : znew (zsR M2 4 58 1 (25, 58)) 26 58 = M3
  have hn3 : znx M3 = 430 := by rw [← hM3]; exact congrArg (· + 1) hn2
  clear hn2
  refine (B20_25 d 58 58 26 58 M3).trans ?_
  show zgo true d 20 28 [zr 4 58] [] (zsR M3 4 58 2 (26, 58)) = _
  generalize hM4 : zsR M3 4 58 2 (26, 58) = M4
  have hn4 : znx M4 = 430 := by rw [← hM4]; exact hn3
  clear hn3
  refine (B20_28 d 58 M4).trans ?_
  have hz : znx M4 = 430 := hn4
  rw [hz]
  clear hz
  show zgo true d 20 33 [zr 4 58] [zr 27 58, zr 4 58] (znew M4 27 58) = _
  generalize hM5 : znew M4 27 58 = M5
  have hn5 : znx M5 = 431 := by rw [← hM5]; exact congrArg (· + 1) hn4
  clear hn4
  refine (B20_33 d 58 58 27 58 M5).trans ?_
  have hz : znx (zsR M5 4 58 3 (27, 58)) = 431 := hn5
  rw [hz]
  clear hz
  show zgo true d 20 41 [zr 4 58] [zr 28 58, zr 4 58] (znew (zsR M5 4 58 3 (27, 58)) 28 58) = _
  generalize hM6 : znew (zsR M5 4 58 3 (27, 58)) 28 58 = M6
  have hn6 : znx M6 = 432 := by rw [← hM6]; exact congrArg (· + 1) hn5
  clear hn5
  refine (B20_41 d 58 58 28 58 M6).trans ?_
  generalize hM7 : zsR M6 4 58 4 (28, 58) = M7
  have hn7 : znx M7 = 432 := by rw [← hM7]; exact hn6
  clear hn6
  subst hM7 hM6 hM5 hM4 hM3 hM2 hM1
  rfl
def N129_217 (M : zM) : zM := zdo D20_58 (N129_216 M)
set_option maxRecDepth 100000 in
theorem T129_227 (d : Nat) (M : zM) (hn : znx M = 1) : zgo true (d + 3) 129 180 [zr 12 0, zi 58] [zr 4 58, zi 58, zr 51 0] (N129_216 M) = zgo true (d + 3) 129 184 [zr 12 0, zi 58] [zr 4 58, zi 58, zr 51 0] (N129_217 M) := by
  have hX : znx (N129_216 M) = 427 := H129_216 M hn
  have hf0 : zgR (N129_216 M) 12 0 4 = (50, 0) := G129_216_0 M
  have hf1 : zgR (N129_216 M) 12 0 5 = (51, 0) := G129_216_1 M
  have hf2 : zgR (N129_216 M) 12 0 7 = (53, 0) := G129_216_2 M
  generalize hN : N129_216 M = X at hX hf0 hf1 hf2 ⊢
  refine (B129_180 (d + 2) 58 58 58 X).trans ?_
  show Option.bind (zgo true (d + 2) 20 0 [zr 4 58] [] (X)) _ = _
  refine zbind_of (C20_58 (d + 2) _ hX) ?_
  show zgo true (d + 3) 129 184 [zr 12 0, zi 58] [zr 4 58, zi 58, zr 51 0] (zdo D20_58 (X)) = _
  subst hN
  rfl
theorem H129_217 (M : zM) (hn : znx M = 1) : znx (N129_217 M) = 432 := by
  show znx (zdo D20_58 (N129_216 M)) = _
  rw [zdo_nx, H129_216 M hn]
  rfl
set_option maxRecDepth 100000 in
theorem G129_217_0 (M : zM) : zgR (N129_217 M) 12 0 4 = (50, 0) := by
  show zgR (zdo D20_58 (N129_216 M)) 12 0 4 = _
  rw [zdo_R _ _ (by decide), G129_216_0 M]
set_option maxRecDepth 100000 in
theorem G129_217_1 (M : zM) : zgR (N129_217 M) 12 0 5 = (51, 0) := by
  show zgR (zdo D20_58 (N129_216 M)) 12 0 5 = _
  rw [zdo_R _ _ (by decide), G129_216_1 M]
set_option maxRecDepth 100000 in
theorem G129_217_2 (M : zM) : zgR (N129_217 M) 12 0 7 = (53, 0) := by
  show zgR (zdo D20_58 (N129_216 M)) 12 0 7 = _
  rw [zdo_R _ _ (by decide), G129_216_2 M]
def N129_218 (M : zM) : zM := zdo [(1, 51, 0, 58, (4, 58), 0)] (N129_217 M)
set_option maxRecDepth 100000 in
theorem T129_228 (d : Nat) (M : zM) (hn : znx M = 1) : zgo true (d + 3) 129 184 [zr 12 0, zi 58] [zr 4 58, zi 58, zr 51 0] (N129_217 M) = zgo true (d + 3) 129 163 [zr 12 0, zi 59] [] (N129_218 M) := by
  have hX : znx (N129_217 M) = 432 := H129_217 M hn
  have hf0 : zgR (N129_217 M) 12 0 4 = (50, 0) := G129_217_0 M
  have hf1 : zgR (N129_217 M) 12 0 5 = (51, 0) := G129_217_1 M
  have hf2 : zgR (N129_217 M) 12 0 7 = (53, 0) := G129_217_2 M
  generalize hN : N129_217 M = X at hX hf0 hf1 hf2 ⊢
  refine (B129_184 (d + 3) 58 58 58 X).trans ?_
  show zgo true (d + 3) 129 163 [zr 12 0, zi 59] [] (zsR X 51 0 ((58 : Int32).toNatClampNeg) (4, 58)) = _
  rw [show zsR X 51 0 ((58 : Int32).toNatClampNeg) (4, 58) = zdo [(1, 51, 0, 58, (4, 58), 0)] X from rfl]
  subst hN
  rfl
theorem H129_218 (M : zM) (hn : znx M = 1) : znx (N129_218 M) = 432 := by
  show znx (zdo [(1, 51, 0, 58, (4, 58), 0)] (N129_217 M)) = _
  rw [zdo_nx, H129_217 M hn]
  rfl
set_option maxRecDepth 100000 in
theorem G129_218_0 (M : zM) : zgR (N129_218 M) 12 0 4 = (50, 0) := by
  show zgR (zdo [(1, 51, 0, 58, (4, 58), 0)] (N129_217 M)) 12 0 4 = _
  rw [zdo_R _ _ (by decide), G129_217_0 M]
set_option maxRecDepth 100000 in
theorem G129_218_1 (M : zM) : zgR (N129_218 M) 12 0 5 = (51, 0) := by
  show zgR (zdo [(1, 51, 0, 58, (4, 58), 0)] (N129_217 M)) 12 0 5 = _
  rw [zdo_R _ _ (by decide), G129_217_1 M]
set_option maxRecDepth 100000 in
theorem G129_218_2 (M : zM) : zgR (N129_218 M) 12 0 7 = (53, 0) := by
  show zgR (zdo [(1, 51, 0, 58, (4, 58), 0)] (N129_217 M)) 12 0 7 = _
  rw [zdo_R _ _ (by decide), G129_217_2 M]
def N129_219 (M : zM) : zM := zdo [(0, 4, 59, 0, (0, 0), 0)] (N129_218 M)
set_option maxRecDepth 100000 in
theorem T129_229 (d : Nat) (M : zM) (hn : znx M = 1) : zgo true (d + 3) 129 163 [zr 12 0, zi 59] [] (N129_218 M) = zgo true (d + 3) 129 180 [zr 12 0, zi 59] [zr 4 59, zi 59, zr 51 0] (N129_219 M) := by
  have hX : znx (N129_218 M) = 432 := H129_218 M hn
  have hf0 : zgR (N129_218 M) 12 0 4 = (50, 0) := G129_218_0 M
  have hf1 : zgR (N129_218 M) 12 0 5 = (51, 0) := G129_218_1 M
  have hf2 : zgR (N129_218 M) 12 0 7 = (53, 0) := G129_218_2 M
  generalize hN : N129_218 M = X at hX hf0 hf1 hf2 ⊢
  refine (B129_163 (d + 3) 59 X).trans ?_
  rw [show zgR (X) 12 0 5 = (51, 0) from hf1]
  have hz : znx X = 432 := hX
  rw [hz]
  clear hz
  show zgo true (d + 3) 129 180 [zr 12 0, zi 59] [zr 4 59, zi 59, zr 51 0] (znew X 4 59) = _
  rw [show znew X 4 59 = zdo [(0, 4, 59, 0, (0, 0), 0)] X from rfl]
  subst hN
  rfl
theorem H129_219 (M : zM) (hn : znx M = 1) : znx (N129_219 M) = 433 := by
  show znx (zdo [(0, 4, 59, 0, (0, 0), 0)] (N129_218 M)) = _
  rw [zdo_nx, H129_218 M hn]
  rfl
set_option maxRecDepth 100000 in
theorem G129_219_0 (M : zM) : zgR (N129_219 M) 12 0 4 = (50, 0) := by
  show zgR (zdo [(0, 4, 59, 0, (0, 0), 0)] (N129_218 M)) 12 0 4 = _
  rw [zdo_R _ _ (by decide), G129_218_0 M]
set_option maxRecDepth 100000 in
theorem G129_219_1 (M : zM) : zgR (N129_219 M) 12 0 5 = (51, 0) := by
  show zgR (zdo [(0, 4, 59, 0, (0, 0), 0)] (N129_218 M)) 12 0 5 = _
  rw [zdo_R _ _ (by decide), G129_218_1 M]
set_option maxRecDepth 100000 in
theorem G129_219_2 (M : zM) : zgR (N129_219 M) 12 0 7 = (53, 0) := by
  show zgR (zdo [(0, 4, 59, 0, (0, 0), 0)] (N129_218 M)) 12 0 7 = _
  rw [zdo_R _ _ (by decide), G129_218_2 M]
def D20_59 : List zOp := [(0, 24, 59, 0, (0, 0), 0), (1, 4, 59, 0, (24, 59), 0), (0, 25, 59, 0, (0, 0), 0), (1, 4, 59, 1, (25, 59), 0), (0, 26, 59, 0, (0, 0), 0), (1, 4, 59, 2, (26, 59), 0), (0, 27, 59, 0, (0, 0), 0), (1, 4, 59, 3, (27, 59), 0), (0, 28, 59, 0, (0, 0), 0), (1, 4, 59, 4, (28, 59), 0)]
set_option maxRecDepth 100000 in
set_option maxHeartbeats 4000000 in
theorem C20_59 (d : Nat) (M : zM) (hn : znx M = 433) : zgo true d 20 0 [zr 4 59] [] M = some (none, zdo D20_59 M) := by
  refine (B20_0 d 59 M).trans ?_
  have hz : znx M = 433 := hn
  rw [hz]
  clear hz
  show zgo true d 20 9 [zr 4 59] [zr 24 59, zr 4 59] (znew M 24 59) = _
  generalize hM1 : znew M 24 59 = M1
  have hn1 : znx M1 = 434 := by rw [← hM1]; exact congrArg (· + 1) hn
  refine (B20_9 d 59 59 24 59 M1).trans ?_
  have hz : znx (zsR M1 4 59 0 (24, 59)) = 434 := hn1
  rw [hz]
  clear hz
  show zgo true d 20 17 [zr 4 59] [zr 25 59, zr 4 59] (znew (zsR M1 4 59 0 (24, 59)) 25 59) = _
  generalize hM2 : znew (zsR M1 4 59 0 (24, 59)) 25 59 = M2
  have hn2 : znx M2 = 435 := by rw [← hM2]; exact congrArg (· + 1) hn1
  clear hn1
  refine (B20_17 d 59 59 25 59 M2).trans ?_
  have hz : znx (zsR M2 4 59 1 (25, 59)) = 435 := hn2
  rw [hz]
  clear hz
  show zgo true d 20 25 [zr 4 59] [zr 26 59, zr 4 59] (znew (zsR M2 4 59 1 (25, 59)) 26 59) = _
  generalize hM3 : znew (zsR M2 4 59 1 (25, 59)) 26 59 = M3
  have hn3 : znx M3 = 436 := by rw [← hM3]; exact congrArg (· + 1) hn2
  clear hn2
  refine (B20_25 d 59 59 26 59 M3).trans ?_
  show zgo true d 20 28 [zr 4 59] [] (zsR M3 4 59 2 (26, 59)) = _
  generalize hM4 : zsR M3 4 59 2 (26, 59) = M4
  have hn4 : znx M4 = 436 := by rw [← hM4]; exact hn3
  clear hn3
  refine (B20_28 d 59 M4).trans ?_
  have hz : znx M4 = 436 := hn4
  rw [hz]
  clear hz
  show zgo true d 20 33 [zr 4 59] [zr 27 59, zr 4 59] (znew M4 27 59) = _
  generalize hM5 : znew M4 27 59 = M5
  have hn5 : znx M5 = 437 := by rw [← hM5]; exact congrArg (· + 1) hn4
  clear hn4
  refine (B20_33 d 59 59 27 59 M5).trans ?_
  have hz : znx (zsR M5 4 59 3 (27, 59)) = 437 := hn5
  rw [hz]
  clear hz
  show zgo true d 20 41 [zr 4 59] [zr 28 59, zr 4 59] (znew (zsR M5 4 59 3 (27, 59)) 28 59) = _
  generalize hM6 : znew (zsR M5 4 59 3 (27, 59)) 28 59 = M6
  have hn6 : znx M6 = 438 := by rw [← hM6]; exact congrArg (· + 1) hn5
  clear hn5
  refine (B20_41 d 59 59 28 59 M6).trans ?_
  generalize hM7 : zsR M6 4 59 4 (28, 59) = M7
  have hn7 : znx M7 = 438 := by rw [← hM7]; exact hn6
  clear hn6
  subst hM7 hM6 hM5 hM4 hM3 hM2 hM1
  rfl
def N129_220 (M : zM) : zM := zdo D20_59 (N129_219 M)
set_option maxRecDepth 100000 in
theorem T129_230 (d : Nat) (M : zM) (hn : znx M = 1) : zgo true (d + 3) 129 180 [zr 12 0, zi 59] [zr 4 59, zi 59, zr 51 0] (N129_219 M) = zgo true (d + 3) 129 184 [zr 12 0, zi 59] [zr 4 59, zi 59, zr 51 0] (N129_220 M) := by
  have hX : znx (N129_219 M) = 433 := H129_219 M hn
  have hf0 : zgR (N129_219 M) 12 0 4 = (50, 0) := G129_219_0 M
  have hf1 : zgR (N129_219 M) 12 0 5 = (51, 0) := G129_219_1 M
  have hf2 : zgR (N129_219 M) 12 0 7 = (53, 0) := G129_219_2 M
  generalize hN : N129_219 M = X at hX hf0 hf1 hf2 ⊢
  refine (B129_180 (d + 2) 59 59 59 X).trans ?_
  show Option.bind (zgo true (d + 2) 20 0 [zr 4 59] [] (X)) _ = _
  refine zbind_of (C20_59 (d + 2) _ hX) ?_
  show zgo true (d + 3) 129 184 [zr 12 0, zi 59] [zr 4 59, zi 59, zr 51 0] (zdo D20_59 (X)) = _
  subst hN
  rfl
theorem H129_220 (M : zM) (hn : znx M = 1) : znx (N129_220 M) = 438 := by
  show znx (zdo D20_59 (N129_219 M)) = _
  rw [zdo_nx, H129_219 M hn]
  rfl
set_option maxRecDepth 100000 in
theorem G129_220_0 (M : zM) : zgR (N129_220 M) 12 0 4 = (50, 0) := by
  show zgR (zdo D20_59 (N129_219 M)) 12 0 4 = _
  rw [zdo_R _ _ (by decide), G129_219_0 M]
set_option maxRecDepth 100000 in
theorem G129_220_1 (M : zM) : zgR (N129_220 M) 12 0 5 = (51, 0) := by
  show zgR (zdo D20_59 (N129_219 M)) 12 0 5 = _
  rw [zdo_R _ _ (by decide), G129_219_1 M]
set_option maxRecDepth 100000 in
theorem G129_220_2 (M : zM) : zgR (N129_220 M) 12 0 7 = (53, 0) := by
  show zgR (zdo D20_59 (N129_219 M)) 12 0 7 = _
  rw [zdo_R _ _ (by decide), G129_219_2 M]
def N129_221 (M : zM) : zM := zdo [(1, 51, 0, 59, (4, 59), 0)] (N129_220 M)
set_option maxRecDepth 100000 in
theorem T129_231 (d : Nat) (M : zM) (hn : znx M = 1) : zgo true (d + 3) 129 184 [zr 12 0, zi 59] [zr 4 59, zi 59, zr 51 0] (N129_220 M) = zgo true (d + 3) 129 163 [zr 12 0, zi 60] [] (N129_221 M) := by
  have hX : znx (N129_220 M) = 438 := H129_220 M hn
  have hf0 : zgR (N129_220 M) 12 0 4 = (50, 0) := G129_220_0 M
  have hf1 : zgR (N129_220 M) 12 0 5 = (51, 0) := G129_220_1 M
  have hf2 : zgR (N129_220 M) 12 0 7 = (53, 0) := G129_220_2 M
  generalize hN : N129_220 M = X at hX hf0 hf1 hf2 ⊢
  refine (B129_184 (d + 3) 59 59 59 X).trans ?_
  show zgo true (d + 3) 129 163 [zr 12 0, zi 60] [] (zsR X 51 0 ((59 : Int32).toNatClampNeg) (4, 59)) = _
  rw [show zsR X 51 0 ((59 : Int32).toNatClampNeg) (4, 59) = zdo [(1, 51, 0, 59, (4, 59), 0)] X from rfl]
  subst hN
  rfl
theorem H129_221 (M : zM) (hn : znx M = 1) : znx (N129_221 M) = 438 := by
  show znx (zdo [(1, 51, 0, 59, (4, 59), 0)] (N129_220 M)) = _
  rw [zdo_nx, H129_220 M hn]
  rfl
set_option maxRecDepth 100000 in
theorem G129_221_0 (M : zM) : zgR (N129_221 M) 12 0 4 = (50, 0) := by
  show zgR (zdo [(1, 51, 0, 59, (4, 59), 0)] (N129_220 M)) 12 0 4 = _
  rw [zdo_R _ _ (by decide), G129_220_0 M]
set_option maxRecDepth 100000 in
theorem G129_221_1 (M : zM) : zgR (N129_221 M) 12 0 5 = (51, 0) := by
  show zgR (zdo [(1, 51, 0, 59, (4, 59), 0)] (N129_220 M)) 12 0 5 = _
  rw [zdo_R _ _ (by decide), G129_220_1 M]
set_option maxRecDepth 100000 in
theorem G129_221_2 (M : zM) : zgR (N129_221 M) 12 0 7 = (53, 0) := by
  show zgR (zdo [(1, 51, 0, 59, (4, 59), 0)] (N129_220 M)) 12 0 7 = _
  rw [zdo_R _ _ (by decide), G129_220_2 M]
set_option maxRecDepth 100000 in
theorem T129_232 (d : Nat) (M : zM) (hn : znx M = 1) : zgo true (d + 3) 129 163 [zr 12 0, zi 60] [] (N129_221 M) = zgo true (d + 3) 129 193 [zr 12 0, zi 0] [] (N129_221 M) := by
  have hX : znx (N129_221 M) = 438 := H129_221 M hn
  have hf0 : zgR (N129_221 M) 12 0 4 = (50, 0) := G129_221_0 M
  have hf1 : zgR (N129_221 M) 12 0 5 = (51, 0) := G129_221_1 M
  have hf2 : zgR (N129_221 M) 12 0 7 = (53, 0) := G129_221_2 M
  generalize hN : N129_221 M = X at hX hf0 hf1 hf2 ⊢
  refine (B129_163 (d + 3) 60 X).trans ?_
  rw [show zgR (X) 12 0 5 = (51, 0) from hf1]
  show zgo true (d + 3) 129 193 [zr 12 0, zi 0] [] (X) = _
  subst hN
  rfl
def N129_222 (M : zM) : zM := zdo [(0, 9, 0, 0, (0, 0), 0)] (N129_221 M)
set_option maxRecDepth 100000 in
theorem T129_233 (d : Nat) (M : zM) (hn : znx M = 1) : zgo true (d + 3) 129 193 [zr 12 0, zi 0] [] (N129_221 M) = zgo true (d + 3) 129 210 [zr 12 0, zi 0] [zr 9 0, zi 0, zr 53 0] (N129_222 M) := by
  have hX : znx (N129_221 M) = 438 := H129_221 M hn
  have hf0 : zgR (N129_221 M) 12 0 4 = (50, 0) := G129_221_0 M
  have hf1 : zgR (N129_221 M) 12 0 5 = (51, 0) := G129_221_1 M
  have hf2 : zgR (N129_221 M) 12 0 7 = (53, 0) := G129_221_2 M
  generalize hN : N129_221 M = X at hX hf0 hf1 hf2 ⊢
  refine (B129_193 (d + 3) 0 X).trans ?_
  rw [show zgR (X) 12 0 7 = (53, 0) from hf2]
  have hz : znx X = 438 := hX
  rw [hz]
  clear hz
  show zgo true (d + 3) 129 210 [zr 12 0, zi 0] [zr 9 0, zi 0, zr 53 0] (znew X 9 0) = _
  rw [show znew X 9 0 = zdo [(0, 9, 0, 0, (0, 0), 0)] X from rfl]
  subst hN
  rfl
theorem H129_222 (M : zM) (hn : znx M = 1) : znx (N129_222 M) = 439 := by
  show znx (zdo [(0, 9, 0, 0, (0, 0), 0)] (N129_221 M)) = _
  rw [zdo_nx, H129_221 M hn]
  rfl
set_option maxRecDepth 100000 in
theorem G129_222_0 (M : zM) : zgR (N129_222 M) 12 0 4 = (50, 0) := by
  show zgR (zdo [(0, 9, 0, 0, (0, 0), 0)] (N129_221 M)) 12 0 4 = _
  rw [zdo_R _ _ (by decide), G129_221_0 M]
set_option maxRecDepth 100000 in
theorem G129_222_1 (M : zM) : zgR (N129_222 M) 12 0 5 = (51, 0) := by
  show zgR (zdo [(0, 9, 0, 0, (0, 0), 0)] (N129_221 M)) 12 0 5 = _
  rw [zdo_R _ _ (by decide), G129_221_1 M]
set_option maxRecDepth 100000 in
theorem G129_222_2 (M : zM) : zgR (N129_222 M) 12 0 7 = (53, 0) := by
  show zgR (zdo [(0, 9, 0, 0, (0, 0), 0)] (N129_221 M)) 12 0 7 = _
  rw [zdo_R _ _ (by decide), G129_221_2 M]
def D93_0 : List zOp := [(0, 45, 0, 0, (0, 0), 0), (1, 9, 0, 0, (45, 0), 0)]
set_option maxRecDepth 100000 in
set_option maxHeartbeats 4000000 in
theorem C93_0 (d : Nat) (M : zM) (hn : znx M = 439) : zgo true d 93 0 [zr 9 0] [] M = some (none, zdo D93_0 M) := by
  refine (B93_0 d 0 M).trans ?_
  have hz : znx M = 439 := hn
  rw [hz]
  clear hz
  show zgo true d 93 9 [zr 9 0] [zr 45 0, zr 9 0] (znew M 45 0) = _
  generalize hM1 : znew M 45 0 = M1
  have hn1 : znx M1 = 440 := by rw [← hM1]; exact congrArg (· + 1) hn
  refine (B93_9 d 0 0 45 0 M1).trans ?_
  generalize hM2 : zsR M1 9 0 0 (45, 0) = M2
  have hn2 : znx M2 = 440 := by rw [← hM2]; exact hn1
  clear hn1
  subst hM2 hM1
  rfl
def N129_223 (M : zM) : zM := zdo D93_0 (N129_222 M)
set_option maxRecDepth 100000 in
theorem T129_234 (d : Nat) (M : zM) (hn : znx M = 1) : zgo true (d + 3) 129 210 [zr 12 0, zi 0] [zr 9 0, zi 0, zr 53 0] (N129_222 M) = zgo true (d + 3) 129 214 [zr 12 0, zi 0] [zr 9 0, zi 0, zr 53 0] (N129_223 M) := by
  have hX : znx (N129_222 M) = 439 := H129_222 M hn
  have hf0 : zgR (N129_222 M) 12 0 4 = (50, 0) := G129_222_0 M
  have hf1 : zgR (N129_222 M) 12 0 5 = (51, 0) := G129_222_1 M
  have hf2 : zgR (N129_222 M) 12 0 7 = (53, 0) := G129_222_2 M
  generalize hN : N129_222 M = X at hX hf0 hf1 hf2 ⊢
  refine (B129_210 (d + 2) 0 0 0 X).trans ?_
  show Option.bind (zgo true (d + 2) 93 0 [zr 9 0] [] (X)) _ = _
  refine zbind_of (C93_0 (d + 2) _ hX) ?_
  show zgo true (d + 3) 129 214 [zr 12 0, zi 0] [zr 9 0, zi 0, zr 53 0] (zdo D93_0 (X)) = _
  subst hN
  rfl
theorem H129_223 (M : zM) (hn : znx M = 1) : znx (N129_223 M) = 440 := by
  show znx (zdo D93_0 (N129_222 M)) = _
  rw [zdo_nx, H129_222 M hn]
  rfl
set_option maxRecDepth 100000 in
theorem G129_223_0 (M : zM) : zgR (N129_223 M) 12 0 4 = (50, 0) := by
  show zgR (zdo D93_0 (N129_222 M)) 12 0 4 = _
  rw [zdo_R _ _ (by decide), G129_222_0 M]
set_option maxRecDepth 100000 in
theorem G129_223_1 (M : zM) : zgR (N129_223 M) 12 0 5 = (51, 0) := by
  show zgR (zdo D93_0 (N129_222 M)) 12 0 5 = _
  rw [zdo_R _ _ (by decide), G129_222_1 M]
set_option maxRecDepth 100000 in
theorem G129_223_2 (M : zM) : zgR (N129_223 M) 12 0 7 = (53, 0) := by
  show zgR (zdo D93_0 (N129_222 M)) 12 0 7 = _
  rw [zdo_R _ _ (by decide), G129_222_2 M]
def N129_224 (M : zM) : zM := zdo [(1, 53, 0, 0, (9, 0), 0)] (N129_223 M)
set_option maxRecDepth 100000 in
theorem T129_235 (d : Nat) (M : zM) (hn : znx M = 1) : zgo true (d + 3) 129 214 [zr 12 0, zi 0] [zr 9 0, zi 0, zr 53 0] (N129_223 M) = zgo true (d + 3) 129 193 [zr 12 0, zi 1] [] (N129_224 M) := by
  have hX : znx (N129_223 M) = 440 := H129_223 M hn
  have hf0 : zgR (N129_223 M) 12 0 4 = (50, 0) := G129_223_0 M
  have hf1 : zgR (N129_223 M) 12 0 5 = (51, 0) := G129_223_1 M
  have hf2 : zgR (N129_223 M) 12 0 7 = (53, 0) := G129_223_2 M
  generalize hN : N129_223 M = X at hX hf0 hf1 hf2 ⊢
  refine (B129_214 (d + 3) 0 0 0 X).trans ?_
  show zgo true (d + 3) 129 193 [zr 12 0, zi 1] [] (zsR X 53 0 ((0 : Int32).toNatClampNeg) (9, 0)) = _
  rw [show zsR X 53 0 ((0 : Int32).toNatClampNeg) (9, 0) = zdo [(1, 53, 0, 0, (9, 0), 0)] X from rfl]
  subst hN
  rfl
theorem H129_224 (M : zM) (hn : znx M = 1) : znx (N129_224 M) = 440 := by
  show znx (zdo [(1, 53, 0, 0, (9, 0), 0)] (N129_223 M)) = _
  rw [zdo_nx, H129_223 M hn]
  rfl
set_option maxRecDepth 100000 in
theorem G129_224_0 (M : zM) : zgR (N129_224 M) 12 0 4 = (50, 0) := by
  show zgR (zdo [(1, 53, 0, 0, (9, 0), 0)] (N129_223 M)) 12 0 4 = _
  rw [zdo_R _ _ (by decide), G129_223_0 M]
set_option maxRecDepth 100000 in
theorem G129_224_1 (M : zM) : zgR (N129_224 M) 12 0 5 = (51, 0) := by
  show zgR (zdo [(1, 53, 0, 0, (9, 0), 0)] (N129_223 M)) 12 0 5 = _
  rw [zdo_R _ _ (by decide), G129_223_1 M]
set_option maxRecDepth 100000 in
theorem G129_224_2 (M : zM) : zgR (N129_224 M) 12 0 7 = (53, 0) := by
  show zgR (zdo [(1, 53, 0, 0, (9, 0), 0)] (N129_223 M)) 12 0 7 = _
  rw [zdo_R _ _ (by decide), G129_223_2 M]
def N129_225 (M : zM) : zM := zdo [(0, 9, 1, 0, (0, 0), 0)] (N129_224 M)
set_option maxRecDepth 100000 in
theorem T129_236 (d : Nat) (M : zM) (hn : znx M = 1) : zgo true (d + 3) 129 193 [zr 12 0, zi 1] [] (N129_224 M) = zgo true (d + 3) 129 210 [zr 12 0, zi 1] [zr 9 1, zi 1, zr 53 0] (N129_225 M) := by
  have hX : znx (N129_224 M) = 440 := H129_224 M hn
  have hf0 : zgR (N129_224 M) 12 0 4 = (50, 0) := G129_224_0 M
  have hf1 : zgR (N129_224 M) 12 0 5 = (51, 0) := G129_224_1 M
  have hf2 : zgR (N129_224 M) 12 0 7 = (53, 0) := G129_224_2 M
  generalize hN : N129_224 M = X at hX hf0 hf1 hf2 ⊢
  refine (B129_193 (d + 3) 1 X).trans ?_
  rw [show zgR (X) 12 0 7 = (53, 0) from hf2]
  have hz : znx X = 440 := hX
  rw [hz]
  clear hz
  show zgo true (d + 3) 129 210 [zr 12 0, zi 1] [zr 9 1, zi 1, zr 53 0] (znew X 9 1) = _
  rw [show znew X 9 1 = zdo [(0, 9, 1, 0, (0, 0), 0)] X from rfl]
  subst hN
  rfl
theorem H129_225 (M : zM) (hn : znx M = 1) : znx (N129_225 M) = 441 := by
  show znx (zdo [(0, 9, 1, 0, (0, 0), 0)] (N129_224 M)) = _
  rw [zdo_nx, H129_224 M hn]
  rfl
set_option maxRecDepth 100000 in
theorem G129_225_0 (M : zM) : zgR (N129_225 M) 12 0 4 = (50, 0) := by
  show zgR (zdo [(0, 9, 1, 0, (0, 0), 0)] (N129_224 M)) 12 0 4 = _
  rw [zdo_R _ _ (by decide), G129_224_0 M]
set_option maxRecDepth 100000 in
theorem G129_225_1 (M : zM) : zgR (N129_225 M) 12 0 5 = (51, 0) := by
  show zgR (zdo [(0, 9, 1, 0, (0, 0), 0)] (N129_224 M)) 12 0 5 = _
  rw [zdo_R _ _ (by decide), G129_224_1 M]
set_option maxRecDepth 100000 in
theorem G129_225_2 (M : zM) : zgR (N129_225 M) 12 0 7 = (53, 0) := by
  show zgR (zdo [(0, 9, 1, 0, (0, 0), 0)] (N129_224 M)) 12 0 7 = _
  rw [zdo_R _ _ (by decide), G129_224_2 M]
def D93_1 : List zOp := [(0, 45, 1, 0, (0, 0), 0), (1, 9, 1, 0, (45, 1), 0)]
set_option maxRecDepth 100000 in
set_option maxHeartbeats 4000000 in
theorem C93_1 (d : Nat) (M : zM) (hn : znx M = 441) : zgo true d 93 0 [zr 9 1] [] M = some (none, zdo D93_1 M) := by
  refine (B93_0 d 1 M).trans ?_
  have hz : znx M = 441 := hn
  rw [hz]
  clear hz
  show zgo true d 93 9 [zr 9 1] [zr 45 1, zr 9 1] (znew M 45 1) = _
  generalize hM1 : znew M 45 1 = M1
  have hn1 : znx M1 = 442 := by rw [← hM1]; exact congrArg (· + 1) hn
  refine (B93_9 d 1 1 45 1 M1).trans ?_
  generalize hM2 : zsR M1 9 1 0 (45, 1) = M2
  have hn2 : znx M2 = 442 := by rw [← hM2]; exact hn1
  clear hn1
  subst hM2 hM1
  rfl
def N129_226 (M : zM) : zM := zdo D93_1 (N129_225 M)
set_option maxRecDepth 100000 in
theorem T129_237 (d : Nat) (M : zM) (hn : znx M = 1) : zgo true (d + 3) 129 210 [zr 12 0, zi 1] [zr 9 1, zi 1, zr 53 0] (N129_225 M) = zgo true (d + 3) 129 214 [zr 12 0, zi 1] [zr 9 1, zi 1, zr 53 0] (N129_226 M) := by
  have hX : znx (N129_225 M) = 441 := H129_225 M hn
  have hf0 : zgR (N129_225 M) 12 0 4 = (50, 0) := G129_225_0 M
  have hf1 : zgR (N129_225 M) 12 0 5 = (51, 0) := G129_225_1 M
  have hf2 : zgR (N129_225 M) 12 0 7 = (53, 0) := G129_225_2 M
  generalize hN : N129_225 M = X at hX hf0 hf1 hf2 ⊢
  refine (B129_210 (d + 2) 1 1 1 X).trans ?_
  show Option.bind (zgo true (d + 2) 93 0 [zr 9 1] [] (X)) _ = _
  refine zbind_of (C93_1 (d + 2) _ hX) ?_
  show zgo true (d + 3) 129 214 [zr 12 0, zi 1] [zr 9 1, zi 1, zr 53 0] (zdo D93_1 (X)) = _
  subst hN
  rfl
theorem H129_226 (M : zM) (hn : znx M = 1) : znx (N129_226 M) = 442 := by
  show znx (zdo D93_1 (N129_225 M)) = _
  rw [zdo_nx, H129_225 M hn]
  rfl
set_option maxRecDepth 100000 in
theorem G129_226_0 (M : zM) : zgR (N129_226 M) 12 0 4 = (50, 0) := by
  show zgR (zdo D93_1 (N129_225 M)) 12 0 4 = _
  rw [zdo_R _ _ (by decide), G129_225_0 M]
set_option maxRecDepth 100000 in
theorem G129_226_1 (M : zM) : zgR (N129_226 M) 12 0 5 = (51, 0) := by
  show zgR (zdo D93_1 (N129_225 M)) 12 0 5 = _
  rw [zdo_R _ _ (by decide), G129_225_1 M]
set_option maxRecDepth 100000 in
theorem G129_226_2 (M : zM) : zgR (N129_226 M) 12 0 7 = (53, 0) := by
  show zgR (zdo D93_1 (N129_225 M)) 12 0 7 = _
  rw [zdo_R _ _ (by decide), G129_225_2 M]
def N129_227 (M : zM) : zM := zdo [(1, 53, 0, 1, (9, 1), 0)] (N129_226 M)
set_option maxRecDepth 100000 in
theorem T129_238 (d : Nat) (M : zM) (hn : znx M = 1) : zgo true (d + 3) 129 214 [zr 12 0, zi 1] [zr 9 1, zi 1, zr 53 0] (N129_226 M) = zgo true (d + 3) 129 193 [zr 12 0, zi 2] [] (N129_227 M) := by
  have hX : znx (N129_226 M) = 442 := H129_226 M hn
  have hf0 : zgR (N129_226 M) 12 0 4 = (50, 0) := G129_226_0 M
  have hf1 : zgR (N129_226 M) 12 0 5 = (51, 0) := G129_226_1 M
  have hf2 : zgR (N129_226 M) 12 0 7 = (53, 0) := G129_226_2 M
  generalize hN : N129_226 M = X at hX hf0 hf1 hf2 ⊢
  refine (B129_214 (d + 3) 1 1 1 X).trans ?_
  show zgo true (d + 3) 129 193 [zr 12 0, zi 2] [] (zsR X 53 0 ((1 : Int32).toNatClampNeg) (9, 1)) = _
  rw [show zsR X 53 0 ((1 : Int32).toNatClampNeg) (9, 1) = zdo [(1, 53, 0, 1, (9, 1), 0)] X from rfl]
  subst hN
  rfl
theorem H129_227 (M : zM) (hn : znx M = 1) : znx (N129_227 M) = 442 := by
  show znx (zdo [(1, 53, 0, 1, (9, 1), 0)] (N129_226 M)) = _
  rw [zdo_nx, H129_226 M hn]
  rfl
set_option maxRecDepth 100000 in
theorem G129_227_0 (M : zM) : zgR (N129_227 M) 12 0 4 = (50, 0) := by
  show zgR (zdo [(1, 53, 0, 1, (9, 1), 0)] (N129_226 M)) 12 0 4 = _
  rw [zdo_R _ _ (by decide), G129_226_0 M]
set_option maxRecDepth 100000 in
theorem G129_227_1 (M : zM) : zgR (N129_227 M) 12 0 5 = (51, 0) := by
  show zgR (zdo [(1, 53, 0, 1, (9, 1), 0)] (N129_226 M)) 12 0 5 = _
  rw [zdo_R _ _ (by decide), G129_226_1 M]
set_option maxRecDepth 100000 in
theorem G129_227_2 (M : zM) : zgR (N129_227 M) 12 0 7 = (53, 0) := by
  show zgR (zdo [(1, 53, 0, 1, (9, 1), 0)] (N129_226 M)) 12 0 7 = _
  rw [zdo_R _ _ (by decide), G129_226_2 M]
def N129_228 (M : zM) : zM := zdo [(0, 9, 2, 0, (0, 0), 0)] (N129_227 M)
set_option maxRecDepth 100000 in
theorem T129_239 (d : Nat) (M : zM) (hn : znx M = 1) : zgo true (d + 3) 129 193 [zr 12 0, zi 2] [] (N129_227 M) = zgo true (d + 3) 129 210 [zr 12 0, zi 2] [zr 9 2, zi 2, zr 53 0] (N129_228 M) := by
  have hX : znx (N129_227 M) = 442 := H129_227 M hn
  have hf0 : zgR (N129_227 M) 12 0 4 = (50, 0) := G129_227_0 M
  have hf1 : zgR (N129_227 M) 12 0 5 = (51, 0) := G129_227_1 M
  have hf2 : zgR (N129_227 M) 12 0 7 = (53, 0) := G129_227_2 M
  generalize hN : N129_227 M = X at hX hf0 hf1 hf2 ⊢
  refine (B129_193 (d + 3) 2 X).trans ?_
  rw [show zgR (X) 12 0 7 = (53, 0) from hf2]
  have hz : znx X = 442 := hX
  rw [hz]
  clear hz
  show zgo true (d + 3) 129 210 [zr 12 0, zi 2] [zr 9 2, zi 2, zr 53 0] (znew X 9 2) = _
  rw [show znew X 9 2 = zdo [(0, 9, 2, 0, (0, 0), 0)] X from rfl]
  subst hN
  rfl
theorem H129_228 (M : zM) (hn : znx M = 1) : znx (N129_228 M) = 443 := by
  show znx (zdo [(0, 9, 2, 0, (0, 0), 0)] (N129_227 M)) = _
  rw [zdo_nx, H129_227 M hn]
  rfl
set_option maxRecDepth 100000 in
theorem G129_228_0 (M : zM) : zgR (N129_228 M) 12 0 4 = (50, 0) := by
  show zgR (zdo [(0, 9, 2, 0, (0, 0), 0)] (N129_227 M)) 12 0 4 = _
  rw [zdo_R _ _ (by decide), G129_227_0 M]
set_option maxRecDepth 100000 in
theorem G129_228_1 (M : zM) : zgR (N129_228 M) 12 0 5 = (51, 0) := by
  show zgR (zdo [(0, 9, 2, 0, (0, 0), 0)] (N129_227 M)) 12 0 5 = _
  rw [zdo_R _ _ (by decide), G129_227_1 M]
set_option maxRecDepth 100000 in
theorem G129_228_2 (M : zM) : zgR (N129_228 M) 12 0 7 = (53, 0) := by
  show zgR (zdo [(0, 9, 2, 0, (0, 0), 0)] (N129_227 M)) 12 0 7 = _
  rw [zdo_R _ _ (by decide), G129_227_2 M]
def D93_2 : List zOp := [(0, 45, 2, 0, (0, 0), 0), (1, 9, 2, 0, (45, 2), 0)]
set_option maxRecDepth 100000 in
set_option maxHeartbeats 4000000 in
theorem C93_2 (d : Nat) (M : zM) (hn : znx M = 443) : zgo true d 93 0 [zr 9 2] [] M = some (none, zdo D93_2 M) := by
  refine (B93_0 d 2 M).trans ?_
  have hz : znx M = 443 := hn
  rw [hz]
  clear hz
  show zgo true d 93 9 [zr 9 2] [zr 45 2, zr 9 2] (znew M 45 2) = _
  generalize hM1 : znew M 45 2 = M1
  have hn1 : znx M1 = 444 := by rw [← hM1]; exact congrArg (· + 1) hn
  refine (B93_9 d 2 2 45 2 M1).trans ?_
  generalize hM2 : zsR M1 9 2 0 (45, 2) = M2
  have hn2 : znx M2 = 444 := by rw [← hM2]; exact hn1
  clear hn1
  subst hM2 hM1
  rfl
def N129_229 (M : zM) : zM := zdo D93_2 (N129_228 M)
set_option maxRecDepth 100000 in
theorem T129_240 (d : Nat) (M : zM) (hn : znx M = 1) : zgo true (d + 3) 129 210 [zr 12 0, zi 2] [zr 9 2, zi 2, zr 53 0] (N129_228 M) = zgo true (d + 3) 129 214 [zr 12 0, zi 2] [zr 9 2, zi 2, zr 53 0] (N129_229 M) := by
  have hX : znx (N129_228 M) = 443 := H129_228 M hn
  have hf0 : zgR (N129_228 M) 12 0 4 = (50, 0) := G129_228_0 M
  have hf1 : zgR (N129_228 M) 12 0 5 = (51, 0) := G129_228_1 M
  have hf2 : zgR (N129_228 M) 12 0 7 = (53, 0) := G129_228_2 M
  generalize hN : N129_228 M = X at hX hf0 hf1 hf2 ⊢
  refine (B129_210 (d + 2) 2 2 2 X).trans ?_
  show Option.bind (zgo true (d + 2) 93 0 [zr 9 2] [] (X)) _ = _
  refine zbind_of (C93_2 (d + 2) _ hX) ?_
  show zgo true (d + 3) 129 214 [zr 12 0, zi 2] [zr 9 2, zi 2, zr 53 0] (zdo D93_2 (X)) = _
  subst hN
  rfl
theorem H129_229 (M : zM) (hn : znx M = 1) : znx (N129_229 M) = 444 := by
  show znx (zdo D93_2 (N129_228 M)) = _
  rw [zdo_nx, H129_228 M hn]
  rfl
set_option maxRecDepth 100000 in
theorem G129_229_0 (M : zM) : zgR (N129_229 M) 12 0 4 = (50, 0) := by
  show zgR (zdo D93_2 (N129_228 M)) 12 0 4 = _
  rw [zdo_R _ _ (by decide), G129_228_0 M]
set_option maxRecDepth 100000 in
theorem G129_229_1 (M : zM) : zgR (N129_229 M) 12 0 5 = (51, 0) := by
  show zgR (zdo D93_2 (N129_228 M)) 12 0 5 = _
  rw [zdo_R _ _ (by decide), G129_228_1 M]
set_option maxRecDepth 100000 in
theorem G129_229_2 (M : zM) : zgR (N129_229 M) 12 0 7 = (53, 0) := by
  show zgR (zdo D93_2 (N129_228 M)) 12 0 7 = _
  rw [zdo_R _ _ (by decide), G129_228_2 M]
def N129_230 (M : zM) : zM := zdo [(1, 53, 0, 2, (9, 2), 0)] (N129_229 M)
set_option maxRecDepth 100000 in
theorem T129_241 (d : Nat) (M : zM) (hn : znx M = 1) : zgo true (d + 3) 129 214 [zr 12 0, zi 2] [zr 9 2, zi 2, zr 53 0] (N129_229 M) = zgo true (d + 3) 129 193 [zr 12 0, zi 3] [] (N129_230 M) := by
  have hX : znx (N129_229 M) = 444 := H129_229 M hn
  have hf0 : zgR (N129_229 M) 12 0 4 = (50, 0) := G129_229_0 M
  have hf1 : zgR (N129_229 M) 12 0 5 = (51, 0) := G129_229_1 M
  have hf2 : zgR (N129_229 M) 12 0 7 = (53, 0) := G129_229_2 M
  generalize hN : N129_229 M = X at hX hf0 hf1 hf2 ⊢
  refine (B129_214 (d + 3) 2 2 2 X).trans ?_
  show zgo true (d + 3) 129 193 [zr 12 0, zi 3] [] (zsR X 53 0 ((2 : Int32).toNatClampNeg) (9, 2)) = _
  rw [show zsR X 53 0 ((2 : Int32).toNatClampNeg) (9, 2) = zdo [(1, 53, 0, 2, (9, 2), 0)] X from rfl]
  subst hN
  rfl
theorem H129_230 (M : zM) (hn : znx M = 1) : znx (N129_230 M) = 444 := by
  show znx (zdo [(1, 53, 0, 2, (9, 2), 0)] (N129_229 M)) = _
  rw [zdo_nx, H129_229 M hn]
  rfl
set_option maxRecDepth 100000 in
theorem G129_230_0 (M : zM) : zgR (N129_230 M) 12 0 4 = (50, 0) := by
  show zgR (zdo [(1, 53, 0, 2, (9, 2), 0)] (N129_229 M)) 12 0 4 = _
  rw [zdo_R _ _ (by decide), G129_229_0 M]
set_option maxRecDepth 100000 in
theorem G129_230_1 (M : zM) : zgR (N129_230 M) 12 0 5 = (51, 0) := by
  show zgR (zdo [(1, 53, 0, 2, (9, 2), 0)] (N129_229 M)) 12 0 5 = _
  rw [zdo_R _ _ (by decide), G129_229_1 M]
set_option maxRecDepth 100000 in
theorem G129_230_2 (M : zM) : zgR (N129_230 M) 12 0 7 = (53, 0) := by
  show zgR (zdo [(1, 53, 0, 2, (9, 2), 0)] (N129_229 M)) 12 0 7 = _
  rw [zdo_R _ _ (by decide), G129_229_2 M]
def N129_231 (M : zM) : zM := zdo [(0, 9, 3, 0, (0, 0), 0)] (N129_230 M)
set_option maxRecDepth 100000 in
theorem T129_242 (d : Nat) (M : zM) (hn : znx M = 1) : zgo true (d + 3) 129 193 [zr 12 0, zi 3] [] (N129_230 M) = zgo true (d + 3) 129 210 [zr 12 0, zi 3] [zr 9 3, zi 3, zr 53 0] (N129_231 M) := by
  have hX : znx (N129_230 M) = 444 := H129_230 M hn
  have hf0 : zgR (N129_230 M) 12 0 4 = (50, 0) := G129_230_0 M
  have hf1 : zgR (N129_230 M) 12 0 5 = (51, 0) := G129_230_1 M
  have hf2 : zgR (N129_230 M) 12 0 7 = (53, 0) := G129_230_2 M
  generalize hN : N129_230 M = X at hX hf0 hf1 hf2 ⊢
  refine (B129_193 (d + 3) 3 X).trans ?_
  rw [show zgR (X) 12 0 7 = (53, 0) from hf2]
  have hz : znx X = 444 := hX
  rw [hz]
  clear hz
  show zgo true (d + 3) 129 210 [zr 12 0, zi 3] [zr 9 3, zi 3, zr 53 0] (znew X 9 3) = _
  rw [show znew X 9 3 = zdo [(0, 9, 3, 0, (0, 0), 0)] X from rfl]
  subst hN
  rfl
theorem H129_231 (M : zM) (hn : znx M = 1) : znx (N129_231 M) = 445 := by
  show znx (zdo [(0, 9, 3, 0, (0, 0), 0)] (N129_230 M)) = _
  rw [zdo_nx, H129_230 M hn]
  rfl
set_option maxRecDepth 100000 in
theorem G129_231_0 (M : zM) : zgR (N129_231 M) 12 0 4 = (50, 0) := by
  show zgR (zdo [(0, 9, 3, 0, (0, 0), 0)] (N129_230 M)) 12 0 4 = _
  rw [zdo_R _ _ (by decide), G129_230_0 M]
set_option maxRecDepth 100000 in
theorem G129_231_1 (M : zM) : zgR (N129_231 M) 12 0 5 = (51, 0) := by
  show zgR (zdo [(0, 9, 3, 0, (0, 0), 0)] (N129_230 M)) 12 0 5 = _
  rw [zdo_R _ _ (by decide), G129_230_1 M]
set_option maxRecDepth 100000 in
theorem G129_231_2 (M : zM) : zgR (N129_231 M) 12 0 7 = (53, 0) := by
  show zgR (zdo [(0, 9, 3, 0, (0, 0), 0)] (N129_230 M)) 12 0 7 = _
  rw [zdo_R _ _ (by decide), G129_230_2 M]
def D93_3 : List zOp := [(0, 45, 3, 0, (0, 0), 0), (1, 9, 3, 0, (45, 3), 0)]
set_option maxRecDepth 100000 in
set_option maxHeartbeats 4000000 in
theorem C93_3 (d : Nat) (M : zM) (hn : znx M = 445) : zgo true d 93 0 [zr 9 3] [] M = some (none, zdo D93_3 M) := by
  refine (B93_0 d 3 M).trans ?_
  have hz : znx M = 445 := hn
  rw [hz]
  clear hz
  show zgo true d 93 9 [zr 9 3] [zr 45 3, zr 9 3] (znew M 45 3) = _
  generalize hM1 : znew M 45 3 = M1
  have hn1 : znx M1 = 446 := by rw [← hM1]; exact congrArg (· + 1) hn
  refine (B93_9 d 3 3 45 3 M1).trans ?_
  generalize hM2 : zsR M1 9 3 0 (45, 3) = M2
  have hn2 : znx M2 = 446 := by rw [← hM2]; exact hn1
  clear hn1
  subst hM2 hM1
  rfl
def N129_232 (M : zM) : zM := zdo D93_3 (N129_231 M)
set_option maxRecDepth 100000 in
theorem T129_243 (d : Nat) (M : zM) (hn : znx M = 1) : zgo true (d + 3) 129 210 [zr 12 0, zi 3] [zr 9 3, zi 3, zr 53 0] (N129_231 M) = zgo true (d + 3) 129 214 [zr 12 0, zi 3] [zr 9 3, zi 3, zr 53 0] (N129_232 M) := by
  have hX : znx (N129_231 M) = 445 := H129_231 M hn
  have hf0 : zgR (N129_231 M) 12 0 4 = (50, 0) := G129_231_0 M
  have hf1 : zgR (N129_231 M) 12 0 5 = (51, 0) := G129_231_1 M
  have hf2 : zgR (N129_231 M) 12 0 7 = (53, 0) := G129_231_2 M
  generalize hN : N129_231 M = X at hX hf0 hf1 hf2 ⊢
  refine (B129_210 (d + 2) 3 3 3 X).trans ?_
  show Option.bind (zgo true (d + 2) 93 0 [zr 9 3] [] (X)) _ = _
  refine zbind_of (C93_3 (d + 2) _ hX) ?_
  show zgo true (d + 3) 129 214 [zr 12 0, zi 3] [zr 9 3, zi 3, zr 53 0] (zdo D93_3 (X)) = _
  subst hN
  rfl
theorem H129_232 (M : zM) (hn : znx M = 1) : znx (N129_232 M) = 446 := by
  show znx (zdo D93_3 (N129_231 M)) = _
  rw [zdo_nx, H129_231 M hn]
  rfl
set_option maxRecDepth 100000 in
theorem G129_232_0 (M : zM) : zgR (N129_232 M) 12 0 4 = (50, 0) := by
  show zgR (zdo D93_3 (N129_231 M)) 12 0 4 = _
  rw [zdo_R _ _ (by decide), G129_231_0 M]
set_option maxRecDepth 100000 in
theorem G129_232_1 (M : zM) : zgR (N129_232 M) 12 0 5 = (51, 0) := by
  show zgR (zdo D93_3 (N129_231 M)) 12 0 5 = _
  rw [zdo_R _ _ (by decide), G129_231_1 M]
set_option maxRecDepth 100000 in
theorem G129_232_2 (M : zM) : zgR (N129_232 M) 12 0 7 = (53, 0) := by
  show zgR (zdo D93_3 (N129_231 M)) 12 0 7 = _
  rw [zdo_R _ _ (by decide), G129_231_2 M]
def N129_233 (M : zM) : zM := zdo [(1, 53, 0, 3, (9, 3), 0)] (N129_232 M)
set_option maxRecDepth 100000 in
theorem T129_244 (d : Nat) (M : zM) (hn : znx M = 1) : zgo true (d + 3) 129 214 [zr 12 0, zi 3] [zr 9 3, zi 3, zr 53 0] (N129_232 M) = zgo true (d + 3) 129 193 [zr 12 0, zi 4] [] (N129_233 M) := by
  have hX : znx (N129_232 M) = 446 := H129_232 M hn
  have hf0 : zgR (N129_232 M) 12 0 4 = (50, 0) := G129_232_0 M
  have hf1 : zgR (N129_232 M) 12 0 5 = (51, 0) := G129_232_1 M
  have hf2 : zgR (N129_232 M) 12 0 7 = (53, 0) := G129_232_2 M
  generalize hN : N129_232 M = X at hX hf0 hf1 hf2 ⊢
  refine (B129_214 (d + 3) 3 3 3 X).trans ?_
  show zgo true (d + 3) 129 193 [zr 12 0, zi 4] [] (zsR X 53 0 ((3 : Int32).toNatClampNeg) (9, 3)) = _
  rw [show zsR X 53 0 ((3 : Int32).toNatClampNeg) (9, 3) = zdo [(1, 53, 0, 3, (9, 3), 0)] X from rfl]
  subst hN
  rfl
theorem H129_233 (M : zM) (hn : znx M = 1) : znx (N129_233 M) = 446 := by
  show znx (zdo [(1, 53, 0, 3, (9, 3), 0)] (N129_232 M)) = _
  rw [zdo_nx, H129_232 M hn]
  rfl
set_option maxRecDepth 100000 in
theorem G129_233_0 (M : zM) : zgR (N129_233 M) 12 0 4 = (50, 0) := by
  show zgR (zdo [(1, 53, 0, 3, (9, 3), 0)] (N129_232 M)) 12 0 4 = _
  rw [zdo_R _ _ (by decide), G129_232_0 M]
set_option maxRecDepth 100000 in
theorem G129_233_1 (M : zM) : zgR (N129_233 M) 12 0 5 = (51, 0) := by
  show zgR (zdo [(1, 53, 0, 3, (9, 3), 0)] (N129_232 M)) 12 0 5 = _
  rw [zdo_R _ _ (by decide), G129_232_1 M]
set_option maxRecDepth 100000 in
theorem G129_233_2 (M : zM) : zgR (N129_233 M) 12 0 7 = (53, 0) := by
  show zgR (zdo [(1, 53, 0, 3, (9, 3), 0)] (N129_232 M)) 12 0 7 = _
  rw [zdo_R _ _ (by decide), G129_232_2 M]
def N129_234 (M : zM) : zM := zdo [(0, 9, 4, 0, (0, 0), 0)] (N129_233 M)
set_option maxRecDepth 100000 in
theorem T129_245 (d : Nat) (M : zM) (hn : znx M = 1) : zgo true (d + 3) 129 193 [zr 12 0, zi 4] [] (N129_233 M) = zgo true (d + 3) 129 210 [zr 12 0, zi 4] [zr 9 4, zi 4, zr 53 0] (N129_234 M) := by
  have hX : znx (N129_233 M) = 446 := H129_233 M hn
  have hf0 : zgR (N129_233 M) 12 0 4 = (50, 0) := G129_233_0 M
  have hf1 : zgR (N129_233 M) 12 0 5 = (51, 0) := G129_233_1 M
  have hf2 : zgR (N129_233 M) 12 0 7 = (53, 0) := G129_233_2 M
  generalize hN : N129_233 M = X at hX hf0 hf1 hf2 ⊢
  refine (B129_193 (d + 3) 4 X).trans ?_
  rw [show zgR (X) 12 0 7 = (53, 0) from hf2]
  have hz : znx X = 446 := hX
  rw [hz]
  clear hz
  show zgo true (d + 3) 129 210 [zr 12 0, zi 4] [zr 9 4, zi 4, zr 53 0] (znew X 9 4) = _
  rw [show znew X 9 4 = zdo [(0, 9, 4, 0, (0, 0), 0)] X from rfl]
  subst hN
  rfl
theorem H129_234 (M : zM) (hn : znx M = 1) : znx (N129_234 M) = 447 := by
  show znx (zdo [(0, 9, 4, 0, (0, 0), 0)] (N129_233 M)) = _
  rw [zdo_nx, H129_233 M hn]
  rfl
set_option maxRecDepth 100000 in
theorem G129_234_0 (M : zM) : zgR (N129_234 M) 12 0 4 = (50, 0) := by
  show zgR (zdo [(0, 9, 4, 0, (0, 0), 0)] (N129_233 M)) 12 0 4 = _
  rw [zdo_R _ _ (by decide), G129_233_0 M]
set_option maxRecDepth 100000 in
theorem G129_234_1 (M : zM) : zgR (N129_234 M) 12 0 5 = (51, 0) := by
  show zgR (zdo [(0, 9, 4, 0, (0, 0), 0)] (N129_233 M)) 12 0 5 = _
  rw [zdo_R _ _ (by decide), G129_233_1 M]
set_option maxRecDepth 100000 in
theorem G129_234_2 (M : zM) : zgR (N129_234 M) 12 0 7 = (53, 0) := by
  show zgR (zdo [(0, 9, 4, 0, (0, 0), 0)] (N129_233 M)) 12 0 7 = _
  rw [zdo_R _ _ (by decide), G129_233_2 M]
def D93_4 : List zOp := [(0, 45, 4, 0, (0, 0), 0), (1, 9, 4, 0, (45, 4), 0)]
set_option maxRecDepth 100000 in
set_option maxHeartbeats 4000000 in
theorem C93_4 (d : Nat) (M : zM) (hn : znx M = 447) : zgo true d 93 0 [zr 9 4] [] M = some (none, zdo D93_4 M) := by
  refine (B93_0 d 4 M).trans ?_
  have hz : znx M = 447 := hn
  rw [hz]
  clear hz
  show zgo true d 93 9 [zr 9 4] [zr 45 4, zr 9 4] (znew M 45 4) = _
  generalize hM1 : znew M 45 4 = M1
  have hn1 : znx M1 = 448 := by rw [← hM1]; exact congrArg (· + 1) hn
  refine (B93_9 d 4 4 45 4 M1).trans ?_
  generalize hM2 : zsR M1 9 4 0 (45, 4) = M2
  have hn2 : znx M2 = 448 := by rw [← hM2]; exact hn1
  clear hn1
  subst hM2 hM1
  rfl
def N129_235 (M : zM) : zM := zdo D93_4 (N129_234 M)
set_option maxRecDepth 100000 in
theorem T129_246 (d : Nat) (M : zM) (hn : znx M = 1) : zgo true (d + 3) 129 210 [zr 12 0, zi 4] [zr 9 4, zi 4, zr 53 0] (N129_234 M) = zgo true (d + 3) 129 214 [zr 12 0, zi 4] [zr 9 4, zi 4, zr 53 0] (N129_235 M) := by
  have hX : znx (N129_234 M) = 447 := H129_234 M hn
  have hf0 : zgR (N129_234 M) 12 0 4 = (50, 0) := G129_234_0 M
  have hf1 : zgR (N129_234 M) 12 0 5 = (51, 0) := G129_234_1 M
  have hf2 : zgR (N129_234 M) 12 0 7 = (53, 0) := G129_234_2 M
  generalize hN : N129_234 M = X at hX hf0 hf1 hf2 ⊢
  refine (B129_210 (d + 2) 4 4 4 X).trans ?_
  show Option.bind (zgo true (d + 2) 93 0 [zr 9 4] [] (X)) _ = _
  refine zbind_of (C93_4 (d + 2) _ hX) ?_
  show zgo true (d + 3) 129 214 [zr 12 0, zi 4] [zr 9 4, zi 4, zr 53 0] (zdo D93_4 (X)) = _
  subst hN
  rfl
theorem H129_235 (M : zM) (hn : znx M = 1) : znx (N129_235 M) = 448 := by
  show znx (zdo D93_4 (N129_234 M)) = _
  rw [zdo_nx, H129_234 M hn]
  rfl
set_option maxRecDepth 100000 in
theorem G129_235_0 (M : zM) : zgR (N129_235 M) 12 0 4 = (50, 0) := by
  show zgR (zdo D93_4 (N129_234 M)) 12 0 4 = _
  rw [zdo_R _ _ (by decide), G129_234_0 M]
set_option maxRecDepth 100000 in
theorem G129_235_1 (M : zM) : zgR (N129_235 M) 12 0 5 = (51, 0) := by
  show zgR (zdo D93_4 (N129_234 M)) 12 0 5 = _
  rw [zdo_R _ _ (by decide), G129_234_1 M]
set_option maxRecDepth 100000 in
theorem G129_235_2 (M : zM) : zgR (N129_235 M) 12 0 7 = (53, 0) := by
  show zgR (zdo D93_4 (N129_234 M)) 12 0 7 = _
  rw [zdo_R _ _ (by decide), G129_234_2 M]
def N129_236 (M : zM) : zM := zdo [(1, 53, 0, 4, (9, 4), 0)] (N129_235 M)
set_option maxRecDepth 100000 in
theorem T129_247 (d : Nat) (M : zM) (hn : znx M = 1) : zgo true (d + 3) 129 214 [zr 12 0, zi 4] [zr 9 4, zi 4, zr 53 0] (N129_235 M) = zgo true (d + 3) 129 193 [zr 12 0, zi 5] [] (N129_236 M) := by
  have hX : znx (N129_235 M) = 448 := H129_235 M hn
  have hf0 : zgR (N129_235 M) 12 0 4 = (50, 0) := G129_235_0 M
  have hf1 : zgR (N129_235 M) 12 0 5 = (51, 0) := G129_235_1 M
  have hf2 : zgR (N129_235 M) 12 0 7 = (53, 0) := G129_235_2 M
  generalize hN : N129_235 M = X at hX hf0 hf1 hf2 ⊢
  refine (B129_214 (d + 3) 4 4 4 X).trans ?_
  show zgo true (d + 3) 129 193 [zr 12 0, zi 5] [] (zsR X 53 0 ((4 : Int32).toNatClampNeg) (9, 4)) = _
  rw [show zsR X 53 0 ((4 : Int32).toNatClampNeg) (9, 4) = zdo [(1, 53, 0, 4, (9, 4), 0)] X from rfl]
  subst hN
  rfl
theorem H129_236 (M : zM) (hn : znx M = 1) : znx (N129_236 M) = 448 := by
  show znx (zdo [(1, 53, 0, 4, (9, 4), 0)] (N129_235 M)) = _
  rw [zdo_nx, H129_235 M hn]
  rfl
set_option maxRecDepth 100000 in
theorem G129_236_0 (M : zM) : zgR (N129_236 M) 12 0 4 = (50, 0) := by
  show zgR (zdo [(1, 53, 0, 4, (9, 4), 0)] (N129_235 M)) 12 0 4 = _
  rw [zdo_R _ _ (by decide), G129_235_0 M]
set_option maxRecDepth 100000 in
theorem G129_236_1 (M : zM) : zgR (N129_236 M) 12 0 5 = (51, 0) := by
  show zgR (zdo [(1, 53, 0, 4, (9, 4), 0)] (N129_235 M)) 12 0 5 = _
  rw [zdo_R _ _ (by decide), G129_235_1 M]
set_option maxRecDepth 100000 in
theorem G129_236_2 (M : zM) : zgR (N129_236 M) 12 0 7 = (53, 0) := by
  show zgR (zdo [(1, 53, 0, 4, (9, 4), 0)] (N129_235 M)) 12 0 7 = _
  rw [zdo_R _ _ (by decide), G129_235_2 M]
def N129_237 (M : zM) : zM := zdo [(0, 9, 5, 0, (0, 0), 0)] (N129_236 M)
set_option maxRecDepth 100000 in
theorem T129_248 (d : Nat) (M : zM) (hn : znx M = 1) : zgo true (d + 3) 129 193 [zr 12 0, zi 5] [] (N129_236 M) = zgo true (d + 3) 129 210 [zr 12 0, zi 5] [zr 9 5, zi 5, zr 53 0] (N129_237 M) := by
  have hX : znx (N129_236 M) = 448 := H129_236 M hn
  have hf0 : zgR (N129_236 M) 12 0 4 = (50, 0) := G129_236_0 M
  have hf1 : zgR (N129_236 M) 12 0 5 = (51, 0) := G129_236_1 M
  have hf2 : zgR (N129_236 M) 12 0 7 = (53, 0) := G129_236_2 M
  generalize hN : N129_236 M = X at hX hf0 hf1 hf2 ⊢
  refine (B129_193 (d + 3) 5 X).trans ?_
  rw [show zgR (X) 12 0 7 = (53, 0) from hf2]
  have hz : znx X = 448 := hX
  rw [hz]
  clear hz
  show zgo true (d + 3) 129 210 [zr 12 0, zi 5] [zr 9 5, zi 5, zr 53 0] (znew X 9 5) = _
  rw [show znew X 9 5 = zdo [(0, 9, 5, 0, (0, 0), 0)] X from rfl]
  subst hN
  rfl
theorem H129_237 (M : zM) (hn : znx M = 1) : znx (N129_237 M) = 449 := by
  show znx (zdo [(0, 9, 5, 0, (0, 0), 0)] (N129_236 M)) = _
  rw [zdo_nx, H129_236 M hn]
  rfl
set_option maxRecDepth 100000 in
theorem G129_237_0 (M : zM) : zgR (N129_237 M) 12 0 4 = (50, 0) := by
  show zgR (zdo [(0, 9, 5, 0, (0, 0), 0)] (N129_236 M)) 12 0 4 = _
  rw [zdo_R _ _ (by decide), G129_236_0 M]
set_option maxRecDepth 100000 in
theorem G129_237_1 (M : zM) : zgR (N129_237 M) 12 0 5 = (51, 0) := by
  show zgR (zdo [(0, 9, 5, 0, (0, 0), 0)] (N129_236 M)) 12 0 5 = _
  rw [zdo_R _ _ (by decide), G129_236_1 M]
set_option maxRecDepth 100000 in
theorem G129_237_2 (M : zM) : zgR (N129_237 M) 12 0 7 = (53, 0) := by
  show zgR (zdo [(0, 9, 5, 0, (0, 0), 0)] (N129_236 M)) 12 0 7 = _
  rw [zdo_R _ _ (by decide), G129_236_2 M]
def D93_5 : List zOp := [(0, 45, 5, 0, (0, 0), 0), (1, 9, 5, 0, (45, 5), 0)]
set_option maxRecDepth 100000 in
set_option maxHeartbeats 4000000 in
theorem C93_5 (d : Nat) (M : zM) (hn : znx M = 449) : zgo true d 93 0 [zr 9 5] [] M = some (none, zdo D93_5 M) := by
  refine (B93_0 d 5 M).trans ?_
  have hz : znx M = 449 := hn
  rw [hz]
  clear hz
  show zgo true d 93 9 [zr 9 5] [zr 45 5, zr 9 5] (znew M 45 5) = _
  generalize hM1 : znew M 45 5 = M1
  have hn1 : znx M1 = 450 := by rw [← hM1]; exact congrArg (· + 1) hn
  refine (B93_9 d 5 5 45 5 M1).trans ?_
  generalize hM2 : zsR M1 9 5 0 (45, 5) = M2
  have hn2 : znx M2 = 450 := by rw [← hM2]; exact hn1
  clear hn1
  subst hM2 hM1
  rfl
def N129_238 (M : zM) : zM := zdo D93_5 (N129_237 M)
set_option maxRecDepth 100000 in
theorem T129_249 (d : Nat) (M : zM) (hn : znx M = 1) : zgo true (d + 3) 129 210 [zr 12 0, zi 5] [zr 9 5, zi 5, zr 53 0] (N129_237 M) = zgo true (d + 3) 129 214 [zr 12 0, zi 5] [zr 9 5, zi 5, zr 53 0] (N129_238 M) := by
  have hX : znx (N129_237 M) = 449 := H129_237 M hn
  have hf0 : zgR (N129_237 M) 12 0 4 = (50, 0) := G129_237_0 M
  have hf1 : zgR (N129_237 M) 12 0 5 = (51, 0) := G129_237_1 M
  have hf2 : zgR (N129_237 M) 12 0 7 = (53, 0) := G129_237_2 M
  generalize hN : N129_237 M = X at hX hf0 hf1 hf2 ⊢
  refine (B129_210 (d + 2) 5 5 5 X).trans ?_
  show Option.bind (zgo true (d + 2) 93 0 [zr 9 5] [] (X)) _ = _
  refine zbind_of (C93_5 (d + 2) _ hX) ?_
  show zgo true (d + 3) 129 214 [zr 12 0, zi 5] [zr 9 5, zi 5, zr 53 0] (zdo D93_5 (X)) = _
  subst hN
  rfl
theorem H129_238 (M : zM) (hn : znx M = 1) : znx (N129_238 M) = 450 := by
  show znx (zdo D93_5 (N129_237 M)) = _
  rw [zdo_nx, H129_237 M hn]
  rfl
set_option maxRecDepth 100000 in
theorem G129_238_0 (M : zM) : zgR (N129_238 M) 12 0 4 = (50, 0) := by
  show zgR (zdo D93_5 (N129_237 M)) 12 0 4 = _
  rw [zdo_R _ _ (by decide), G129_237_0 M]
set_option maxRecDepth 100000 in
theorem G129_238_1 (M : zM) : zgR (N129_238 M) 12 0 5 = (51, 0) := by
  show zgR (zdo D93_5 (N129_237 M)) 12 0 5 = _
  rw [zdo_R _ _ (by decide), G129_237_1 M]
set_option maxRecDepth 100000 in
theorem G129_238_2 (M : zM) : zgR (N129_238 M) 12 0 7 = (53, 0) := by
  show zgR (zdo D93_5 (N129_237 M)) 12 0 7 = _
  rw [zdo_R _ _ (by decide), G129_237_2 M]
def N129_239 (M : zM) : zM := zdo [(1, 53, 0, 5, (9, 5), 0)] (N129_238 M)
set_option maxRecDepth 100000 in
theorem T129_250 (d : Nat) (M : zM) (hn : znx M = 1) : zgo true (d + 3) 129 214 [zr 12 0, zi 5] [zr 9 5, zi 5, zr 53 0] (N129_238 M) = zgo true (d + 3) 129 193 [zr 12 0, zi 6] [] (N129_239 M) := by
  have hX : znx (N129_238 M) = 450 := H129_238 M hn
  have hf0 : zgR (N129_238 M) 12 0 4 = (50, 0) := G129_238_0 M
  have hf1 : zgR (N129_238 M) 12 0 5 = (51, 0) := G129_238_1 M
  have hf2 : zgR (N129_238 M) 12 0 7 = (53, 0) := G129_238_2 M
  generalize hN : N129_238 M = X at hX hf0 hf1 hf2 ⊢
  refine (B129_214 (d + 3) 5 5 5 X).trans ?_
  show zgo true (d + 3) 129 193 [zr 12 0, zi 6] [] (zsR X 53 0 ((5 : Int32).toNatClampNeg) (9, 5)) = _
  rw [show zsR X 53 0 ((5 : Int32).toNatClampNeg) (9, 5) = zdo [(1, 53, 0, 5, (9, 5), 0)] X from rfl]
  subst hN
  rfl
theorem H129_239 (M : zM) (hn : znx M = 1) : znx (N129_239 M) = 450 := by
  show znx (zdo [(1, 53, 0, 5, (9, 5), 0)] (N129_238 M)) = _
  rw [zdo_nx, H129_238 M hn]
  rfl
set_option maxRecDepth 100000 in
theorem G129_239_0 (M : zM) : zgR (N129_239 M) 12 0 4 = (50, 0) := by
  show zgR (zdo [(1, 53, 0, 5, (9, 5), 0)] (N129_238 M)) 12 0 4 = _
  rw [zdo_R _ _ (by decide), G129_238_0 M]
set_option maxRecDepth 100000 in
theorem G129_239_1 (M : zM) : zgR (N129_239 M) 12 0 5 = (51, 0) := by
  show zgR (zdo [(1, 53, 0, 5, (9, 5), 0)] (N129_238 M)) 12 0 5 = _
  rw [zdo_R _ _ (by decide), G129_238_1 M]
set_option maxRecDepth 100000 in
theorem G129_239_2 (M : zM) : zgR (N129_239 M) 12 0 7 = (53, 0) := by
  show zgR (zdo [(1, 53, 0, 5, (9, 5), 0)] (N129_238 M)) 12 0 7 = _
  rw [zdo_R _ _ (by decide), G129_238_2 M]
set_option maxRecDepth 100000 in
theorem T129_251 (d : Nat) (M : zM) (hn : znx M = 1) : zgo true (d + 3) 129 193 [zr 12 0, zi 6] [] (N129_239 M) = some (none, N129_239 M) := by
  have hX : znx (N129_239 M) = 450 := H129_239 M hn
  have hf0 : zgR (N129_239 M) 12 0 4 = (50, 0) := G129_239_0 M
  have hf1 : zgR (N129_239 M) 12 0 5 = (51, 0) := G129_239_1 M
  have hf2 : zgR (N129_239 M) 12 0 7 = (53, 0) := G129_239_2 M
  generalize hN : N129_239 M = X at hX hf0 hf1 hf2 ⊢
  refine (B129_193 (d + 3) 6 X).trans ?_
  rw [show zgR (X) 12 0 7 = (53, 0) from hf2]
  show some (none, X) = _
  subst hN
  rfl
set_option maxRecDepth 100000 in
theorem C129_0 (d : Nat) (M : zM) (hn : znx M = 1) : zgo true (d + 3) 129 0 [zr 12 0, zu] [] M = some (none, N129_239 M) := by
  refine (T129_0 d M hn).trans ?_
  refine (T129_1 d M hn).trans ?_
  refine (T129_2 d M hn).trans ?_
  refine (T129_3 d M hn).trans ?_
  refine (T129_4 d M hn).trans ?_
  refine (T129_5 d M hn).trans ?_
  refine (T129_6 d M hn).trans ?_
  refine (T129_7 d M hn).trans ?_
  refine (T129_8 d M hn).trans ?_
  refine (T129_9 d M hn).trans ?_
  refine (T129_10 d M hn).trans ?_
  refine (T129_11 d M hn).trans ?_
  refine (T129_12 d M hn).trans ?_
  refine (T129_13 d M hn).trans ?_
  refine (T129_14 d M hn).trans ?_
  refine (T129_15 d M hn).trans ?_
  refine (T129_16 d M hn).trans ?_
  refine (T129_17 d M hn).trans ?_
  refine (T129_18 d M hn).trans ?_
  refine (T129_19 d M hn).trans ?_
  refine (T129_20 d M hn).trans ?_
  refine (T129_21 d M hn).trans ?_
  refine (T129_22 d M hn).trans ?_
  refine (T129_23 d M hn).trans ?_
  refine (T129_24 d M hn).trans ?_
  refine (T129_25 d M hn).trans ?_
  refine (T129_26 d M hn).trans ?_
  refine (T129_27 d M hn).trans ?_
  refine (T129_28 d M hn).trans ?_
  refine (T129_29 d M hn).trans ?_
  refine (T129_30 d M hn).trans ?_
  refine (T129_31 d M hn).trans ?_
  refine (T129_32 d M hn).trans ?_
  refine (T129_33 d M hn).trans ?_
  refine (T129_34 d M hn).trans ?_
  refine (T129_35 d M hn).trans ?_
  refine (T129_36 d M hn).trans ?_
  refine (T129_37 d M hn).trans ?_
  refine (T129_38 d M hn).trans ?_
  refine (T129_39 d M hn).trans ?_
  refine (T129_40 d M hn).trans ?_
  refine (T129_41 d M hn).trans ?_
  refine (T129_42 d M hn).trans ?_
  refine (T129_43 d M hn).trans ?_
  refine (T129_44 d M hn).trans ?_
  refine (T129_45 d M hn).trans ?_
  refine (T129_46 d M hn).trans ?_
  refine (T129_47 d M hn).trans ?_
  refine (T129_48 d M hn).trans ?_
  refine (T129_49 d M hn).trans ?_
  refine (T129_50 d M hn).trans ?_
  refine (T129_51 d M hn).trans ?_
  refine (T129_52 d M hn).trans ?_
  refine (T129_53 d M hn).trans ?_
  refine (T129_54 d M hn).trans ?_
  refine (T129_55 d M hn).trans ?_
  refine (T129_56 d M hn).trans ?_
  refine (T129_57 d M hn).trans ?_
  refine (T129_58 d M hn).trans ?_
  refine (T129_59 d M hn).trans ?_
  refine (T129_60 d M hn).trans ?_
  refine (T129_61 d M hn).trans ?_
  refine (T129_62 d M hn).trans ?_
  refine (T129_63 d M hn).trans ?_
  refine (T129_64 d M hn).trans ?_
  refine (T129_65 d M hn).trans ?_
  refine (T129_66 d M hn).trans ?_
  refine (T129_67 d M hn).trans ?_
  refine (T129_68 d M hn).trans ?_
  refine (T129_69 d M hn).trans ?_
  refine (T129_70 d M hn).trans ?_
  refine (T129_71 d M hn).trans ?_
  refine (T129_72 d M hn).trans ?_
  refine (T129_73 d M hn).trans ?_
  refine (T129_74 d M hn).trans ?_
  refine (T129_75 d M hn).trans ?_
  refine (T129_76 d M hn).trans ?_
  refine (T129_77 d M hn).trans ?_
  refine (T129_78 d M hn).trans ?_
  refine (T129_79 d M hn).trans ?_
  refine (T129_80 d M hn).trans ?_
  refine (T129_81 d M hn).trans ?_
  refine (T129_82 d M hn).trans ?_
  refine (T129_83 d M hn).trans ?_
  refine (T129_84 d M hn).trans ?_
  refine (T129_85 d M hn).trans ?_
  refine (T129_86 d M hn).trans ?_
  refine (T129_87 d M hn).trans ?_
  refine (T129_88 d M hn).trans ?_
  refine (T129_89 d M hn).trans ?_
  refine (T129_90 d M hn).trans ?_
  refine (T129_91 d M hn).trans ?_
  refine (T129_92 d M hn).trans ?_
  refine (T129_93 d M hn).trans ?_
  refine (T129_94 d M hn).trans ?_
  refine (T129_95 d M hn).trans ?_
  refine (T129_96 d M hn).trans ?_
  refine (T129_97 d M hn).trans ?_
  refine (T129_98 d M hn).trans ?_
  refine (T129_99 d M hn).trans ?_
  refine (T129_100 d M hn).trans ?_
  refine (T129_101 d M hn).trans ?_
  refine (T129_102 d M hn).trans ?_
  refine (T129_103 d M hn).trans ?_
  refine (T129_104 d M hn).trans ?_
  refine (T129_105 d M hn).trans ?_
  refine (T129_106 d M hn).trans ?_
  refine (T129_107 d M hn).trans ?_
  refine (T129_108 d M hn).trans ?_
  refine (T129_109 d M hn).trans ?_
  refine (T129_110 d M hn).trans ?_
  refine (T129_111 d M hn).trans ?_
  refine (T129_112 d M hn).trans ?_
  refine (T129_113 d M hn).trans ?_
  refine (T129_114 d M hn).trans ?_
  refine (T129_115 d M hn).trans ?_
  refine (T129_116 d M hn).trans ?_
  refine (T129_117 d M hn).trans ?_
  refine (T129_118 d M hn).trans ?_
  refine (T129_119 d M hn).trans ?_
  refine (T129_120 d M hn).trans ?_
  refine (T129_121 d M hn).trans ?_
  refine (T129_122 d M hn).trans ?_
  refine (T129_123 d M hn).trans ?_
  refine (T129_124 d M hn).trans ?_
  refine (T129_125 d M hn).trans ?_
  refine (T129_126 d M hn).trans ?_
  refine (T129_127 d M hn).trans ?_
  refine (T129_128 d M hn).trans ?_
  refine (T129_129 d M hn).trans ?_
  refine (T129_130 d M hn).trans ?_
  refine (T129_131 d M hn).trans ?_
  refine (T129_132 d M hn).trans ?_
  refine (T129_133 d M hn).trans ?_
  refine (T129_134 d M hn).trans ?_
  refine (T129_135 d M hn).trans ?_
  refine (T129_136 d M hn).trans ?_
  refine (T129_137 d M hn).trans ?_
  refine (T129_138 d M hn).trans ?_
  refine (T129_139 d M hn).trans ?_
  refine (T129_140 d M hn).trans ?_
  refine (T129_141 d M hn).trans ?_
  refine (T129_142 d M hn).trans ?_
  refine (T129_143 d M hn).trans ?_
  refine (T129_144 d M hn).trans ?_
  refine (T129_145 d M hn).trans ?_
  refine (T129_146 d M hn).trans ?_
  refine (T129_147 d M hn).trans ?_
  refine (T129_148 d M hn).trans ?_
  refine (T129_149 d M hn).trans ?_
  refine (T129_150 d M hn).trans ?_
  refine (T129_151 d M hn).trans ?_
  refine (T129_152 d M hn).trans ?_
  refine (T129_153 d M hn).trans ?_
  refine (T129_154 d M hn).trans ?_
  refine (T129_155 d M hn).trans ?_
  refine (T129_156 d M hn).trans ?_
  refine (T129_157 d M hn).trans ?_
  refine (T129_158 d M hn).trans ?_
  refine (T129_159 d M hn).trans ?_
  refine (T129_160 d M hn).trans ?_
  refine (T129_161 d M hn).trans ?_
  refine (T129_162 d M hn).trans ?_
  refine (T129_163 d M hn).trans ?_
  refine (T129_164 d M hn).trans ?_
  refine (T129_165 d M hn).trans ?_
  refine (T129_166 d M hn).trans ?_
  refine (T129_167 d M hn).trans ?_
  refine (T129_168 d M hn).trans ?_
  refine (T129_169 d M hn).trans ?_
  refine (T129_170 d M hn).trans ?_
  refine (T129_171 d M hn).trans ?_
  refine (T129_172 d M hn).trans ?_
  refine (T129_173 d M hn).trans ?_
  refine (T129_174 d M hn).trans ?_
  refine (T129_175 d M hn).trans ?_
  refine (T129_176 d M hn).trans ?_
  refine (T129_177 d M hn).trans ?_
  refine (T129_178 d M hn).trans ?_
  refine (T129_179 d M hn).trans ?_
  refine (T129_180 d M hn).trans ?_
  refine (T129_181 d M hn).trans ?_
  refine (T129_182 d M hn).trans ?_
  refine (T129_183 d M hn).trans ?_
  refine (T129_184 d M hn).trans ?_
  refine (T129_185 d M hn).trans ?_
  refine (T129_186 d M hn).trans ?_
  refine (T129_187 d M hn).trans ?_
  refine (T129_188 d M hn).trans ?_
  refine (T129_189 d M hn).trans ?_
  refine (T129_190 d M hn).trans ?_
  refine (T129_191 d M hn).trans ?_
  refine (T129_192 d M hn).trans ?_
  refine (T129_193 d M hn).trans ?_
  refine (T129_194 d M hn).trans ?_
  refine (T129_195 d M hn).trans ?_
  refine (T129_196 d M hn).trans ?_
  refine (T129_197 d M hn).trans ?_
  refine (T129_198 d M hn).trans ?_
  refine (T129_199 d M hn).trans ?_
  refine (T129_200 d M hn).trans ?_
  refine (T129_201 d M hn).trans ?_
  refine (T129_202 d M hn).trans ?_
  refine (T129_203 d M hn).trans ?_
  refine (T129_204 d M hn).trans ?_
  refine (T129_205 d M hn).trans ?_
  refine (T129_206 d M hn).trans ?_
  refine (T129_207 d M hn).trans ?_
  refine (T129_208 d M hn).trans ?_
  refine (T129_209 d M hn).trans ?_
  refine (T129_210 d M hn).trans ?_
  refine (T129_211 d M hn).trans ?_
  refine (T129_212 d M hn).trans ?_
  refine (T129_213 d M hn).trans ?_
  refine (T129_214 d M hn).trans ?_
  refine (T129_215 d M hn).trans ?_
  refine (T129_216 d M hn).trans ?_
  refine (T129_217 d M hn).trans ?_
  refine (T129_218 d M hn).trans ?_
  refine (T129_219 d M hn).trans ?_
  refine (T129_220 d M hn).trans ?_
  refine (T129_221 d M hn).trans ?_
  refine (T129_222 d M hn).trans ?_
  refine (T129_223 d M hn).trans ?_
  refine (T129_224 d M hn).trans ?_
  refine (T129_225 d M hn).trans ?_
  refine (T129_226 d M hn).trans ?_
  refine (T129_227 d M hn).trans ?_
  refine (T129_228 d M hn).trans ?_
  refine (T129_229 d M hn).trans ?_
  refine (T129_230 d M hn).trans ?_
  refine (T129_231 d M hn).trans ?_
  refine (T129_232 d M hn).trans ?_
  refine (T129_233 d M hn).trans ?_
  refine (T129_234 d M hn).trans ?_
  refine (T129_235 d M hn).trans ?_
  refine (T129_236 d M hn).trans ?_
  refine (T129_237 d M hn).trans ?_
  refine (T129_238 d M hn).trans ?_
  refine (T129_239 d M hn).trans ?_
  refine (T129_240 d M hn).trans ?_
  refine (T129_241 d M hn).trans ?_
  refine (T129_242 d M hn).trans ?_
  refine (T129_243 d M hn).trans ?_
  refine (T129_244 d M hn).trans ?_
  refine (T129_245 d M hn).trans ?_
  refine (T129_246 d M hn).trans ?_
  refine (T129_247 d M hn).trans ?_
  refine (T129_248 d M hn).trans ?_
  refine (T129_249 d M hn).trans ?_
  refine (T129_250 d M hn).trans ?_
  refine (T129_251 d M hn).trans ?_
  rfl
