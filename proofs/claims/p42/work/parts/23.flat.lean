/-! the constructors, flat: one list of operations; by program (wip/whole/cgctor.py) -/
def O129_1 : List zOp := [(0, 10, 0, 0, (0, 0), 0)]
theorem F129_1 (M : zM) : N129_1 M = zdo O129_1 M := by
  show zdo [(0, 10, 0, 0, (0, 0), 0)] (M) = zdo ([(0, 10, 0, 0, (0, 0), 0)]) M
  rfl
def O129_2 : List zOp := (O129_1) ++ D107_0
theorem F129_2 (M : zM) : N129_2 M = zdo O129_2 M := by
  show zdo D107_0 (N129_1 M) = zdo ((O129_1) ++ D107_0) M
  rw [F129_1 M, zdo_app]
def O129_3 : List zOp := (O129_2) ++ [(1, 12, 0, 0, (10, 0), 0), (0, 5, 0, 0, (0, 0), 0)]
theorem F129_3 (M : zM) : N129_3 M = zdo O129_3 M := by
  show zdo [(1, 12, 0, 0, (10, 0), 0), (0, 5, 0, 0, (0, 0), 0)] (N129_2 M) = zdo ((O129_2) ++ [(1, 12, 0, 0, (10, 0), 0), (0, 5, 0, 0, (0, 0), 0)]) M
  rw [F129_2 M, zdo_app]
def O31_1 : List zOp := [(0, 29, 0, 0, (0, 0), 0)]
theorem F31_1 (M : zM) : N31_1 M = zdo O31_1 M := by
  show zdo [(0, 29, 0, 0, (0, 0), 0)] (M) = zdo ([(0, 29, 0, 0, (0, 0), 0)]) M
  rfl
def O31_2 : List zOp := (O31_1) ++ [(1, 5, 0, 0, (29, 0), 0), (0, 30, 0, 0, (0, 0), 0)]
theorem F31_2 (M : zM) : N31_2 M = zdo O31_2 M := by
  show zdo [(1, 5, 0, 0, (29, 0), 0), (0, 30, 0, 0, (0, 0), 0)] (N31_1 M) = zdo ((O31_1) ++ [(1, 5, 0, 0, (29, 0), 0), (0, 30, 0, 0, (0, 0), 0)]) M
  rw [F31_1 M, zdo_app]
def O31_3 : List zOp := (O31_2) ++ [(1, 5, 0, 1, (30, 0), 0), (0, 11, 0, 0, (0, 0), 0)]
theorem F31_3 (M : zM) : N31_3 M = zdo O31_3 M := by
  show zdo [(1, 5, 0, 1, (30, 0), 0), (0, 11, 0, 0, (0, 0), 0)] (N31_2 M) = zdo ((O31_2) ++ [(1, 5, 0, 1, (30, 0), 0), (0, 11, 0, 0, (0, 0), 0)]) M
  rw [F31_2 M, zdo_app]
def O31_4 : List zOp := (O31_3) ++ D120_0
theorem F31_4 (M : zM) : N31_4 M = zdo O31_4 M := by
  show zdo D120_0 (N31_3 M) = zdo ((O31_3) ++ D120_0) M
  rw [F31_3 M, zdo_app]
def O31_5 : List zOp := (O31_4) ++ [(1, 5, 0, 2, (11, 0), 0), (0, 11, 1, 0, (0, 0), 0)]
theorem F31_5 (M : zM) : N31_5 M = zdo O31_5 M := by
  show zdo [(1, 5, 0, 2, (11, 0), 0), (0, 11, 1, 0, (0, 0), 0)] (N31_4 M) = zdo ((O31_4) ++ [(1, 5, 0, 2, (11, 0), 0), (0, 11, 1, 0, (0, 0), 0)]) M
  rw [F31_4 M, zdo_app]
def O31_6 : List zOp := (O31_5) ++ D120_1
theorem F31_6 (M : zM) : N31_6 M = zdo O31_6 M := by
  show zdo D120_1 (N31_5 M) = zdo ((O31_5) ++ D120_1) M
  rw [F31_5 M, zdo_app]
def O31_7 : List zOp := (O31_6) ++ [(1, 5, 0, 3, (11, 1), 0), (0, 11, 2, 0, (0, 0), 0)]
theorem F31_7 (M : zM) : N31_7 M = zdo O31_7 M := by
  show zdo [(1, 5, 0, 3, (11, 1), 0), (0, 11, 2, 0, (0, 0), 0)] (N31_6 M) = zdo ((O31_6) ++ [(1, 5, 0, 3, (11, 1), 0), (0, 11, 2, 0, (0, 0), 0)]) M
  rw [F31_6 M, zdo_app]
def O31_8 : List zOp := (O31_7) ++ D120_2
theorem F31_8 (M : zM) : N31_8 M = zdo O31_8 M := by
  show zdo D120_2 (N31_7 M) = zdo ((O31_7) ++ D120_2) M
  rw [F31_7 M, zdo_app]
def O31_9 : List zOp := (O31_8) ++ [(1, 5, 0, 4, (11, 2), 0), (0, 11, 3, 0, (0, 0), 0)]
theorem F31_9 (M : zM) : N31_9 M = zdo O31_9 M := by
  show zdo [(1, 5, 0, 4, (11, 2), 0), (0, 11, 3, 0, (0, 0), 0)] (N31_8 M) = zdo ((O31_8) ++ [(1, 5, 0, 4, (11, 2), 0), (0, 11, 3, 0, (0, 0), 0)]) M
  rw [F31_8 M, zdo_app]
def O31_10 : List zOp := (O31_9) ++ D120_3
theorem F31_10 (M : zM) : N31_10 M = zdo O31_10 M := by
  show zdo D120_3 (N31_9 M) = zdo ((O31_9) ++ D120_3) M
  rw [F31_9 M, zdo_app]
def O31_11 : List zOp := (O31_10) ++ [(1, 5, 0, 5, (11, 3), 0), (0, 31, 0, 0, (0, 0), 0)]
theorem F31_11 (M : zM) : N31_11 M = zdo O31_11 M := by
  show zdo [(1, 5, 0, 5, (11, 3), 0), (0, 31, 0, 0, (0, 0), 0)] (N31_10 M) = zdo ((O31_10) ++ [(1, 5, 0, 5, (11, 3), 0), (0, 31, 0, 0, (0, 0), 0)]) M
  rw [F31_10 M, zdo_app]
def O31_12 : List zOp := (O31_11) ++ [(1, 5, 0, 6, (31, 0), 0), (0, 7, 0, 0, (0, 0), 0)]
theorem F31_12 (M : zM) : N31_12 M = zdo O31_12 M := by
  show zdo [(1, 5, 0, 6, (31, 0), 0), (0, 7, 0, 0, (0, 0), 0)] (N31_11 M) = zdo ((O31_11) ++ [(1, 5, 0, 6, (31, 0), 0), (0, 7, 0, 0, (0, 0), 0)]) M
  rw [F31_11 M, zdo_app]
def O31_13 : List zOp := (O31_12) ++ D58_0
theorem F31_13 (M : zM) : N31_13 M = zdo O31_13 M := by
  show zdo D58_0 (N31_12 M) = zdo ((O31_12) ++ D58_0) M
  rw [F31_12 M, zdo_app]
def O31_14 : List zOp := (O31_13) ++ [(1, 5, 0, 7, (7, 0), 0), (0, 10, 1, 0, (0, 0), 0)]
theorem F31_14 (M : zM) : N31_14 M = zdo O31_14 M := by
  show zdo [(1, 5, 0, 7, (7, 0), 0), (0, 10, 1, 0, (0, 0), 0)] (N31_13 M) = zdo ((O31_13) ++ [(1, 5, 0, 7, (7, 0), 0), (0, 10, 1, 0, (0, 0), 0)]) M
  rw [F31_13 M, zdo_app]
def O31_15 : List zOp := (O31_14) ++ D107_1
theorem F31_15 (M : zM) : N31_15 M = zdo O31_15 M := by
  show zdo D107_1 (N31_14 M) = zdo ((O31_14) ++ D107_1) M
  rw [F31_14 M, zdo_app]
def O31_16 : List zOp := (O31_15) ++ [(1, 5, 0, 8, (10, 1), 0), (0, 2, 10, 0, (0, 0), 0)]
theorem F31_16 (M : zM) : N31_16 M = zdo O31_16 M := by
  show zdo [(1, 5, 0, 8, (10, 1), 0), (0, 2, 10, 0, (0, 0), 0)] (N31_15 M) = zdo ((O31_15) ++ [(1, 5, 0, 8, (10, 1), 0), (0, 2, 10, 0, (0, 0), 0)]) M
  rw [F31_15 M, zdo_app]
def O31_17 : List zOp := (O31_16) ++ [(1, 5, 0, 9, (2, 10), 0), (0, 4, 60, 0, (0, 0), 0)]
theorem F31_17 (M : zM) : N31_17 M = zdo O31_17 M := by
  show zdo [(1, 5, 0, 9, (2, 10), 0), (0, 4, 60, 0, (0, 0), 0)] (N31_16 M) = zdo ((O31_16) ++ [(1, 5, 0, 9, (2, 10), 0), (0, 4, 60, 0, (0, 0), 0)]) M
  rw [F31_16 M, zdo_app]
def O31_18 : List zOp := (O31_17) ++ D20_60
theorem F31_18 (M : zM) : N31_18 M = zdo O31_18 M := by
  show zdo D20_60 (N31_17 M) = zdo ((O31_17) ++ D20_60) M
  rw [F31_17 M, zdo_app]
def O31_19 : List zOp := (O31_18) ++ [(1, 5, 0, 10, (4, 60), 0), (1, 5, 0, 11, (10, 1), 0), (1, 5, 0, 12, (2, 10), 0), (1, 5, 0, 13, (4, 60), 0)]
theorem F31_19 (M : zM) : N31_19 M = zdo O31_19 M := by
  show zdo [(1, 5, 0, 10, (4, 60), 0), (1, 5, 0, 11, (10, 1), 0), (1, 5, 0, 12, (2, 10), 0), (1, 5, 0, 13, (4, 60), 0)] (N31_18 M) = zdo ((O31_18) ++ [(1, 5, 0, 10, (4, 60), 0), (1, 5, 0, 11, (10, 1), 0), (1, 5, 0, 12, (2, 10), 0), (1, 5, 0, 13, (4, 60), 0)]) M
  rw [F31_18 M, zdo_app]
def O31_20 : List zOp := (O31_19) ++ [(2, 29, 0, 0, (0, 0), 0)]
theorem F31_20 (M : zM) : N31_20 M = zdo O31_20 M := by
  show zdo [(2, 29, 0, 0, (0, 0), 0)] (N31_19 M) = zdo ((O31_19) ++ [(2, 29, 0, 0, (0, 0), 0)]) M
  rw [F31_19 M, zdo_app]
def O31_21 : List zOp := (O31_20) ++ [(2, 29, 0, 1, (0, 0), 150)]
theorem F31_21 (M : zM) : N31_21 M = zdo O31_21 M := by
  show zdo [(2, 29, 0, 1, (0, 0), 150)] (N31_20 M) = zdo ((O31_20) ++ [(2, 29, 0, 1, (0, 0), 150)]) M
  rw [F31_20 M, zdo_app]
def O31_22 : List zOp := (O31_21) ++ [(2, 29, 0, 2, (0, 0), 1)]
theorem F31_22 (M : zM) : N31_22 M = zdo O31_22 M := by
  show zdo [(2, 29, 0, 2, (0, 0), 1)] (N31_21 M) = zdo ((O31_21) ++ [(2, 29, 0, 2, (0, 0), 1)]) M
  rw [F31_21 M, zdo_app]
def O31_23 : List zOp := (O31_22) ++ [(2, 29, 0, 3, (0, 0), 17)]
theorem F31_23 (M : zM) : N31_23 M = zdo O31_23 M := by
  show zdo [(2, 29, 0, 3, (0, 0), 17)] (N31_22 M) = zdo ((O31_22) ++ [(2, 29, 0, 3, (0, 0), 17)]) M
  rw [F31_22 M, zdo_app]
def O129_4 : List zOp := (O129_3) ++ O31_23
theorem F129_4 (M : zM) : N129_4 M = zdo O129_4 M := by
  show N31_23 (N129_3 M) = zdo ((O129_3) ++ O31_23) M
  rw [F129_3 M, F31_23, zdo_app]
def O129_5 : List zOp := (O129_4) ++ [(1, 12, 0, 1, (5, 0), 0), (0, 7, 1, 0, (0, 0), 0)]
theorem F129_5 (M : zM) : N129_5 M = zdo O129_5 M := by
  show zdo [(1, 12, 0, 1, (5, 0), 0), (0, 7, 1, 0, (0, 0), 0)] (N129_4 M) = zdo ((O129_4) ++ [(1, 12, 0, 1, (5, 0), 0), (0, 7, 1, 0, (0, 0), 0)]) M
  rw [F129_4 M, zdo_app]
def O129_6 : List zOp := (O129_5) ++ D58_1
theorem F129_6 (M : zM) : N129_6 M = zdo O129_6 M := by
  show zdo D58_1 (N129_5 M) = zdo ((O129_5) ++ D58_1) M
  rw [F129_5 M, zdo_app]
def O129_7 : List zOp := (O129_6) ++ [(1, 12, 0, 2, (7, 1), 0), (0, 8, 0, 0, (0, 0), 0)]
theorem F129_7 (M : zM) : N129_7 M = zdo O129_7 M := by
  show zdo [(1, 12, 0, 2, (7, 1), 0), (0, 8, 0, 0, (0, 0), 0)] (N129_6 M) = zdo ((O129_6) ++ [(1, 12, 0, 2, (7, 1), 0), (0, 8, 0, 0, (0, 0), 0)]) M
  rw [F129_6 M, zdo_app]
def O129_8 : List zOp := (O129_7) ++ D81_0
theorem F129_8 (M : zM) : N129_8 M = zdo O129_8 M := by
  show zdo D81_0 (N129_7 M) = zdo ((O129_7) ++ D81_0) M
  rw [F129_7 M, zdo_app]
def O129_9 : List zOp := (O129_8) ++ [(1, 12, 0, 3, (8, 0), 0), (0, 50, 0, 0, (0, 0), 0)]
theorem F129_9 (M : zM) : N129_9 M = zdo O129_9 M := by
  show zdo [(1, 12, 0, 3, (8, 0), 0), (0, 50, 0, 0, (0, 0), 0)] (N129_8 M) = zdo ((O129_8) ++ [(1, 12, 0, 3, (8, 0), 0), (0, 50, 0, 0, (0, 0), 0)]) M
  rw [F129_8 M, zdo_app]
def O129_10 : List zOp := (O129_9) ++ [(1, 12, 0, 4, (50, 0), 0), (0, 51, 0, 0, (0, 0), 0)]
theorem F129_10 (M : zM) : N129_10 M = zdo O129_10 M := by
  show zdo [(1, 12, 0, 4, (50, 0), 0), (0, 51, 0, 0, (0, 0), 0)] (N129_9 M) = zdo ((O129_9) ++ [(1, 12, 0, 4, (50, 0), 0), (0, 51, 0, 0, (0, 0), 0)]) M
  rw [F129_9 M, zdo_app]
def O129_11 : List zOp := (O129_10) ++ [(1, 12, 0, 5, (51, 0), 0), (0, 52, 0, 0, (0, 0), 0)]
theorem F129_11 (M : zM) : N129_11 M = zdo O129_11 M := by
  show zdo [(1, 12, 0, 5, (51, 0), 0), (0, 52, 0, 0, (0, 0), 0)] (N129_10 M) = zdo ((O129_10) ++ [(1, 12, 0, 5, (51, 0), 0), (0, 52, 0, 0, (0, 0), 0)]) M
  rw [F129_10 M, zdo_app]
def O129_12 : List zOp := (O129_11) ++ [(1, 12, 0, 6, (52, 0), 0)]
theorem F129_12 (M : zM) : N129_12 M = zdo O129_12 M := by
  show zdo [(1, 12, 0, 6, (52, 0), 0)] (N129_11 M) = zdo ((O129_11) ++ [(1, 12, 0, 6, (52, 0), 0)]) M
  rw [F129_11 M, zdo_app]
def O129_13 : List zOp := (O129_12) ++ [(0, 53, 0, 0, (0, 0), 0)]
theorem F129_13 (M : zM) : N129_13 M = zdo O129_13 M := by
  show zdo [(0, 53, 0, 0, (0, 0), 0)] (N129_12 M) = zdo ((O129_12) ++ [(0, 53, 0, 0, (0, 0), 0)]) M
  rw [F129_12 M, zdo_app]
def O129_14 : List zOp := (O129_13) ++ [(1, 12, 0, 7, (53, 0), 0), (0, 3, 0, 0, (0, 0), 0)]
theorem F129_14 (M : zM) : N129_14 M = zdo O129_14 M := by
  show zdo [(1, 12, 0, 7, (53, 0), 0), (0, 3, 0, 0, (0, 0), 0)] (N129_13 M) = zdo ((O129_13) ++ [(1, 12, 0, 7, (53, 0), 0), (0, 3, 0, 0, (0, 0), 0)]) M
  rw [F129_13 M, zdo_app]
def O129_15 : List zOp := (O129_14) ++ D14_0
theorem F129_15 (M : zM) : N129_15 M = zdo O129_15 M := by
  show zdo D14_0 (N129_14 M) = zdo ((O129_14) ++ D14_0) M
  rw [F129_14 M, zdo_app]
def O129_16 : List zOp := (O129_15) ++ [(1, 12, 0, 8, (3, 0), 0), (0, 6, 0, 0, (0, 0), 0)]
theorem F129_16 (M : zM) : N129_16 M = zdo O129_16 M := by
  show zdo [(1, 12, 0, 8, (3, 0), 0), (0, 6, 0, 0, (0, 0), 0)] (N129_15 M) = zdo ((O129_15) ++ [(1, 12, 0, 8, (3, 0), 0), (0, 6, 0, 0, (0, 0), 0)]) M
  rw [F129_15 M, zdo_app]
def O129_17 : List zOp := (O129_16) ++ D52_0
theorem F129_17 (M : zM) : N129_17 M = zdo O129_17 M := by
  show zdo D52_0 (N129_16 M) = zdo ((O129_16) ++ D52_0) M
  rw [F129_16 M, zdo_app]
def O129_18 : List zOp := (O129_17) ++ [(1, 12, 0, 9, (6, 0), 0), (0, 1, 0, 0, (0, 0), 0)]
theorem F129_18 (M : zM) : N129_18 M = zdo O129_18 M := by
  show zdo [(1, 12, 0, 9, (6, 0), 0), (0, 1, 0, 0, (0, 0), 0)] (N129_17 M) = zdo ((O129_17) ++ [(1, 12, 0, 9, (6, 0), 0), (0, 1, 0, 0, (0, 0), 0)]) M
  rw [F129_17 M, zdo_app]
def O129_19 : List zOp := (O129_18) ++ D1_0
theorem F129_19 (M : zM) : N129_19 M = zdo O129_19 M := by
  show zdo D1_0 (N129_18 M) = zdo ((O129_18) ++ D1_0) M
  rw [F129_18 M, zdo_app]
def O129_20 : List zOp := (O129_19) ++ [(1, 12, 0, 10, (1, 0), 0), (0, 54, 0, 0, (0, 0), 0)]
theorem F129_20 (M : zM) : N129_20 M = zdo O129_20 M := by
  show zdo [(1, 12, 0, 10, (1, 0), 0), (0, 54, 0, 0, (0, 0), 0)] (N129_19 M) = zdo ((O129_19) ++ [(1, 12, 0, 10, (1, 0), 0), (0, 54, 0, 0, (0, 0), 0)]) M
  rw [F129_19 M, zdo_app]
def O129_21 : List zOp := (O129_20) ++ [(1, 12, 0, 11, (54, 0), 0), (2, 12, 0, 15, (0, 0), 9999)]
theorem F129_21 (M : zM) : N129_21 M = zdo O129_21 M := by
  show zdo [(1, 12, 0, 11, (54, 0), 0), (2, 12, 0, 15, (0, 0), 9999)] (N129_20 M) = zdo ((O129_20) ++ [(1, 12, 0, 11, (54, 0), 0), (2, 12, 0, 15, (0, 0), 9999)]) M
  rw [F129_20 M, zdo_app]
def O129_22 : List zOp := (O129_21) ++ [(0, 2, 0, 0, (0, 0), 0)]
theorem F129_22 (M : zM) : N129_22 M = zdo O129_22 M := by
  show zdo [(0, 2, 0, 0, (0, 0), 0)] (N129_21 M) = zdo ((O129_21) ++ [(0, 2, 0, 0, (0, 0), 0)]) M
  rw [F129_21 M, zdo_app]
def O129_23 : List zOp := (O129_22) ++ [(1, 50, 0, 0, (2, 0), 0)]
theorem F129_23 (M : zM) : N129_23 M = zdo O129_23 M := by
  show zdo [(1, 50, 0, 0, (2, 0), 0)] (N129_22 M) = zdo ((O129_22) ++ [(1, 50, 0, 0, (2, 0), 0)]) M
  rw [F129_22 M, zdo_app]
def O129_24 : List zOp := (O129_23) ++ [(0, 2, 1, 0, (0, 0), 0)]
theorem F129_24 (M : zM) : N129_24 M = zdo O129_24 M := by
  show zdo [(0, 2, 1, 0, (0, 0), 0)] (N129_23 M) = zdo ((O129_23) ++ [(0, 2, 1, 0, (0, 0), 0)]) M
  rw [F129_23 M, zdo_app]
def O129_25 : List zOp := (O129_24) ++ [(1, 50, 0, 1, (2, 1), 0)]
theorem F129_25 (M : zM) : N129_25 M = zdo O129_25 M := by
  show zdo [(1, 50, 0, 1, (2, 1), 0)] (N129_24 M) = zdo ((O129_24) ++ [(1, 50, 0, 1, (2, 1), 0)]) M
  rw [F129_24 M, zdo_app]
def O129_26 : List zOp := (O129_25) ++ [(0, 2, 2, 0, (0, 0), 0)]
theorem F129_26 (M : zM) : N129_26 M = zdo O129_26 M := by
  show zdo [(0, 2, 2, 0, (0, 0), 0)] (N129_25 M) = zdo ((O129_25) ++ [(0, 2, 2, 0, (0, 0), 0)]) M
  rw [F129_25 M, zdo_app]
def O129_27 : List zOp := (O129_26) ++ [(1, 50, 0, 2, (2, 2), 0)]
theorem F129_27 (M : zM) : N129_27 M = zdo O129_27 M := by
  show zdo [(1, 50, 0, 2, (2, 2), 0)] (N129_26 M) = zdo ((O129_26) ++ [(1, 50, 0, 2, (2, 2), 0)]) M
  rw [F129_26 M, zdo_app]
def O129_28 : List zOp := (O129_27) ++ [(0, 2, 3, 0, (0, 0), 0)]
theorem F129_28 (M : zM) : N129_28 M = zdo O129_28 M := by
  show zdo [(0, 2, 3, 0, (0, 0), 0)] (N129_27 M) = zdo ((O129_27) ++ [(0, 2, 3, 0, (0, 0), 0)]) M
  rw [F129_27 M, zdo_app]
def O129_29 : List zOp := (O129_28) ++ [(1, 50, 0, 3, (2, 3), 0)]
theorem F129_29 (M : zM) : N129_29 M = zdo O129_29 M := by
  show zdo [(1, 50, 0, 3, (2, 3), 0)] (N129_28 M) = zdo ((O129_28) ++ [(1, 50, 0, 3, (2, 3), 0)]) M
  rw [F129_28 M, zdo_app]
def O129_30 : List zOp := (O129_29) ++ [(0, 2, 4, 0, (0, 0), 0)]
theorem F129_30 (M : zM) : N129_30 M = zdo O129_30 M := by
  show zdo [(0, 2, 4, 0, (0, 0), 0)] (N129_29 M) = zdo ((O129_29) ++ [(0, 2, 4, 0, (0, 0), 0)]) M
  rw [F129_29 M, zdo_app]
def O129_31 : List zOp := (O129_30) ++ [(1, 50, 0, 4, (2, 4), 0)]
theorem F129_31 (M : zM) : N129_31 M = zdo O129_31 M := by
  show zdo [(1, 50, 0, 4, (2, 4), 0)] (N129_30 M) = zdo ((O129_30) ++ [(1, 50, 0, 4, (2, 4), 0)]) M
  rw [F129_30 M, zdo_app]
def O129_32 : List zOp := (O129_31) ++ [(0, 2, 5, 0, (0, 0), 0)]
theorem F129_32 (M : zM) : N129_32 M = zdo O129_32 M := by
  show zdo [(0, 2, 5, 0, (0, 0), 0)] (N129_31 M) = zdo ((O129_31) ++ [(0, 2, 5, 0, (0, 0), 0)]) M
  rw [F129_31 M, zdo_app]
def O129_33 : List zOp := (O129_32) ++ [(1, 50, 0, 5, (2, 5), 0)]
theorem F129_33 (M : zM) : N129_33 M = zdo O129_33 M := by
  show zdo [(1, 50, 0, 5, (2, 5), 0)] (N129_32 M) = zdo ((O129_32) ++ [(1, 50, 0, 5, (2, 5), 0)]) M
  rw [F129_32 M, zdo_app]
def O129_34 : List zOp := (O129_33) ++ [(0, 2, 6, 0, (0, 0), 0)]
theorem F129_34 (M : zM) : N129_34 M = zdo O129_34 M := by
  show zdo [(0, 2, 6, 0, (0, 0), 0)] (N129_33 M) = zdo ((O129_33) ++ [(0, 2, 6, 0, (0, 0), 0)]) M
  rw [F129_33 M, zdo_app]
def O129_35 : List zOp := (O129_34) ++ [(1, 50, 0, 6, (2, 6), 0)]
theorem F129_35 (M : zM) : N129_35 M = zdo O129_35 M := by
  show zdo [(1, 50, 0, 6, (2, 6), 0)] (N129_34 M) = zdo ((O129_34) ++ [(1, 50, 0, 6, (2, 6), 0)]) M
  rw [F129_34 M, zdo_app]
def O129_36 : List zOp := (O129_35) ++ [(0, 2, 7, 0, (0, 0), 0)]
theorem F129_36 (M : zM) : N129_36 M = zdo O129_36 M := by
  show zdo [(0, 2, 7, 0, (0, 0), 0)] (N129_35 M) = zdo ((O129_35) ++ [(0, 2, 7, 0, (0, 0), 0)]) M
  rw [F129_35 M, zdo_app]
def O129_37 : List zOp := (O129_36) ++ [(1, 50, 0, 7, (2, 7), 0)]
theorem F129_37 (M : zM) : N129_37 M = zdo O129_37 M := by
  show zdo [(1, 50, 0, 7, (2, 7), 0)] (N129_36 M) = zdo ((O129_36) ++ [(1, 50, 0, 7, (2, 7), 0)]) M
  rw [F129_36 M, zdo_app]
def O129_38 : List zOp := (O129_37) ++ [(0, 2, 8, 0, (0, 0), 0)]
theorem F129_38 (M : zM) : N129_38 M = zdo O129_38 M := by
  show zdo [(0, 2, 8, 0, (0, 0), 0)] (N129_37 M) = zdo ((O129_37) ++ [(0, 2, 8, 0, (0, 0), 0)]) M
  rw [F129_37 M, zdo_app]
def O129_39 : List zOp := (O129_38) ++ [(1, 50, 0, 8, (2, 8), 0)]
theorem F129_39 (M : zM) : N129_39 M = zdo O129_39 M := by
  show zdo [(1, 50, 0, 8, (2, 8), 0)] (N129_38 M) = zdo ((O129_38) ++ [(1, 50, 0, 8, (2, 8), 0)]) M
  rw [F129_38 M, zdo_app]
def O129_40 : List zOp := (O129_39) ++ [(0, 2, 9, 0, (0, 0), 0)]
theorem F129_40 (M : zM) : N129_40 M = zdo O129_40 M := by
  show zdo [(0, 2, 9, 0, (0, 0), 0)] (N129_39 M) = zdo ((O129_39) ++ [(0, 2, 9, 0, (0, 0), 0)]) M
  rw [F129_39 M, zdo_app]
def O129_41 : List zOp := (O129_40) ++ [(1, 50, 0, 9, (2, 9), 0)]
theorem F129_41 (M : zM) : N129_41 M = zdo O129_41 M := by
  show zdo [(1, 50, 0, 9, (2, 9), 0)] (N129_40 M) = zdo ((O129_40) ++ [(1, 50, 0, 9, (2, 9), 0)]) M
  rw [F129_40 M, zdo_app]
def O129_42 : List zOp := (O129_41) ++ [(0, 4, 0, 0, (0, 0), 0)]
theorem F129_42 (M : zM) : N129_42 M = zdo O129_42 M := by
  show zdo [(0, 4, 0, 0, (0, 0), 0)] (N129_41 M) = zdo ((O129_41) ++ [(0, 4, 0, 0, (0, 0), 0)]) M
  rw [F129_41 M, zdo_app]
def O129_43 : List zOp := (O129_42) ++ D20_0
theorem F129_43 (M : zM) : N129_43 M = zdo O129_43 M := by
  show zdo D20_0 (N129_42 M) = zdo ((O129_42) ++ D20_0) M
  rw [F129_42 M, zdo_app]
def O129_44 : List zOp := (O129_43) ++ [(1, 51, 0, 0, (4, 0), 0)]
theorem F129_44 (M : zM) : N129_44 M = zdo O129_44 M := by
  show zdo [(1, 51, 0, 0, (4, 0), 0)] (N129_43 M) = zdo ((O129_43) ++ [(1, 51, 0, 0, (4, 0), 0)]) M
  rw [F129_43 M, zdo_app]
def O129_45 : List zOp := (O129_44) ++ [(0, 4, 1, 0, (0, 0), 0)]
theorem F129_45 (M : zM) : N129_45 M = zdo O129_45 M := by
  show zdo [(0, 4, 1, 0, (0, 0), 0)] (N129_44 M) = zdo ((O129_44) ++ [(0, 4, 1, 0, (0, 0), 0)]) M
  rw [F129_44 M, zdo_app]
def O129_46 : List zOp := (O129_45) ++ D20_1
theorem F129_46 (M : zM) : N129_46 M = zdo O129_46 M := by
  show zdo D20_1 (N129_45 M) = zdo ((O129_45) ++ D20_1) M
  rw [F129_45 M, zdo_app]
def O129_47 : List zOp := (O129_46) ++ [(1, 51, 0, 1, (4, 1), 0)]
theorem F129_47 (M : zM) : N129_47 M = zdo O129_47 M := by
  show zdo [(1, 51, 0, 1, (4, 1), 0)] (N129_46 M) = zdo ((O129_46) ++ [(1, 51, 0, 1, (4, 1), 0)]) M
  rw [F129_46 M, zdo_app]
def O129_48 : List zOp := (O129_47) ++ [(0, 4, 2, 0, (0, 0), 0)]
theorem F129_48 (M : zM) : N129_48 M = zdo O129_48 M := by
  show zdo [(0, 4, 2, 0, (0, 0), 0)] (N129_47 M) = zdo ((O129_47) ++ [(0, 4, 2, 0, (0, 0), 0)]) M
  rw [F129_47 M, zdo_app]
def O129_49 : List zOp := (O129_48) ++ D20_2
theorem F129_49 (M : zM) : N129_49 M = zdo O129_49 M := by
  show zdo D20_2 (N129_48 M) = zdo ((O129_48) ++ D20_2) M
  rw [F129_48 M, zdo_app]
def O129_50 : List zOp := (O129_49) ++ [(1, 51, 0, 2, (4, 2), 0)]
theorem F129_50 (M : zM) : N129_50 M = zdo O129_50 M := by
  show zdo [(1, 51, 0, 2, (4, 2), 0)] (N129_49 M) = zdo ((O129_49) ++ [(1, 51, 0, 2, (4, 2), 0)]) M
  rw [F129_49 M, zdo_app]
def O129_51 : List zOp := (O129_50) ++ [(0, 4, 3, 0, (0, 0), 0)]
theorem F129_51 (M : zM) : N129_51 M = zdo O129_51 M := by
  show zdo [(0, 4, 3, 0, (0, 0), 0)] (N129_50 M) = zdo ((O129_50) ++ [(0, 4, 3, 0, (0, 0), 0)]) M
  rw [F129_50 M, zdo_app]
def O129_52 : List zOp := (O129_51) ++ D20_3
theorem F129_52 (M : zM) : N129_52 M = zdo O129_52 M := by
  show zdo D20_3 (N129_51 M) = zdo ((O129_51) ++ D20_3) M
  rw [F129_51 M, zdo_app]
def O129_53 : List zOp := (O129_52) ++ [(1, 51, 0, 3, (4, 3), 0)]
theorem F129_53 (M : zM) : N129_53 M = zdo O129_53 M := by
  show zdo [(1, 51, 0, 3, (4, 3), 0)] (N129_52 M) = zdo ((O129_52) ++ [(1, 51, 0, 3, (4, 3), 0)]) M
  rw [F129_52 M, zdo_app]
def O129_54 : List zOp := (O129_53) ++ [(0, 4, 4, 0, (0, 0), 0)]
theorem F129_54 (M : zM) : N129_54 M = zdo O129_54 M := by
  show zdo [(0, 4, 4, 0, (0, 0), 0)] (N129_53 M) = zdo ((O129_53) ++ [(0, 4, 4, 0, (0, 0), 0)]) M
  rw [F129_53 M, zdo_app]
def O129_55 : List zOp := (O129_54) ++ D20_4
theorem F129_55 (M : zM) : N129_55 M = zdo O129_55 M := by
  show zdo D20_4 (N129_54 M) = zdo ((O129_54) ++ D20_4) M
  rw [F129_54 M, zdo_app]
def O129_56 : List zOp := (O129_55) ++ [(1, 51, 0, 4, (4, 4), 0)]
theorem F129_56 (M : zM) : N129_56 M = zdo O129_56 M := by
  show zdo [(1, 51, 0, 4, (4, 4), 0)] (N129_55 M) = zdo ((O129_55) ++ [(1, 51, 0, 4, (4, 4), 0)]) M
  rw [F129_55 M, zdo_app]
def O129_57 : List zOp := (O129_56) ++ [(0, 4, 5, 0, (0, 0), 0)]
theorem F129_57 (M : zM) : N129_57 M = zdo O129_57 M := by
  show zdo [(0, 4, 5, 0, (0, 0), 0)] (N129_56 M) = zdo ((O129_56) ++ [(0, 4, 5, 0, (0, 0), 0)]) M
  rw [F129_56 M, zdo_app]
def O129_58 : List zOp := (O129_57) ++ D20_5
theorem F129_58 (M : zM) : N129_58 M = zdo O129_58 M := by
  show zdo D20_5 (N129_57 M) = zdo ((O129_57) ++ D20_5) M
  rw [F129_57 M, zdo_app]
def O129_59 : List zOp := (O129_58) ++ [(1, 51, 0, 5, (4, 5), 0)]
theorem F129_59 (M : zM) : N129_59 M = zdo O129_59 M := by
  show zdo [(1, 51, 0, 5, (4, 5), 0)] (N129_58 M) = zdo ((O129_58) ++ [(1, 51, 0, 5, (4, 5), 0)]) M
  rw [F129_58 M, zdo_app]
def O129_60 : List zOp := (O129_59) ++ [(0, 4, 6, 0, (0, 0), 0)]
theorem F129_60 (M : zM) : N129_60 M = zdo O129_60 M := by
  show zdo [(0, 4, 6, 0, (0, 0), 0)] (N129_59 M) = zdo ((O129_59) ++ [(0, 4, 6, 0, (0, 0), 0)]) M
  rw [F129_59 M, zdo_app]
def O129_61 : List zOp := (O129_60) ++ D20_6
theorem F129_61 (M : zM) : N129_61 M = zdo O129_61 M := by
  show zdo D20_6 (N129_60 M) = zdo ((O129_60) ++ D20_6) M
  rw [F129_60 M, zdo_app]
def O129_62 : List zOp := (O129_61) ++ [(1, 51, 0, 6, (4, 6), 0)]
theorem F129_62 (M : zM) : N129_62 M = zdo O129_62 M := by
  show zdo [(1, 51, 0, 6, (4, 6), 0)] (N129_61 M) = zdo ((O129_61) ++ [(1, 51, 0, 6, (4, 6), 0)]) M
  rw [F129_61 M, zdo_app]
def O129_63 : List zOp := (O129_62) ++ [(0, 4, 7, 0, (0, 0), 0)]
theorem F129_63 (M : zM) : N129_63 M = zdo O129_63 M := by
  show zdo [(0, 4, 7, 0, (0, 0), 0)] (N129_62 M) = zdo ((O129_62) ++ [(0, 4, 7, 0, (0, 0), 0)]) M
  rw [F129_62 M, zdo_app]
def O129_64 : List zOp := (O129_63) ++ D20_7
theorem F129_64 (M : zM) : N129_64 M = zdo O129_64 M := by
  show zdo D20_7 (N129_63 M) = zdo ((O129_63) ++ D20_7) M
  rw [F129_63 M, zdo_app]
def O129_65 : List zOp := (O129_64) ++ [(1, 51, 0, 7, (4, 7), 0)]
theorem F129_65 (M : zM) : N129_65 M = zdo O129_65 M := by
  show zdo [(1, 51, 0, 7, (4, 7), 0)] (N129_64 M) = zdo ((O129_64) ++ [(1, 51, 0, 7, (4, 7), 0)]) M
  rw [F129_64 M, zdo_app]
def O129_66 : List zOp := (O129_65) ++ [(0, 4, 8, 0, (0, 0), 0)]
theorem F129_66 (M : zM) : N129_66 M = zdo O129_66 M := by
  show zdo [(0, 4, 8, 0, (0, 0), 0)] (N129_65 M) = zdo ((O129_65) ++ [(0, 4, 8, 0, (0, 0), 0)]) M
  rw [F129_65 M, zdo_app]
def O129_67 : List zOp := (O129_66) ++ D20_8
theorem F129_67 (M : zM) : N129_67 M = zdo O129_67 M := by
  show zdo D20_8 (N129_66 M) = zdo ((O129_66) ++ D20_8) M
  rw [F129_66 M, zdo_app]
def O129_68 : List zOp := (O129_67) ++ [(1, 51, 0, 8, (4, 8), 0)]
theorem F129_68 (M : zM) : N129_68 M = zdo O129_68 M := by
  show zdo [(1, 51, 0, 8, (4, 8), 0)] (N129_67 M) = zdo ((O129_67) ++ [(1, 51, 0, 8, (4, 8), 0)]) M
  rw [F129_67 M, zdo_app]
def O129_69 : List zOp := (O129_68) ++ [(0, 4, 9, 0, (0, 0), 0)]
theorem F129_69 (M : zM) : N129_69 M = zdo O129_69 M := by
  show zdo [(0, 4, 9, 0, (0, 0), 0)] (N129_68 M) = zdo ((O129_68) ++ [(0, 4, 9, 0, (0, 0), 0)]) M
  rw [F129_68 M, zdo_app]
def O129_70 : List zOp := (O129_69) ++ D20_9
theorem F129_70 (M : zM) : N129_70 M = zdo O129_70 M := by
  show zdo D20_9 (N129_69 M) = zdo ((O129_69) ++ D20_9) M
  rw [F129_69 M, zdo_app]
def O129_71 : List zOp := (O129_70) ++ [(1, 51, 0, 9, (4, 9), 0)]
theorem F129_71 (M : zM) : N129_71 M = zdo O129_71 M := by
  show zdo [(1, 51, 0, 9, (4, 9), 0)] (N129_70 M) = zdo ((O129_70) ++ [(1, 51, 0, 9, (4, 9), 0)]) M
  rw [F129_70 M, zdo_app]
def O129_72 : List zOp := (O129_71) ++ [(0, 4, 10, 0, (0, 0), 0)]
theorem F129_72 (M : zM) : N129_72 M = zdo O129_72 M := by
  show zdo [(0, 4, 10, 0, (0, 0), 0)] (N129_71 M) = zdo ((O129_71) ++ [(0, 4, 10, 0, (0, 0), 0)]) M
  rw [F129_71 M, zdo_app]
def O129_73 : List zOp := (O129_72) ++ D20_10
theorem F129_73 (M : zM) : N129_73 M = zdo O129_73 M := by
  show zdo D20_10 (N129_72 M) = zdo ((O129_72) ++ D20_10) M
  rw [F129_72 M, zdo_app]
def O129_74 : List zOp := (O129_73) ++ [(1, 51, 0, 10, (4, 10), 0)]
theorem F129_74 (M : zM) : N129_74 M = zdo O129_74 M := by
  show zdo [(1, 51, 0, 10, (4, 10), 0)] (N129_73 M) = zdo ((O129_73) ++ [(1, 51, 0, 10, (4, 10), 0)]) M
  rw [F129_73 M, zdo_app]
def O129_75 : List zOp := (O129_74) ++ [(0, 4, 11, 0, (0, 0), 0)]
theorem F129_75 (M : zM) : N129_75 M = zdo O129_75 M := by
  show zdo [(0, 4, 11, 0, (0, 0), 0)] (N129_74 M) = zdo ((O129_74) ++ [(0, 4, 11, 0, (0, 0), 0)]) M
  rw [F129_74 M, zdo_app]
def O129_76 : List zOp := (O129_75) ++ D20_11
theorem F129_76 (M : zM) : N129_76 M = zdo O129_76 M := by
  show zdo D20_11 (N129_75 M) = zdo ((O129_75) ++ D20_11) M
  rw [F129_75 M, zdo_app]
def O129_77 : List zOp := (O129_76) ++ [(1, 51, 0, 11, (4, 11), 0)]
theorem F129_77 (M : zM) : N129_77 M = zdo O129_77 M := by
  show zdo [(1, 51, 0, 11, (4, 11), 0)] (N129_76 M) = zdo ((O129_76) ++ [(1, 51, 0, 11, (4, 11), 0)]) M
  rw [F129_76 M, zdo_app]
def O129_78 : List zOp := (O129_77) ++ [(0, 4, 12, 0, (0, 0), 0)]
theorem F129_78 (M : zM) : N129_78 M = zdo O129_78 M := by
  show zdo [(0, 4, 12, 0, (0, 0), 0)] (N129_77 M) = zdo ((O129_77) ++ [(0, 4, 12, 0, (0, 0), 0)]) M
  rw [F129_77 M, zdo_app]
def O129_79 : List zOp := (O129_78) ++ D20_12
theorem F129_79 (M : zM) : N129_79 M = zdo O129_79 M := by
  show zdo D20_12 (N129_78 M) = zdo ((O129_78) ++ D20_12) M
  rw [F129_78 M, zdo_app]
def O129_80 : List zOp := (O129_79) ++ [(1, 51, 0, 12, (4, 12), 0)]
theorem F129_80 (M : zM) : N129_80 M = zdo O129_80 M := by
  show zdo [(1, 51, 0, 12, (4, 12), 0)] (N129_79 M) = zdo ((O129_79) ++ [(1, 51, 0, 12, (4, 12), 0)]) M
  rw [F129_79 M, zdo_app]
def O129_81 : List zOp := (O129_80) ++ [(0, 4, 13, 0, (0, 0), 0)]
theorem F129_81 (M : zM) : N129_81 M = zdo O129_81 M := by
  show zdo [(0, 4, 13, 0, (0, 0), 0)] (N129_80 M) = zdo ((O129_80) ++ [(0, 4, 13, 0, (0, 0), 0)]) M
  rw [F129_80 M, zdo_app]
def O129_82 : List zOp := (O129_81) ++ D20_13
theorem F129_82 (M : zM) : N129_82 M = zdo O129_82 M := by
  show zdo D20_13 (N129_81 M) = zdo ((O129_81) ++ D20_13) M
  rw [F129_81 M, zdo_app]
def O129_83 : List zOp := (O129_82) ++ [(1, 51, 0, 13, (4, 13), 0)]
theorem F129_83 (M : zM) : N129_83 M = zdo O129_83 M := by
  show zdo [(1, 51, 0, 13, (4, 13), 0)] (N129_82 M) = zdo ((O129_82) ++ [(1, 51, 0, 13, (4, 13), 0)]) M
  rw [F129_82 M, zdo_app]
def O129_84 : List zOp := (O129_83) ++ [(0, 4, 14, 0, (0, 0), 0)]
theorem F129_84 (M : zM) : N129_84 M = zdo O129_84 M := by
  show zdo [(0, 4, 14, 0, (0, 0), 0)] (N129_83 M) = zdo ((O129_83) ++ [(0, 4, 14, 0, (0, 0), 0)]) M
  rw [F129_83 M, zdo_app]
def O129_85 : List zOp := (O129_84) ++ D20_14
theorem F129_85 (M : zM) : N129_85 M = zdo O129_85 M := by
  show zdo D20_14 (N129_84 M) = zdo ((O129_84) ++ D20_14) M
  rw [F129_84 M, zdo_app]
def O129_86 : List zOp := (O129_85) ++ [(1, 51, 0, 14, (4, 14), 0)]
theorem F129_86 (M : zM) : N129_86 M = zdo O129_86 M := by
  show zdo [(1, 51, 0, 14, (4, 14), 0)] (N129_85 M) = zdo ((O129_85) ++ [(1, 51, 0, 14, (4, 14), 0)]) M
  rw [F129_85 M, zdo_app]
def O129_87 : List zOp := (O129_86) ++ [(0, 4, 15, 0, (0, 0), 0)]
theorem F129_87 (M : zM) : N129_87 M = zdo O129_87 M := by
  show zdo [(0, 4, 15, 0, (0, 0), 0)] (N129_86 M) = zdo ((O129_86) ++ [(0, 4, 15, 0, (0, 0), 0)]) M
  rw [F129_86 M, zdo_app]
def O129_88 : List zOp := (O129_87) ++ D20_15
theorem F129_88 (M : zM) : N129_88 M = zdo O129_88 M := by
  show zdo D20_15 (N129_87 M) = zdo ((O129_87) ++ D20_15) M
  rw [F129_87 M, zdo_app]
def O129_89 : List zOp := (O129_88) ++ [(1, 51, 0, 15, (4, 15), 0)]
theorem F129_89 (M : zM) : N129_89 M = zdo O129_89 M := by
  show zdo [(1, 51, 0, 15, (4, 15), 0)] (N129_88 M) = zdo ((O129_88) ++ [(1, 51, 0, 15, (4, 15), 0)]) M
  rw [F129_88 M, zdo_app]
def O129_90 : List zOp := (O129_89) ++ [(0, 4, 16, 0, (0, 0), 0)]
theorem F129_90 (M : zM) : N129_90 M = zdo O129_90 M := by
  show zdo [(0, 4, 16, 0, (0, 0), 0)] (N129_89 M) = zdo ((O129_89) ++ [(0, 4, 16, 0, (0, 0), 0)]) M
  rw [F129_89 M, zdo_app]
def O129_91 : List zOp := (O129_90) ++ D20_16
theorem F129_91 (M : zM) : N129_91 M = zdo O129_91 M := by
  show zdo D20_16 (N129_90 M) = zdo ((O129_90) ++ D20_16) M
  rw [F129_90 M, zdo_app]
def O129_92 : List zOp := (O129_91) ++ [(1, 51, 0, 16, (4, 16), 0)]
theorem F129_92 (M : zM) : N129_92 M = zdo O129_92 M := by
  show zdo [(1, 51, 0, 16, (4, 16), 0)] (N129_91 M) = zdo ((O129_91) ++ [(1, 51, 0, 16, (4, 16), 0)]) M
  rw [F129_91 M, zdo_app]
def O129_93 : List zOp := (O129_92) ++ [(0, 4, 17, 0, (0, 0), 0)]
theorem F129_93 (M : zM) : N129_93 M = zdo O129_93 M := by
  show zdo [(0, 4, 17, 0, (0, 0), 0)] (N129_92 M) = zdo ((O129_92) ++ [(0, 4, 17, 0, (0, 0), 0)]) M
  rw [F129_92 M, zdo_app]
def O129_94 : List zOp := (O129_93) ++ D20_17
theorem F129_94 (M : zM) : N129_94 M = zdo O129_94 M := by
  show zdo D20_17 (N129_93 M) = zdo ((O129_93) ++ D20_17) M
  rw [F129_93 M, zdo_app]
def O129_95 : List zOp := (O129_94) ++ [(1, 51, 0, 17, (4, 17), 0)]
theorem F129_95 (M : zM) : N129_95 M = zdo O129_95 M := by
  show zdo [(1, 51, 0, 17, (4, 17), 0)] (N129_94 M) = zdo ((O129_94) ++ [(1, 51, 0, 17, (4, 17), 0)]) M
  rw [F129_94 M, zdo_app]
def O129_96 : List zOp := (O129_95) ++ [(0, 4, 18, 0, (0, 0), 0)]
theorem F129_96 (M : zM) : N129_96 M = zdo O129_96 M := by
  show zdo [(0, 4, 18, 0, (0, 0), 0)] (N129_95 M) = zdo ((O129_95) ++ [(0, 4, 18, 0, (0, 0), 0)]) M
  rw [F129_95 M, zdo_app]
def O129_97 : List zOp := (O129_96) ++ D20_18
theorem F129_97 (M : zM) : N129_97 M = zdo O129_97 M := by
  show zdo D20_18 (N129_96 M) = zdo ((O129_96) ++ D20_18) M
  rw [F129_96 M, zdo_app]
def O129_98 : List zOp := (O129_97) ++ [(1, 51, 0, 18, (4, 18), 0)]
theorem F129_98 (M : zM) : N129_98 M = zdo O129_98 M := by
  show zdo [(1, 51, 0, 18, (4, 18), 0)] (N129_97 M) = zdo ((O129_97) ++ [(1, 51, 0, 18, (4, 18), 0)]) M
  rw [F129_97 M, zdo_app]
def O129_99 : List zOp := (O129_98) ++ [(0, 4, 19, 0, (0, 0), 0)]
theorem F129_99 (M : zM) : N129_99 M = zdo O129_99 M := by
  show zdo [(0, 4, 19, 0, (0, 0), 0)] (N129_98 M) = zdo ((O129_98) ++ [(0, 4, 19, 0, (0, 0), 0)]) M
  rw [F129_98 M, zdo_app]
def O129_100 : List zOp := (O129_99) ++ D20_19
theorem F129_100 (M : zM) : N129_100 M = zdo O129_100 M := by
  show zdo D20_19 (N129_99 M) = zdo ((O129_99) ++ D20_19) M
  rw [F129_99 M, zdo_app]
def O129_101 : List zOp := (O129_100) ++ [(1, 51, 0, 19, (4, 19), 0)]
theorem F129_101 (M : zM) : N129_101 M = zdo O129_101 M := by
  show zdo [(1, 51, 0, 19, (4, 19), 0)] (N129_100 M) = zdo ((O129_100) ++ [(1, 51, 0, 19, (4, 19), 0)]) M
  rw [F129_100 M, zdo_app]
def O129_102 : List zOp := (O129_101) ++ [(0, 4, 20, 0, (0, 0), 0)]
theorem F129_102 (M : zM) : N129_102 M = zdo O129_102 M := by
  show zdo [(0, 4, 20, 0, (0, 0), 0)] (N129_101 M) = zdo ((O129_101) ++ [(0, 4, 20, 0, (0, 0), 0)]) M
  rw [F129_101 M, zdo_app]
def O129_103 : List zOp := (O129_102) ++ D20_20
theorem F129_103 (M : zM) : N129_103 M = zdo O129_103 M := by
  show zdo D20_20 (N129_102 M) = zdo ((O129_102) ++ D20_20) M
  rw [F129_102 M, zdo_app]
def O129_104 : List zOp := (O129_103) ++ [(1, 51, 0, 20, (4, 20), 0)]
theorem F129_104 (M : zM) : N129_104 M = zdo O129_104 M := by
  show zdo [(1, 51, 0, 20, (4, 20), 0)] (N129_103 M) = zdo ((O129_103) ++ [(1, 51, 0, 20, (4, 20), 0)]) M
  rw [F129_103 M, zdo_app]
def O129_105 : List zOp := (O129_104) ++ [(0, 4, 21, 0, (0, 0), 0)]
theorem F129_105 (M : zM) : N129_105 M = zdo O129_105 M := by
  show zdo [(0, 4, 21, 0, (0, 0), 0)] (N129_104 M) = zdo ((O129_104) ++ [(0, 4, 21, 0, (0, 0), 0)]) M
  rw [F129_104 M, zdo_app]
def O129_106 : List zOp := (O129_105) ++ D20_21
theorem F129_106 (M : zM) : N129_106 M = zdo O129_106 M := by
  show zdo D20_21 (N129_105 M) = zdo ((O129_105) ++ D20_21) M
  rw [F129_105 M, zdo_app]
def O129_107 : List zOp := (O129_106) ++ [(1, 51, 0, 21, (4, 21), 0)]
theorem F129_107 (M : zM) : N129_107 M = zdo O129_107 M := by
  show zdo [(1, 51, 0, 21, (4, 21), 0)] (N129_106 M) = zdo ((O129_106) ++ [(1, 51, 0, 21, (4, 21), 0)]) M
  rw [F129_106 M, zdo_app]
def O129_108 : List zOp := (O129_107) ++ [(0, 4, 22, 0, (0, 0), 0)]
theorem F129_108 (M : zM) : N129_108 M = zdo O129_108 M := by
  show zdo [(0, 4, 22, 0, (0, 0), 0)] (N129_107 M) = zdo ((O129_107) ++ [(0, 4, 22, 0, (0, 0), 0)]) M
  rw [F129_107 M, zdo_app]
def O129_109 : List zOp := (O129_108) ++ D20_22
theorem F129_109 (M : zM) : N129_109 M = zdo O129_109 M := by
  show zdo D20_22 (N129_108 M) = zdo ((O129_108) ++ D20_22) M
  rw [F129_108 M, zdo_app]
def O129_110 : List zOp := (O129_109) ++ [(1, 51, 0, 22, (4, 22), 0)]
theorem F129_110 (M : zM) : N129_110 M = zdo O129_110 M := by
  show zdo [(1, 51, 0, 22, (4, 22), 0)] (N129_109 M) = zdo ((O129_109) ++ [(1, 51, 0, 22, (4, 22), 0)]) M
  rw [F129_109 M, zdo_app]
def O129_111 : List zOp := (O129_110) ++ [(0, 4, 23, 0, (0, 0), 0)]
theorem F129_111 (M : zM) : N129_111 M = zdo O129_111 M := by
  show zdo [(0, 4, 23, 0, (0, 0), 0)] (N129_110 M) = zdo ((O129_110) ++ [(0, 4, 23, 0, (0, 0), 0)]) M
  rw [F129_110 M, zdo_app]
def O129_112 : List zOp := (O129_111) ++ D20_23
theorem F129_112 (M : zM) : N129_112 M = zdo O129_112 M := by
  show zdo D20_23 (N129_111 M) = zdo ((O129_111) ++ D20_23) M
  rw [F129_111 M, zdo_app]
def O129_113 : List zOp := (O129_112) ++ [(1, 51, 0, 23, (4, 23), 0)]
theorem F129_113 (M : zM) : N129_113 M = zdo O129_113 M := by
  show zdo [(1, 51, 0, 23, (4, 23), 0)] (N129_112 M) = zdo ((O129_112) ++ [(1, 51, 0, 23, (4, 23), 0)]) M
  rw [F129_112 M, zdo_app]
def O129_114 : List zOp := (O129_113) ++ [(0, 4, 24, 0, (0, 0), 0)]
theorem F129_114 (M : zM) : N129_114 M = zdo O129_114 M := by
  show zdo [(0, 4, 24, 0, (0, 0), 0)] (N129_113 M) = zdo ((O129_113) ++ [(0, 4, 24, 0, (0, 0), 0)]) M
  rw [F129_113 M, zdo_app]
def O129_115 : List zOp := (O129_114) ++ D20_24
theorem F129_115 (M : zM) : N129_115 M = zdo O129_115 M := by
  show zdo D20_24 (N129_114 M) = zdo ((O129_114) ++ D20_24) M
  rw [F129_114 M, zdo_app]
def O129_116 : List zOp := (O129_115) ++ [(1, 51, 0, 24, (4, 24), 0)]
theorem F129_116 (M : zM) : N129_116 M = zdo O129_116 M := by
  show zdo [(1, 51, 0, 24, (4, 24), 0)] (N129_115 M) = zdo ((O129_115) ++ [(1, 51, 0, 24, (4, 24), 0)]) M
  rw [F129_115 M, zdo_app]
def O129_117 : List zOp := (O129_116) ++ [(0, 4, 25, 0, (0, 0), 0)]
theorem F129_117 (M : zM) : N129_117 M = zdo O129_117 M := by
  show zdo [(0, 4, 25, 0, (0, 0), 0)] (N129_116 M) = zdo ((O129_116) ++ [(0, 4, 25, 0, (0, 0), 0)]) M
  rw [F129_116 M, zdo_app]
def O129_118 : List zOp := (O129_117) ++ D20_25
theorem F129_118 (M : zM) : N129_118 M = zdo O129_118 M := by
  show zdo D20_25 (N129_117 M) = zdo ((O129_117) ++ D20_25) M
  rw [F129_117 M, zdo_app]
def O129_119 : List zOp := (O129_118) ++ [(1, 51, 0, 25, (4, 25), 0)]
theorem F129_119 (M : zM) : N129_119 M = zdo O129_119 M := by
  show zdo [(1, 51, 0, 25, (4, 25), 0)] (N129_118 M) = zdo ((O129_118) ++ [(1, 51, 0, 25, (4, 25), 0)]) M
  rw [F129_118 M, zdo_app]
def O129_120 : List zOp := (O129_119) ++ [(0, 4, 26, 0, (0, 0), 0)]
theorem F129_120 (M : zM) : N129_120 M = zdo O129_120 M := by
  show zdo [(0, 4, 26, 0, (0, 0), 0)] (N129_119 M) = zdo ((O129_119) ++ [(0, 4, 26, 0, (0, 0), 0)]) M
  rw [F129_119 M, zdo_app]
def O129_121 : List zOp := (O129_120) ++ D20_26
theorem F129_121 (M : zM) : N129_121 M = zdo O129_121 M := by
  show zdo D20_26 (N129_120 M) = zdo ((O129_120) ++ D20_26) M
  rw [F129_120 M, zdo_app]
def O129_122 : List zOp := (O129_121) ++ [(1, 51, 0, 26, (4, 26), 0)]
theorem F129_122 (M : zM) : N129_122 M = zdo O129_122 M := by
  show zdo [(1, 51, 0, 26, (4, 26), 0)] (N129_121 M) = zdo ((O129_121) ++ [(1, 51, 0, 26, (4, 26), 0)]) M
  rw [F129_121 M, zdo_app]
def O129_123 : List zOp := (O129_122) ++ [(0, 4, 27, 0, (0, 0), 0)]
theorem F129_123 (M : zM) : N129_123 M = zdo O129_123 M := by
  show zdo [(0, 4, 27, 0, (0, 0), 0)] (N129_122 M) = zdo ((O129_122) ++ [(0, 4, 27, 0, (0, 0), 0)]) M
  rw [F129_122 M, zdo_app]
def O129_124 : List zOp := (O129_123) ++ D20_27
theorem F129_124 (M : zM) : N129_124 M = zdo O129_124 M := by
  show zdo D20_27 (N129_123 M) = zdo ((O129_123) ++ D20_27) M
  rw [F129_123 M, zdo_app]
def O129_125 : List zOp := (O129_124) ++ [(1, 51, 0, 27, (4, 27), 0)]
theorem F129_125 (M : zM) : N129_125 M = zdo O129_125 M := by
  show zdo [(1, 51, 0, 27, (4, 27), 0)] (N129_124 M) = zdo ((O129_124) ++ [(1, 51, 0, 27, (4, 27), 0)]) M
  rw [F129_124 M, zdo_app]
def O129_126 : List zOp := (O129_125) ++ [(0, 4, 28, 0, (0, 0), 0)]
theorem F129_126 (M : zM) : N129_126 M = zdo O129_126 M := by
  show zdo [(0, 4, 28, 0, (0, 0), 0)] (N129_125 M) = zdo ((O129_125) ++ [(0, 4, 28, 0, (0, 0), 0)]) M
  rw [F129_125 M, zdo_app]
def O129_127 : List zOp := (O129_126) ++ D20_28
theorem F129_127 (M : zM) : N129_127 M = zdo O129_127 M := by
  show zdo D20_28 (N129_126 M) = zdo ((O129_126) ++ D20_28) M
  rw [F129_126 M, zdo_app]
def O129_128 : List zOp := (O129_127) ++ [(1, 51, 0, 28, (4, 28), 0)]
theorem F129_128 (M : zM) : N129_128 M = zdo O129_128 M := by
  show zdo [(1, 51, 0, 28, (4, 28), 0)] (N129_127 M) = zdo ((O129_127) ++ [(1, 51, 0, 28, (4, 28), 0)]) M
  rw [F129_127 M, zdo_app]
def O129_129 : List zOp := (O129_128) ++ [(0, 4, 29, 0, (0, 0), 0)]
theorem F129_129 (M : zM) : N129_129 M = zdo O129_129 M := by
  show zdo [(0, 4, 29, 0, (0, 0), 0)] (N129_128 M) = zdo ((O129_128) ++ [(0, 4, 29, 0, (0, 0), 0)]) M
  rw [F129_128 M, zdo_app]
def O129_130 : List zOp := (O129_129) ++ D20_29
theorem F129_130 (M : zM) : N129_130 M = zdo O129_130 M := by
  show zdo D20_29 (N129_129 M) = zdo ((O129_129) ++ D20_29) M
  rw [F129_129 M, zdo_app]
def O129_131 : List zOp := (O129_130) ++ [(1, 51, 0, 29, (4, 29), 0)]
theorem F129_131 (M : zM) : N129_131 M = zdo O129_131 M := by
  show zdo [(1, 51, 0, 29, (4, 29), 0)] (N129_130 M) = zdo ((O129_130) ++ [(1, 51, 0, 29, (4, 29), 0)]) M
  rw [F129_130 M, zdo_app]
def O129_132 : List zOp := (O129_131) ++ [(0, 4, 30, 0, (0, 0), 0)]
theorem F129_132 (M : zM) : N129_132 M = zdo O129_132 M := by
  show zdo [(0, 4, 30, 0, (0, 0), 0)] (N129_131 M) = zdo ((O129_131) ++ [(0, 4, 30, 0, (0, 0), 0)]) M
  rw [F129_131 M, zdo_app]
def O129_133 : List zOp := (O129_132) ++ D20_30
theorem F129_133 (M : zM) : N129_133 M = zdo O129_133 M := by
  show zdo D20_30 (N129_132 M) = zdo ((O129_132) ++ D20_30) M
  rw [F129_132 M, zdo_app]
def O129_134 : List zOp := (O129_133) ++ [(1, 51, 0, 30, (4, 30), 0)]
theorem F129_134 (M : zM) : N129_134 M = zdo O129_134 M := by
  show zdo [(1, 51, 0, 30, (4, 30), 0)] (N129_133 M) = zdo ((O129_133) ++ [(1, 51, 0, 30, (4, 30), 0)]) M
  rw [F129_133 M, zdo_app]
def O129_135 : List zOp := (O129_134) ++ [(0, 4, 31, 0, (0, 0), 0)]
theorem F129_135 (M : zM) : N129_135 M = zdo O129_135 M := by
  show zdo [(0, 4, 31, 0, (0, 0), 0)] (N129_134 M) = zdo ((O129_134) ++ [(0, 4, 31, 0, (0, 0), 0)]) M
  rw [F129_134 M, zdo_app]
def O129_136 : List zOp := (O129_135) ++ D20_31
theorem F129_136 (M : zM) : N129_136 M = zdo O129_136 M := by
  show zdo D20_31 (N129_135 M) = zdo ((O129_135) ++ D20_31) M
  rw [F129_135 M, zdo_app]
def O129_137 : List zOp := (O129_136) ++ [(1, 51, 0, 31, (4, 31), 0)]
theorem F129_137 (M : zM) : N129_137 M = zdo O129_137 M := by
  show zdo [(1, 51, 0, 31, (4, 31), 0)] (N129_136 M) = zdo ((O129_136) ++ [(1, 51, 0, 31, (4, 31), 0)]) M
  rw [F129_136 M, zdo_app]
def O129_138 : List zOp := (O129_137) ++ [(0, 4, 32, 0, (0, 0), 0)]
theorem F129_138 (M : zM) : N129_138 M = zdo O129_138 M := by
  show zdo [(0, 4, 32, 0, (0, 0), 0)] (N129_137 M) = zdo ((O129_137) ++ [(0, 4, 32, 0, (0, 0), 0)]) M
  rw [F129_137 M, zdo_app]
def O129_139 : List zOp := (O129_138) ++ D20_32
theorem F129_139 (M : zM) : N129_139 M = zdo O129_139 M := by
  show zdo D20_32 (N129_138 M) = zdo ((O129_138) ++ D20_32) M
  rw [F129_138 M, zdo_app]
def O129_140 : List zOp := (O129_139) ++ [(1, 51, 0, 32, (4, 32), 0)]
theorem F129_140 (M : zM) : N129_140 M = zdo O129_140 M := by
  show zdo [(1, 51, 0, 32, (4, 32), 0)] (N129_139 M) = zdo ((O129_139) ++ [(1, 51, 0, 32, (4, 32), 0)]) M
  rw [F129_139 M, zdo_app]
def O129_141 : List zOp := (O129_140) ++ [(0, 4, 33, 0, (0, 0), 0)]
theorem F129_141 (M : zM) : N129_141 M = zdo O129_141 M := by
  show zdo [(0, 4, 33, 0, (0, 0), 0)] (N129_140 M) = zdo ((O129_140) ++ [(0, 4, 33, 0, (0, 0), 0)]) M
  rw [F129_140 M, zdo_app]
def O129_142 : List zOp := (O129_141) ++ D20_33
theorem F129_142 (M : zM) : N129_142 M = zdo O129_142 M := by
  show zdo D20_33 (N129_141 M) = zdo ((O129_141) ++ D20_33) M
  rw [F129_141 M, zdo_app]
def O129_143 : List zOp := (O129_142) ++ [(1, 51, 0, 33, (4, 33), 0)]
theorem F129_143 (M : zM) : N129_143 M = zdo O129_143 M := by
  show zdo [(1, 51, 0, 33, (4, 33), 0)] (N129_142 M) = zdo ((O129_142) ++ [(1, 51, 0, 33, (4, 33), 0)]) M
  rw [F129_142 M, zdo_app]
def O129_144 : List zOp := (O129_143) ++ [(0, 4, 34, 0, (0, 0), 0)]
theorem F129_144 (M : zM) : N129_144 M = zdo O129_144 M := by
  show zdo [(0, 4, 34, 0, (0, 0), 0)] (N129_143 M) = zdo ((O129_143) ++ [(0, 4, 34, 0, (0, 0), 0)]) M
  rw [F129_143 M, zdo_app]
def O129_145 : List zOp := (O129_144) ++ D20_34
theorem F129_145 (M : zM) : N129_145 M = zdo O129_145 M := by
  show zdo D20_34 (N129_144 M) = zdo ((O129_144) ++ D20_34) M
  rw [F129_144 M, zdo_app]
def O129_146 : List zOp := (O129_145) ++ [(1, 51, 0, 34, (4, 34), 0)]
theorem F129_146 (M : zM) : N129_146 M = zdo O129_146 M := by
  show zdo [(1, 51, 0, 34, (4, 34), 0)] (N129_145 M) = zdo ((O129_145) ++ [(1, 51, 0, 34, (4, 34), 0)]) M
  rw [F129_145 M, zdo_app]
def O129_147 : List zOp := (O129_146) ++ [(0, 4, 35, 0, (0, 0), 0)]
theorem F129_147 (M : zM) : N129_147 M = zdo O129_147 M := by
  show zdo [(0, 4, 35, 0, (0, 0), 0)] (N129_146 M) = zdo ((O129_146) ++ [(0, 4, 35, 0, (0, 0), 0)]) M
  rw [F129_146 M, zdo_app]
def O129_148 : List zOp := (O129_147) ++ D20_35
theorem F129_148 (M : zM) : N129_148 M = zdo O129_148 M := by
  show zdo D20_35 (N129_147 M) = zdo ((O129_147) ++ D20_35) M
  rw [F129_147 M, zdo_app]
def O129_149 : List zOp := (O129_148) ++ [(1, 51, 0, 35, (4, 35), 0)]
theorem F129_149 (M : zM) : N129_149 M = zdo O129_149 M := by
  show zdo [(1, 51, 0, 35, (4, 35), 0)] (N129_148 M) = zdo ((O129_148) ++ [(1, 51, 0, 35, (4, 35), 0)]) M
  rw [F129_148 M, zdo_app]
def O129_150 : List zOp := (O129_149) ++ [(0, 4, 36, 0, (0, 0), 0)]
theorem F129_150 (M : zM) : N129_150 M = zdo O129_150 M := by
  show zdo [(0, 4, 36, 0, (0, 0), 0)] (N129_149 M) = zdo ((O129_149) ++ [(0, 4, 36, 0, (0, 0), 0)]) M
  rw [F129_149 M, zdo_app]
def O129_151 : List zOp := (O129_150) ++ D20_36
theorem F129_151 (M : zM) : N129_151 M = zdo O129_151 M := by
  show zdo D20_36 (N129_150 M) = zdo ((O129_150) ++ D20_36) M
  rw [F129_150 M, zdo_app]
def O129_152 : List zOp := (O129_151) ++ [(1, 51, 0, 36, (4, 36), 0)]
theorem F129_152 (M : zM) : N129_152 M = zdo O129_152 M := by
  show zdo [(1, 51, 0, 36, (4, 36), 0)] (N129_151 M) = zdo ((O129_151) ++ [(1, 51, 0, 36, (4, 36), 0)]) M
  rw [F129_151 M, zdo_app]
def O129_153 : List zOp := (O129_152) ++ [(0, 4, 37, 0, (0, 0), 0)]
theorem F129_153 (M : zM) : N129_153 M = zdo O129_153 M := by
  show zdo [(0, 4, 37, 0, (0, 0), 0)] (N129_152 M) = zdo ((O129_152) ++ [(0, 4, 37, 0, (0, 0), 0)]) M
  rw [F129_152 M, zdo_app]
def O129_154 : List zOp := (O129_153) ++ D20_37
theorem F129_154 (M : zM) : N129_154 M = zdo O129_154 M := by
  show zdo D20_37 (N129_153 M) = zdo ((O129_153) ++ D20_37) M
  rw [F129_153 M, zdo_app]
def O129_155 : List zOp := (O129_154) ++ [(1, 51, 0, 37, (4, 37), 0)]
theorem F129_155 (M : zM) : N129_155 M = zdo O129_155 M := by
  show zdo [(1, 51, 0, 37, (4, 37), 0)] (N129_154 M) = zdo ((O129_154) ++ [(1, 51, 0, 37, (4, 37), 0)]) M
  rw [F129_154 M, zdo_app]
def O129_156 : List zOp := (O129_155) ++ [(0, 4, 38, 0, (0, 0), 0)]
theorem F129_156 (M : zM) : N129_156 M = zdo O129_156 M := by
  show zdo [(0, 4, 38, 0, (0, 0), 0)] (N129_155 M) = zdo ((O129_155) ++ [(0, 4, 38, 0, (0, 0), 0)]) M
  rw [F129_155 M, zdo_app]
def O129_157 : List zOp := (O129_156) ++ D20_38
theorem F129_157 (M : zM) : N129_157 M = zdo O129_157 M := by
  show zdo D20_38 (N129_156 M) = zdo ((O129_156) ++ D20_38) M
  rw [F129_156 M, zdo_app]
def O129_158 : List zOp := (O129_157) ++ [(1, 51, 0, 38, (4, 38), 0)]
theorem F129_158 (M : zM) : N129_158 M = zdo O129_158 M := by
  show zdo [(1, 51, 0, 38, (4, 38), 0)] (N129_157 M) = zdo ((O129_157) ++ [(1, 51, 0, 38, (4, 38), 0)]) M
  rw [F129_157 M, zdo_app]
def O129_159 : List zOp := (O129_158) ++ [(0, 4, 39, 0, (0, 0), 0)]
theorem F129_159 (M : zM) : N129_159 M = zdo O129_159 M := by
  show zdo [(0, 4, 39, 0, (0, 0), 0)] (N129_158 M) = zdo ((O129_158) ++ [(0, 4, 39, 0, (0, 0), 0)]) M
  rw [F129_158 M, zdo_app]
def O129_160 : List zOp := (O129_159) ++ D20_39
theorem F129_160 (M : zM) : N129_160 M = zdo O129_160 M := by
  show zdo D20_39 (N129_159 M) = zdo ((O129_159) ++ D20_39) M
  rw [F129_159 M, zdo_app]
def O129_161 : List zOp := (O129_160) ++ [(1, 51, 0, 39, (4, 39), 0)]
theorem F129_161 (M : zM) : N129_161 M = zdo O129_161 M := by
  show zdo [(1, 51, 0, 39, (4, 39), 0)] (N129_160 M) = zdo ((O129_160) ++ [(1, 51, 0, 39, (4, 39), 0)]) M
  rw [F129_160 M, zdo_app]
def O129_162 : List zOp := (O129_161) ++ [(0, 4, 40, 0, (0, 0), 0)]
theorem F129_162 (M : zM) : N129_162 M = zdo O129_162 M := by
  show zdo [(0, 4, 40, 0, (0, 0), 0)] (N129_161 M) = zdo ((O129_161) ++ [(0, 4, 40, 0, (0, 0), 0)]) M
  rw [F129_161 M, zdo_app]
def O129_163 : List zOp := (O129_162) ++ D20_40
theorem F129_163 (M : zM) : N129_163 M = zdo O129_163 M := by
  show zdo D20_40 (N129_162 M) = zdo ((O129_162) ++ D20_40) M
  rw [F129_162 M, zdo_app]
def O129_164 : List zOp := (O129_163) ++ [(1, 51, 0, 40, (4, 40), 0)]
theorem F129_164 (M : zM) : N129_164 M = zdo O129_164 M := by
  show zdo [(1, 51, 0, 40, (4, 40), 0)] (N129_163 M) = zdo ((O129_163) ++ [(1, 51, 0, 40, (4, 40), 0)]) M
  rw [F129_163 M, zdo_app]
def O129_165 : List zOp := (O129_164) ++ [(0, 4, 41, 0, (0, 0), 0)]
theorem F129_165 (M : zM) : N129_165 M = zdo O129_165 M := by
  show zdo [(0, 4, 41, 0, (0, 0), 0)] (N129_164 M) = zdo ((O129_164) ++ [(0, 4, 41, 0, (0, 0), 0)]) M
  rw [F129_164 M, zdo_app]
def O129_166 : List zOp := (O129_165) ++ D20_41
theorem F129_166 (M : zM) : N129_166 M = zdo O129_166 M := by
  show zdo D20_41 (N129_165 M) = zdo ((O129_165) ++ D20_41) M
  rw [F129_165 M, zdo_app]
def O129_167 : List zOp := (O129_166) ++ [(1, 51, 0, 41, (4, 41), 0)]
theorem F129_167 (M : zM) : N129_167 M = zdo O129_167 M := by
  show zdo [(1, 51, 0, 41, (4, 41), 0)] (N129_166 M) = zdo ((O129_166) ++ [(1, 51, 0, 41, (4, 41), 0)]) M
  rw [F129_166 M, zdo_app]
def O129_168 : List zOp := (O129_167) ++ [(0, 4, 42, 0, (0, 0), 0)]
theorem F129_168 (M : zM) : N129_168 M = zdo O129_168 M := by
  show zdo [(0, 4, 42, 0, (0, 0), 0)] (N129_167 M) = zdo ((O129_167) ++ [(0, 4, 42, 0, (0, 0), 0)]) M
  rw [F129_167 M, zdo_app]
def O129_169 : List zOp := (O129_168) ++ D20_42
theorem F129_169 (M : zM) : N129_169 M = zdo O129_169 M := by
  show zdo D20_42 (N129_168 M) = zdo ((O129_168) ++ D20_42) M
  rw [F129_168 M, zdo_app]
def O129_170 : List zOp := (O129_169) ++ [(1, 51, 0, 42, (4, 42), 0)]
theorem F129_170 (M : zM) : N129_170 M = zdo O129_170 M := by
  show zdo [(1, 51, 0, 42, (4, 42), 0)] (N129_169 M) = zdo ((O129_169) ++ [(1, 51, 0, 42, (4, 42), 0)]) M
  rw [F129_169 M, zdo_app]
def O129_171 : List zOp := (O129_170) ++ [(0, 4, 43, 0, (0, 0), 0)]
theorem F129_171 (M : zM) : N129_171 M = zdo O129_171 M := by
  show zdo [(0, 4, 43, 0, (0, 0), 0)] (N129_170 M) = zdo ((O129_170) ++ [(0, 4, 43, 0, (0, 0), 0)]) M
  rw [F129_170 M, zdo_app]
def O129_172 : List zOp := (O129_171) ++ D20_43
theorem F129_172 (M : zM) : N129_172 M = zdo O129_172 M := by
  show zdo D20_43 (N129_171 M) = zdo ((O129_171) ++ D20_43) M
  rw [F129_171 M, zdo_app]
def O129_173 : List zOp := (O129_172) ++ [(1, 51, 0, 43, (4, 43), 0)]
theorem F129_173 (M : zM) : N129_173 M = zdo O129_173 M := by
  show zdo [(1, 51, 0, 43, (4, 43), 0)] (N129_172 M) = zdo ((O129_172) ++ [(1, 51, 0, 43, (4, 43), 0)]) M
  rw [F129_172 M, zdo_app]
def O129_174 : List zOp := (O129_173) ++ [(0, 4, 44, 0, (0, 0), 0)]
theorem F129_174 (M : zM) : N129_174 M = zdo O129_174 M := by
  show zdo [(0, 4, 44, 0, (0, 0), 0)] (N129_173 M) = zdo ((O129_173) ++ [(0, 4, 44, 0, (0, 0), 0)]) M
  rw [F129_173 M, zdo_app]
def O129_175 : List zOp := (O129_174) ++ D20_44
theorem F129_175 (M : zM) : N129_175 M = zdo O129_175 M := by
  show zdo D20_44 (N129_174 M) = zdo ((O129_174) ++ D20_44) M
  rw [F129_174 M, zdo_app]
def O129_176 : List zOp := (O129_175) ++ [(1, 51, 0, 44, (4, 44), 0)]
theorem F129_176 (M : zM) : N129_176 M = zdo O129_176 M := by
  show zdo [(1, 51, 0, 44, (4, 44), 0)] (N129_175 M) = zdo ((O129_175) ++ [(1, 51, 0, 44, (4, 44), 0)]) M
  rw [F129_175 M, zdo_app]
def O129_177 : List zOp := (O129_176) ++ [(0, 4, 45, 0, (0, 0), 0)]
theorem F129_177 (M : zM) : N129_177 M = zdo O129_177 M := by
  show zdo [(0, 4, 45, 0, (0, 0), 0)] (N129_176 M) = zdo ((O129_176) ++ [(0, 4, 45, 0, (0, 0), 0)]) M
  rw [F129_176 M, zdo_app]
def O129_178 : List zOp := (O129_177) ++ D20_45
theorem F129_178 (M : zM) : N129_178 M = zdo O129_178 M := by
  show zdo D20_45 (N129_177 M) = zdo ((O129_177) ++ D20_45) M
  rw [F129_177 M, zdo_app]
def O129_179 : List zOp := (O129_178) ++ [(1, 51, 0, 45, (4, 45), 0)]
theorem F129_179 (M : zM) : N129_179 M = zdo O129_179 M := by
  show zdo [(1, 51, 0, 45, (4, 45), 0)] (N129_178 M) = zdo ((O129_178) ++ [(1, 51, 0, 45, (4, 45), 0)]) M
  rw [F129_178 M, zdo_app]
def O129_180 : List zOp := (O129_179) ++ [(0, 4, 46, 0, (0, 0), 0)]
theorem F129_180 (M : zM) : N129_180 M = zdo O129_180 M := by
  show zdo [(0, 4, 46, 0, (0, 0), 0)] (N129_179 M) = zdo ((O129_179) ++ [(0, 4, 46, 0, (0, 0), 0)]) M
  rw [F129_179 M, zdo_app]
def O129_181 : List zOp := (O129_180) ++ D20_46
theorem F129_181 (M : zM) : N129_181 M = zdo O129_181 M := by
  show zdo D20_46 (N129_180 M) = zdo ((O129_180) ++ D20_46) M
  rw [F129_180 M, zdo_app]
def O129_182 : List zOp := (O129_181) ++ [(1, 51, 0, 46, (4, 46), 0)]
theorem F129_182 (M : zM) : N129_182 M = zdo O129_182 M := by
  show zdo [(1, 51, 0, 46, (4, 46), 0)] (N129_181 M) = zdo ((O129_181) ++ [(1, 51, 0, 46, (4, 46), 0)]) M
  rw [F129_181 M, zdo_app]
def O129_183 : List zOp := (O129_182) ++ [(0, 4, 47, 0, (0, 0), 0)]
theorem F129_183 (M : zM) : N129_183 M = zdo O129_183 M := by
  show zdo [(0, 4, 47, 0, (0, 0), 0)] (N129_182 M) = zdo ((O129_182) ++ [(0, 4, 47, 0, (0, 0), 0)]) M
  rw [F129_182 M, zdo_app]
def O129_184 : List zOp := (O129_183) ++ D20_47
theorem F129_184 (M : zM) : N129_184 M = zdo O129_184 M := by
  show zdo D20_47 (N129_183 M) = zdo ((O129_183) ++ D20_47) M
  rw [F129_183 M, zdo_app]
def O129_185 : List zOp := (O129_184) ++ [(1, 51, 0, 47, (4, 47), 0)]
theorem F129_185 (M : zM) : N129_185 M = zdo O129_185 M := by
  show zdo [(1, 51, 0, 47, (4, 47), 0)] (N129_184 M) = zdo ((O129_184) ++ [(1, 51, 0, 47, (4, 47), 0)]) M
  rw [F129_184 M, zdo_app]
def O129_186 : List zOp := (O129_185) ++ [(0, 4, 48, 0, (0, 0), 0)]
theorem F129_186 (M : zM) : N129_186 M = zdo O129_186 M := by
  show zdo [(0, 4, 48, 0, (0, 0), 0)] (N129_185 M) = zdo ((O129_185) ++ [(0, 4, 48, 0, (0, 0), 0)]) M
  rw [F129_185 M, zdo_app]
def O129_187 : List zOp := (O129_186) ++ D20_48
theorem F129_187 (M : zM) : N129_187 M = zdo O129_187 M := by
  show zdo D20_48 (N129_186 M) = zdo ((O129_186) ++ D20_48) M
  rw [F129_186 M, zdo_app]
def O129_188 : List zOp := (O129_187) ++ [(1, 51, 0, 48, (4, 48), 0)]
theorem F129_188 (M : zM) : N129_188 M = zdo O129_188 M := by
  show zdo [(1, 51, 0, 48, (4, 48), 0)] (N129_187 M) = zdo ((O129_187) ++ [(1, 51, 0, 48, (4, 48), 0)]) M
  rw [F129_187 M, zdo_app]
def O129_189 : List zOp := (O129_188) ++ [(0, 4, 49, 0, (0, 0), 0)]
theorem F129_189 (M : zM) : N129_189 M = zdo O129_189 M := by
  show zdo [(0, 4, 49, 0, (0, 0), 0)] (N129_188 M) = zdo ((O129_188) ++ [(0, 4, 49, 0, (0, 0), 0)]) M
  rw [F129_188 M, zdo_app]
def O129_190 : List zOp := (O129_189) ++ D20_49
theorem F129_190 (M : zM) : N129_190 M = zdo O129_190 M := by
  show zdo D20_49 (N129_189 M) = zdo ((O129_189) ++ D20_49) M
  rw [F129_189 M, zdo_app]
def O129_191 : List zOp := (O129_190) ++ [(1, 51, 0, 49, (4, 49), 0)]
theorem F129_191 (M : zM) : N129_191 M = zdo O129_191 M := by
  show zdo [(1, 51, 0, 49, (4, 49), 0)] (N129_190 M) = zdo ((O129_190) ++ [(1, 51, 0, 49, (4, 49), 0)]) M
  rw [F129_190 M, zdo_app]
def O129_192 : List zOp := (O129_191) ++ [(0, 4, 50, 0, (0, 0), 0)]
theorem F129_192 (M : zM) : N129_192 M = zdo O129_192 M := by
  show zdo [(0, 4, 50, 0, (0, 0), 0)] (N129_191 M) = zdo ((O129_191) ++ [(0, 4, 50, 0, (0, 0), 0)]) M
  rw [F129_191 M, zdo_app]
def O129_193 : List zOp := (O129_192) ++ D20_50
theorem F129_193 (M : zM) : N129_193 M = zdo O129_193 M := by
  show zdo D20_50 (N129_192 M) = zdo ((O129_192) ++ D20_50) M
  rw [F129_192 M, zdo_app]
def O129_194 : List zOp := (O129_193) ++ [(1, 51, 0, 50, (4, 50), 0)]
theorem F129_194 (M : zM) : N129_194 M = zdo O129_194 M := by
  show zdo [(1, 51, 0, 50, (4, 50), 0)] (N129_193 M) = zdo ((O129_193) ++ [(1, 51, 0, 50, (4, 50), 0)]) M
  rw [F129_193 M, zdo_app]
def O129_195 : List zOp := (O129_194) ++ [(0, 4, 51, 0, (0, 0), 0)]
theorem F129_195 (M : zM) : N129_195 M = zdo O129_195 M := by
  show zdo [(0, 4, 51, 0, (0, 0), 0)] (N129_194 M) = zdo ((O129_194) ++ [(0, 4, 51, 0, (0, 0), 0)]) M
  rw [F129_194 M, zdo_app]
def O129_196 : List zOp := (O129_195) ++ D20_51
theorem F129_196 (M : zM) : N129_196 M = zdo O129_196 M := by
  show zdo D20_51 (N129_195 M) = zdo ((O129_195) ++ D20_51) M
  rw [F129_195 M, zdo_app]
def O129_197 : List zOp := (O129_196) ++ [(1, 51, 0, 51, (4, 51), 0)]
theorem F129_197 (M : zM) : N129_197 M = zdo O129_197 M := by
  show zdo [(1, 51, 0, 51, (4, 51), 0)] (N129_196 M) = zdo ((O129_196) ++ [(1, 51, 0, 51, (4, 51), 0)]) M
  rw [F129_196 M, zdo_app]
def O129_198 : List zOp := (O129_197) ++ [(0, 4, 52, 0, (0, 0), 0)]
theorem F129_198 (M : zM) : N129_198 M = zdo O129_198 M := by
  show zdo [(0, 4, 52, 0, (0, 0), 0)] (N129_197 M) = zdo ((O129_197) ++ [(0, 4, 52, 0, (0, 0), 0)]) M
  rw [F129_197 M, zdo_app]
def O129_199 : List zOp := (O129_198) ++ D20_52
theorem F129_199 (M : zM) : N129_199 M = zdo O129_199 M := by
  show zdo D20_52 (N129_198 M) = zdo ((O129_198) ++ D20_52) M
  rw [F129_198 M, zdo_app]
def O129_200 : List zOp := (O129_199) ++ [(1, 51, 0, 52, (4, 52), 0)]
theorem F129_200 (M : zM) : N129_200 M = zdo O129_200 M := by
  show zdo [(1, 51, 0, 52, (4, 52), 0)] (N129_199 M) = zdo ((O129_199) ++ [(1, 51, 0, 52, (4, 52), 0)]) M
  rw [F129_199 M, zdo_app]
def O129_201 : List zOp := (O129_200) ++ [(0, 4, 53, 0, (0, 0), 0)]
theorem F129_201 (M : zM) : N129_201 M = zdo O129_201 M := by
  show zdo [(0, 4, 53, 0, (0, 0), 0)] (N129_200 M) = zdo ((O129_200) ++ [(0, 4, 53, 0, (0, 0), 0)]) M
  rw [F129_200 M, zdo_app]
def O129_202 : List zOp := (O129_201) ++ D20_53
theorem F129_202 (M : zM) : N129_202 M = zdo O129_202 M := by
  show zdo D20_53 (N129_201 M) = zdo ((O129_201) ++ D20_53) M
  rw [F129_201 M, zdo_app]
def O129_203 : List zOp := (O129_202) ++ [(1, 51, 0, 53, (4, 53), 0)]
theorem F129_203 (M : zM) : N129_203 M = zdo O129_203 M := by
  show zdo [(1, 51, 0, 53, (4, 53), 0)] (N129_202 M) = zdo ((O129_202) ++ [(1, 51, 0, 53, (4, 53), 0)]) M
  rw [F129_202 M, zdo_app]
def O129_204 : List zOp := (O129_203) ++ [(0, 4, 54, 0, (0, 0), 0)]
theorem F129_204 (M : zM) : N129_204 M = zdo O129_204 M := by
  show zdo [(0, 4, 54, 0, (0, 0), 0)] (N129_203 M) = zdo ((O129_203) ++ [(0, 4, 54, 0, (0, 0), 0)]) M
  rw [F129_203 M, zdo_app]
def O129_205 : List zOp := (O129_204) ++ D20_54
theorem F129_205 (M : zM) : N129_205 M = zdo O129_205 M := by
  show zdo D20_54 (N129_204 M) = zdo ((O129_204) ++ D20_54) M
  rw [F129_204 M, zdo_app]
def O129_206 : List zOp := (O129_205) ++ [(1, 51, 0, 54, (4, 54), 0)]
theorem F129_206 (M : zM) : N129_206 M = zdo O129_206 M := by
  show zdo [(1, 51, 0, 54, (4, 54), 0)] (N129_205 M) = zdo ((O129_205) ++ [(1, 51, 0, 54, (4, 54), 0)]) M
  rw [F129_205 M, zdo_app]
def O129_207 : List zOp := (O129_206) ++ [(0, 4, 55, 0, (0, 0), 0)]
theorem F129_207 (M : zM) : N129_207 M = zdo O129_207 M := by
  show zdo [(0, 4, 55, 0, (0, 0), 0)] (N129_206 M) = zdo ((O129_206) ++ [(0, 4, 55, 0, (0, 0), 0)]) M
  rw [F129_206 M, zdo_app]
def O129_208 : List zOp := (O129_207) ++ D20_55
theorem F129_208 (M : zM) : N129_208 M = zdo O129_208 M := by
  show zdo D20_55 (N129_207 M) = zdo ((O129_207) ++ D20_55) M
  rw [F129_207 M, zdo_app]
def O129_209 : List zOp := (O129_208) ++ [(1, 51, 0, 55, (4, 55), 0)]
theorem F129_209 (M : zM) : N129_209 M = zdo O129_209 M := by
  show zdo [(1, 51, 0, 55, (4, 55), 0)] (N129_208 M) = zdo ((O129_208) ++ [(1, 51, 0, 55, (4, 55), 0)]) M
  rw [F129_208 M, zdo_app]
def O129_210 : List zOp := (O129_209) ++ [(0, 4, 56, 0, (0, 0), 0)]
theorem F129_210 (M : zM) : N129_210 M = zdo O129_210 M := by
  show zdo [(0, 4, 56, 0, (0, 0), 0)] (N129_209 M) = zdo ((O129_209) ++ [(0, 4, 56, 0, (0, 0), 0)]) M
  rw [F129_209 M, zdo_app]
def O129_211 : List zOp := (O129_210) ++ D20_56
theorem F129_211 (M : zM) : N129_211 M = zdo O129_211 M := by
  show zdo D20_56 (N129_210 M) = zdo ((O129_210) ++ D20_56) M
  rw [F129_210 M, zdo_app]
def O129_212 : List zOp := (O129_211) ++ [(1, 51, 0, 56, (4, 56), 0)]
theorem F129_212 (M : zM) : N129_212 M = zdo O129_212 M := by
  show zdo [(1, 51, 0, 56, (4, 56), 0)] (N129_211 M) = zdo ((O129_211) ++ [(1, 51, 0, 56, (4, 56), 0)]) M
  rw [F129_211 M, zdo_app]
def O129_213 : List zOp := (O129_212) ++ [(0, 4, 57, 0, (0, 0), 0)]
theorem F129_213 (M : zM) : N129_213 M = zdo O129_213 M := by
  show zdo [(0, 4, 57, 0, (0, 0), 0)] (N129_212 M) = zdo ((O129_212) ++ [(0, 4, 57, 0, (0, 0), 0)]) M
  rw [F129_212 M, zdo_app]
def O129_214 : List zOp := (O129_213) ++ D20_57
theorem F129_214 (M : zM) : N129_214 M = zdo O129_214 M := by
  show zdo D20_57 (N129_213 M) = zdo ((O129_213) ++ D20_57) M
  rw [F129_213 M, zdo_app]
def O129_215 : List zOp := (O129_214) ++ [(1, 51, 0, 57, (4, 57), 0)]
theorem F129_215 (M : zM) : N129_215 M = zdo O129_215 M := by
  show zdo [(1, 51, 0, 57, (4, 57), 0)] (N129_214 M) = zdo ((O129_214) ++ [(1, 51, 0, 57, (4, 57), 0)]) M
  rw [F129_214 M, zdo_app]
def O129_216 : List zOp := (O129_215) ++ [(0, 4, 58, 0, (0, 0), 0)]
theorem F129_216 (M : zM) : N129_216 M = zdo O129_216 M := by
  show zdo [(0, 4, 58, 0, (0, 0), 0)] (N129_215 M) = zdo ((O129_215) ++ [(0, 4, 58, 0, (0, 0), 0)]) M
  rw [F129_215 M, zdo_app]
def O129_217 : List zOp := (O129_216) ++ D20_58
theorem F129_217 (M : zM) : N129_217 M = zdo O129_217 M := by
  show zdo D20_58 (N129_216 M) = zdo ((O129_216) ++ D20_58) M
  rw [F129_216 M, zdo_app]
def O129_218 : List zOp := (O129_217) ++ [(1, 51, 0, 58, (4, 58), 0)]
theorem F129_218 (M : zM) : N129_218 M = zdo O129_218 M := by
  show zdo [(1, 51, 0, 58, (4, 58), 0)] (N129_217 M) = zdo ((O129_217) ++ [(1, 51, 0, 58, (4, 58), 0)]) M
  rw [F129_217 M, zdo_app]
def O129_219 : List zOp := (O129_218) ++ [(0, 4, 59, 0, (0, 0), 0)]
theorem F129_219 (M : zM) : N129_219 M = zdo O129_219 M := by
  show zdo [(0, 4, 59, 0, (0, 0), 0)] (N129_218 M) = zdo ((O129_218) ++ [(0, 4, 59, 0, (0, 0), 0)]) M
  rw [F129_218 M, zdo_app]
def O129_220 : List zOp := (O129_219) ++ D20_59
theorem F129_220 (M : zM) : N129_220 M = zdo O129_220 M := by
  show zdo D20_59 (N129_219 M) = zdo ((O129_219) ++ D20_59) M
  rw [F129_219 M, zdo_app]
def O129_221 : List zOp := (O129_220) ++ [(1, 51, 0, 59, (4, 59), 0)]
theorem F129_221 (M : zM) : N129_221 M = zdo O129_221 M := by
  show zdo [(1, 51, 0, 59, (4, 59), 0)] (N129_220 M) = zdo ((O129_220) ++ [(1, 51, 0, 59, (4, 59), 0)]) M
  rw [F129_220 M, zdo_app]
def O129_222 : List zOp := (O129_221) ++ [(0, 9, 0, 0, (0, 0), 0)]
theorem F129_222 (M : zM) : N129_222 M = zdo O129_222 M := by
  show zdo [(0, 9, 0, 0, (0, 0), 0)] (N129_221 M) = zdo ((O129_221) ++ [(0, 9, 0, 0, (0, 0), 0)]) M
  rw [F129_221 M, zdo_app]
def O129_223 : List zOp := (O129_222) ++ D93_0
theorem F129_223 (M : zM) : N129_223 M = zdo O129_223 M := by
  show zdo D93_0 (N129_222 M) = zdo ((O129_222) ++ D93_0) M
  rw [F129_222 M, zdo_app]
def O129_224 : List zOp := (O129_223) ++ [(1, 53, 0, 0, (9, 0), 0)]
theorem F129_224 (M : zM) : N129_224 M = zdo O129_224 M := by
  show zdo [(1, 53, 0, 0, (9, 0), 0)] (N129_223 M) = zdo ((O129_223) ++ [(1, 53, 0, 0, (9, 0), 0)]) M
  rw [F129_223 M, zdo_app]
def O129_225 : List zOp := (O129_224) ++ [(0, 9, 1, 0, (0, 0), 0)]
theorem F129_225 (M : zM) : N129_225 M = zdo O129_225 M := by
  show zdo [(0, 9, 1, 0, (0, 0), 0)] (N129_224 M) = zdo ((O129_224) ++ [(0, 9, 1, 0, (0, 0), 0)]) M
  rw [F129_224 M, zdo_app]
def O129_226 : List zOp := (O129_225) ++ D93_1
theorem F129_226 (M : zM) : N129_226 M = zdo O129_226 M := by
  show zdo D93_1 (N129_225 M) = zdo ((O129_225) ++ D93_1) M
  rw [F129_225 M, zdo_app]
def O129_227 : List zOp := (O129_226) ++ [(1, 53, 0, 1, (9, 1), 0)]
theorem F129_227 (M : zM) : N129_227 M = zdo O129_227 M := by
  show zdo [(1, 53, 0, 1, (9, 1), 0)] (N129_226 M) = zdo ((O129_226) ++ [(1, 53, 0, 1, (9, 1), 0)]) M
  rw [F129_226 M, zdo_app]
def O129_228 : List zOp := (O129_227) ++ [(0, 9, 2, 0, (0, 0), 0)]
theorem F129_228 (M : zM) : N129_228 M = zdo O129_228 M := by
  show zdo [(0, 9, 2, 0, (0, 0), 0)] (N129_227 M) = zdo ((O129_227) ++ [(0, 9, 2, 0, (0, 0), 0)]) M
  rw [F129_227 M, zdo_app]
def O129_229 : List zOp := (O129_228) ++ D93_2
theorem F129_229 (M : zM) : N129_229 M = zdo O129_229 M := by
  show zdo D93_2 (N129_228 M) = zdo ((O129_228) ++ D93_2) M
  rw [F129_228 M, zdo_app]
def O129_230 : List zOp := (O129_229) ++ [(1, 53, 0, 2, (9, 2), 0)]
theorem F129_230 (M : zM) : N129_230 M = zdo O129_230 M := by
  show zdo [(1, 53, 0, 2, (9, 2), 0)] (N129_229 M) = zdo ((O129_229) ++ [(1, 53, 0, 2, (9, 2), 0)]) M
  rw [F129_229 M, zdo_app]
def O129_231 : List zOp := (O129_230) ++ [(0, 9, 3, 0, (0, 0), 0)]
theorem F129_231 (M : zM) : N129_231 M = zdo O129_231 M := by
  show zdo [(0, 9, 3, 0, (0, 0), 0)] (N129_230 M) = zdo ((O129_230) ++ [(0, 9, 3, 0, (0, 0), 0)]) M
  rw [F129_230 M, zdo_app]
def O129_232 : List zOp := (O129_231) ++ D93_3
theorem F129_232 (M : zM) : N129_232 M = zdo O129_232 M := by
  show zdo D93_3 (N129_231 M) = zdo ((O129_231) ++ D93_3) M
  rw [F129_231 M, zdo_app]
def O129_233 : List zOp := (O129_232) ++ [(1, 53, 0, 3, (9, 3), 0)]
theorem F129_233 (M : zM) : N129_233 M = zdo O129_233 M := by
  show zdo [(1, 53, 0, 3, (9, 3), 0)] (N129_232 M) = zdo ((O129_232) ++ [(1, 53, 0, 3, (9, 3), 0)]) M
  rw [F129_232 M, zdo_app]
def O129_234 : List zOp := (O129_233) ++ [(0, 9, 4, 0, (0, 0), 0)]
theorem F129_234 (M : zM) : N129_234 M = zdo O129_234 M := by
  show zdo [(0, 9, 4, 0, (0, 0), 0)] (N129_233 M) = zdo ((O129_233) ++ [(0, 9, 4, 0, (0, 0), 0)]) M
  rw [F129_233 M, zdo_app]
def O129_235 : List zOp := (O129_234) ++ D93_4
theorem F129_235 (M : zM) : N129_235 M = zdo O129_235 M := by
  show zdo D93_4 (N129_234 M) = zdo ((O129_234) ++ D93_4) M
  rw [F129_234 M, zdo_app]
def O129_236 : List zOp := (O129_235) ++ [(1, 53, 0, 4, (9, 4), 0)]
theorem F129_236 (M : zM) : N129_236 M = zdo O129_236 M := by
  show zdo [(1, 53, 0, 4, (9, 4), 0)] (N129_235 M) = zdo ((O129_235) ++ [(1, 53, 0, 4, (9, 4), 0)]) M
  rw [F129_235 M, zdo_app]
def O129_237 : List zOp := (O129_236) ++ [(0, 9, 5, 0, (0, 0), 0)]
theorem F129_237 (M : zM) : N129_237 M = zdo O129_237 M := by
  show zdo [(0, 9, 5, 0, (0, 0), 0)] (N129_236 M) = zdo ((O129_236) ++ [(0, 9, 5, 0, (0, 0), 0)]) M
  rw [F129_236 M, zdo_app]
def O129_238 : List zOp := (O129_237) ++ D93_5
theorem F129_238 (M : zM) : N129_238 M = zdo O129_238 M := by
  show zdo D93_5 (N129_237 M) = zdo ((O129_237) ++ D93_5) M
  rw [F129_237 M, zdo_app]
def O129_239 : List zOp := (O129_238) ++ [(1, 53, 0, 5, (9, 5), 0)]
theorem F129_239 (M : zM) : N129_239 M = zdo O129_239 M := by
  show zdo [(1, 53, 0, 5, (9, 5), 0)] (N129_238 M) = zdo ((O129_238) ++ [(1, 53, 0, 5, (9, 5), 0)]) M
  rw [F129_238 M, zdo_app]
