/-! ===== texts as what they are: operations behind one another ===== -/
/-- a number, a name, a sign (1 minus ahead, 2 not ahead, else the byte of one that joins two) -/
abbrev yOp : Type := Nat ⊕ (Nat ⊕ Nat)
def ySgn (s : Nat) : Prop := s = 124 ∨ s = 38 ∨ s = 60 ∨ s = 61 ∨ s = 62 ∨ s = 43 ∨ s = 45 ∨ s = 42 ∨ s = 47 ∨ s = 37
def yOk : yOp → Prop
  | .inl n => n ≤ 9999
  | .inr (.inl k) => k < 12
  | .inr (.inr s) => s = 1 ∨ s = 2 ∨ ySgn s
def yCc : yOp → Int32
  | .inl n => nI n
  | .inr (.inl k) => -1 - nI k
  | .inr (.inr s) => -1000 - nI s
def yMa : yOp → Int32
  | .inl _ => 1
  | .inr (.inl _) => 2
  | .inr (.inr s) => if s = 1 then 4 else if s = 2 then 3 else nI s
def yMw : yOp → Int32
  | .inl n => nI n
  | .inr (.inl k) => nI k
  | .inr (.inr _) => 0
def yJn (a b : Int32) (s : Nat) : Int32 :=
  if s = 124 then (if a = 0 then if b = 0 then 0 else 1 else 1) else if s = 38 then (if a = 0 then 0 else if b = 0 then 0 else 1) else if s = 60 then (if a < b then 1 else 0) else if s = 61 then (if a = b then 1 else 0) else if s = 62 then (if b < a then 1 else 0) else if s = 43 then a + b else if s = 45 then a - b else if s = 42 then a * b else if s = 47 then (if b = 0 then 0 else a / b) else if b = 0 then 0 else a - a / b * b
def yStp (nm : Nat → Int32) : yOp → List Int32 → Option (List Int32)
  | .inl n, st => some (nI n :: st)
  | .inr (.inl k), st => some (nm k :: st)
  | .inr (.inr s), st => if s = 1 then (match st with
      | x :: r => some (-x :: r)
      | [] => none) else if s = 2 then (match st with
      | x :: r => some ((if x = 0 then 1 else 0) :: r)
      | [] => none) else match st with
      | b :: a :: r => some (yJn a b s :: r)
      | _ => none
def yEv (nm : Nat → Int32) : List yOp → List Int32 → Option (List Int32)
  | [], st => some st
  | o :: r, st => (yStp nm o st).bind (yEv nm r)
theorem yEv_app (nm : Nat → Int32) : ∀ (a b : List yOp) (st : List Int32), yEv nm (a ++ b) st = (yEv nm a st).bind (yEv nm b)
  | [], b, st => rfl
  | o :: r, b, st => by
    show (yStp nm o st).bind (yEv nm (r ++ b)) = ((yStp nm o st).bind (yEv nm r)).bind (yEv nm b)
    cases yStp nm o st with
    | none => rfl
    | some s => exact yEv_app nm r b s
/-- an expression: it leaves one value more -/
def yEx (l : List yOp) : Prop := (∀ o, o ∈ l → yOk o) ∧ ∀ nm st, ∃ x, yEv nm l st = some (x :: st)
def yVal (nm : Nat → Int32) (l : List yOp) : Int32 := match yEv nm l [] with
  | some [x] => x
  | _ => 0
theorem yVal_of {nm : Nat → Int32} {l : List yOp} {x : Int32} (h : yEv nm l [] = some [x]) : yVal nm l = x := by
  unfold yVal
  rw [h]
theorem yEx_val {l : List yOp} (h : yEx l) (nm : Nat → Int32) : yEv nm l [] = some [yVal nm l] := by
  obtain ⟨x, e⟩ := h.2 nm []
  rw [e, yVal_of e]
def yTx (nm : Nat → Int32) : List (List yOp × List yOp) → Int32
  | [] => 0
  | q :: r => if q.1 = [] then yVal nm q.2 else if yVal nm q.1 = 0 then yTx nm r else yVal nm q.2
def yWT (T : List (List yOp × List yOp)) : Prop := ∀ q, q ∈ T → (q.1 = [] ∨ yEx q.1) ∧ yEx q.2
theorem yDivN (a : Int32) : a / -1 = -a := by
  apply Int32.toInt_inj.mp
  rw [Int32.toInt_div, Int32.toInt_neg a, show (-1 : Int32).toInt = -1 from rfl, Int.tdiv_neg, Int.tdiv_one]
theorem S128 (d : Nat) (a b : Int32) (s : Nat) (M : zM) (h : ySgn s) : zgo false d 128 0 [zi a, zi (nI s), zi b] [] M = some (some (zi (yJn a b s)), M) := by
  rcases h with rfl | rfl | rfl | rfl | rfl | rfl | rfl | rfl | rfl | rfl
  · show zgo false d 128 0 [zi a, zi 124, zi b] [] M = _
    simp +decide only [B128_0, B128_100, B128_105, B128_118, B128_119, B128_130, B128_141, B128_152, B128_176, B128_188, zite_v, yJn, zbsome, zpu1, zpu0, cond_true, cond_false, zib0, zib1, zib_ite, zq00, zq20, zq22, zq90, zq99, zq40, zq44, zq100, zq1010, Bool.and_true, if_true, if_false, z1ne0, not_true_eq_false, not_false_eq_true, zite10, eq_self, and_true, true_and, and_false, false_and, ↓reduceIte, Int32.reduceLT, Int32.reduceLE, Int32.reduceAdd, Int32.reduceSub, Int32.reduceMul]
  · show zgo false d 128 0 [zi a, zi 38, zi b] [] M = _
    simp +decide only [B128_0, B128_100, B128_105, B128_118, B128_119, B128_130, B128_141, B128_152, B128_176, B128_188, zite_v, yJn, zbsome, zpu1, zpu0, cond_true, cond_false, zib0, zib1, zib_ite, zq00, zq20, zq22, zq90, zq99, zq40, zq44, zq100, zq1010, Bool.and_true, if_true, if_false, z1ne0, not_true_eq_false, not_false_eq_true, zite10, eq_self, and_true, true_and, and_false, false_and, ↓reduceIte, Int32.reduceLT, Int32.reduceLE, Int32.reduceAdd, Int32.reduceSub, Int32.reduceMul]
  · show zgo false d 128 0 [zi a, zi 60, zi b] [] M = _
    simp +decide only [B128_0, B128_100, B128_105, B128_118, B128_119, B128_130, B128_141, B128_152, B128_176, B128_188, zite_v, yJn, zbsome, zpu1, zpu0, cond_true, cond_false, zib0, zib1, zib_ite, zq00, zq20, zq22, zq90, zq99, zq40, zq44, zq100, zq1010, Bool.and_true, if_true, if_false, z1ne0, not_true_eq_false, not_false_eq_true, zite10, eq_self, and_true, true_and, and_false, false_and, ↓reduceIte, Int32.reduceLT, Int32.reduceLE, Int32.reduceAdd, Int32.reduceSub, Int32.reduceMul]
    grind
  · show zgo false d 128 0 [zi a, zi 61, zi b] [] M = _
    simp +decide only [B128_0, B128_100, B128_105, B128_118, B128_119, B128_130, B128_141, B128_152, B128_176, B128_188, zite_v, yJn, zbsome, zpu1, zpu0, cond_true, cond_false, zib0, zib1, zib_ite, zq00, zq20, zq22, zq90, zq99, zq40, zq44, zq100, zq1010, Bool.and_true, if_true, if_false, z1ne0, not_true_eq_false, not_false_eq_true, zite10, eq_self, and_true, true_and, and_false, false_and, ↓reduceIte, Int32.reduceLT, Int32.reduceLE, Int32.reduceAdd, Int32.reduceSub, Int32.reduceMul]
  · show zgo false d 128 0 [zi a, zi 62, zi b] [] M = _
    simp +decide only [B128_0, B128_100, B128_105, B128_118, B128_119, B128_130, B128_141, B128_152, B128_176, B128_188, zite_v, yJn, zbsome, zpu1, zpu0, cond_true, cond_false, zib0, zib1, zib_ite, zq00, zq20, zq22, zq90, zq99, zq40, zq44, zq100, zq1010, Bool.and_true, if_true, if_false, z1ne0, not_true_eq_false, not_false_eq_true, zite10, eq_self, and_true, true_and, and_false, false_and, ↓reduceIte, Int32.reduceLT, Int32.reduceLE, Int32.reduceAdd, Int32.reduceSub, Int32.reduceMul]
    grind
  · show zgo false d 128 0 [zi a, zi 43, zi b] [] M = _
    simp +decide only [B128_0, B128_100, B128_105, B128_118, B128_119, B128_130, B128_141, B128_152, B128_176, B128_188, yJn, zbsome, zpu1, zpu0, cond_true, cond_false, zib0, zib1, zib_ite, zq00, zq20, zq22, zq90, zq99, zq40, zq44, zq100, zq1010, Bool.and_true, if_true, if_false, z1ne0, not_true_eq_false, not_false_eq_true, zite10, eq_self, and_true, true_and, and_false, false_and, ↓reduceIte, Int32.reduceLT, Int32.reduceLE, Int32.reduceAdd, Int32.reduceSub, Int32.reduceMul]
  · show zgo false d 128 0 [zi a, zi 45, zi b] [] M = _
    simp +decide only [B128_0, B128_100, B128_105, B128_118, B128_119, B128_130, B128_141, B128_152, B128_176, B128_188, yJn, zbsome, zpu1, zpu0, cond_true, cond_false, zib0, zib1, zib_ite, zq00, zq20, zq22, zq90, zq99, zq40, zq44, zq100, zq1010, Bool.and_true, if_true, if_false, z1ne0, not_true_eq_false, not_false_eq_true, zite10, eq_self, and_true, true_and, and_false, false_and, ↓reduceIte, Int32.reduceLT, Int32.reduceLE, Int32.reduceAdd, Int32.reduceSub, Int32.reduceMul]
  · show zgo false d 128 0 [zi a, zi 42, zi b] [] M = _
    simp +decide only [B128_0, B128_100, B128_105, B128_118, B128_119, B128_130, B128_141, B128_152, B128_176, B128_188, yJn, zbsome, zpu1, zpu0, cond_true, cond_false, zib0, zib1, zib_ite, zq00, zq20, zq22, zq90, zq99, zq40, zq44, zq100, zq1010, Bool.and_true, if_true, if_false, z1ne0, not_true_eq_false, not_false_eq_true, zite10, eq_self, and_true, true_and, and_false, false_and, ↓reduceIte, Int32.reduceLT, Int32.reduceLE, Int32.reduceAdd, Int32.reduceSub, Int32.reduceMul]
  · show zgo false d 128 0 [zi a, zi 47, zi b] [] M = _
    simp +decide only [B128_0, B128_100, B128_105, B128_118, B128_119, B128_130, B128_141, B128_152, B128_176, B128_188, yJn, zbsome, zpu1, zpu0, cond_true, cond_false, zib0, zib1, zib_ite, zq00, zq20, zq22, zq90, zq99, zq40, zq44, zq100, zq1010, Bool.and_true, if_true, if_false, z1ne0, not_true_eq_false, not_false_eq_true, zite10, eq_self, and_true, true_and, and_false, false_and, ↓reduceIte, Int32.reduceLT, Int32.reduceLE, Int32.reduceAdd, Int32.reduceSub, Int32.reduceMul]
    by_cases e : b = 0
    · rw [if_pos e, if_pos e]
    · rw [if_neg e, if_neg e, if_neg e]
  · show zgo false d 128 0 [zi a, zi 37, zi b] [] M = _
    simp +decide only [B128_0, B128_100, B128_105, B128_118, B128_119, B128_130, B128_141, B128_152, B128_176, B128_188, yJn, zbsome, zpu1, zpu0, cond_true, cond_false, zib0, zib1, zib_ite, zq00, zq20, zq22, zq90, zq99, zq40, zq44, zq100, zq1010, Bool.and_true, if_true, if_false, z1ne0, not_true_eq_false, not_false_eq_true, zite10, eq_self, and_true, true_and, and_false, false_and, ↓reduceIte, Int32.reduceLT, Int32.reduceLE, Int32.reduceAdd, Int32.reduceSub, Int32.reduceMul]
    by_cases e : b = 0
    · rw [if_pos e, if_pos e]
    · rw [if_neg e, if_neg e, if_neg e]
theorem S225 (d : Nat) (a b : Int32) (s : Nat) (M : zM) (h : ySgn s) : zgo false d 225 0 [zi (nI s), zi a, zi b] [] M = some (some (zi (yJn a b s)), M) := by
  rcases h with rfl | rfl | rfl | rfl | rfl | rfl | rfl | rfl | rfl | rfl
  · show zgo false d 225 0 [zi 124, zi a, zi b] [] M = _
    simp +decide only [B225_0, B225_153, B225_163, B225_170, B225_181, B225_192, B225_203, B225_216, B225_217, B225_218, B225_226, B225_231, zite_v, yJn, zbsome, zpu1, zpu0, cond_true, cond_false, zib0, zib1, zib_ite, zq00, zq20, zq22, zq90, zq99, zq40, zq44, zq100, zq1010, Bool.and_true, if_true, if_false, z1ne0, not_true_eq_false, not_false_eq_true, zite10, eq_self, and_true, true_and, and_false, false_and, ↓reduceIte, Int32.reduceLT, Int32.reduceLE, Int32.reduceAdd, Int32.reduceSub, Int32.reduceMul]
  · show zgo false d 225 0 [zi 38, zi a, zi b] [] M = _
    simp +decide only [B225_0, B225_153, B225_163, B225_170, B225_181, B225_192, B225_203, B225_216, B225_217, B225_218, B225_226, B225_231, zite_v, yJn, zbsome, zpu1, zpu0, cond_true, cond_false, zib0, zib1, zib_ite, zq00, zq20, zq22, zq90, zq99, zq40, zq44, zq100, zq1010, Bool.and_true, if_true, if_false, z1ne0, not_true_eq_false, not_false_eq_true, zite10, eq_self, and_true, true_and, and_false, false_and, ↓reduceIte, Int32.reduceLT, Int32.reduceLE, Int32.reduceAdd, Int32.reduceSub, Int32.reduceMul]
  · show zgo false d 225 0 [zi 60, zi a, zi b] [] M = _
    simp +decide only [B225_0, B225_153, B225_163, B225_170, B225_181, B225_192, B225_203, B225_216, B225_217, B225_218, B225_226, B225_231, zite_v, yJn, zbsome, zpu1, zpu0, cond_true, cond_false, zib0, zib1, zib_ite, zq00, zq20, zq22, zq90, zq99, zq40, zq44, zq100, zq1010, Bool.and_true, if_true, if_false, z1ne0, not_true_eq_false, not_false_eq_true, zite10, eq_self, and_true, true_and, and_false, false_and, ↓reduceIte, Int32.reduceLT, Int32.reduceLE, Int32.reduceAdd, Int32.reduceSub, Int32.reduceMul]
    grind
  · show zgo false d 225 0 [zi 61, zi a, zi b] [] M = _
    simp +decide only [B225_0, B225_153, B225_163, B225_170, B225_181, B225_192, B225_203, B225_216, B225_217, B225_218, B225_226, B225_231, zite_v, yJn, zbsome, zpu1, zpu0, cond_true, cond_false, zib0, zib1, zib_ite, zq00, zq20, zq22, zq90, zq99, zq40, zq44, zq100, zq1010, Bool.and_true, if_true, if_false, z1ne0, not_true_eq_false, not_false_eq_true, zite10, eq_self, and_true, true_and, and_false, false_and, ↓reduceIte, Int32.reduceLT, Int32.reduceLE, Int32.reduceAdd, Int32.reduceSub, Int32.reduceMul]
  · show zgo false d 225 0 [zi 62, zi a, zi b] [] M = _
    simp +decide only [B225_0, B225_153, B225_163, B225_170, B225_181, B225_192, B225_203, B225_216, B225_217, B225_218, B225_226, B225_231, zite_v, yJn, zbsome, zpu1, zpu0, cond_true, cond_false, zib0, zib1, zib_ite, zq00, zq20, zq22, zq90, zq99, zq40, zq44, zq100, zq1010, Bool.and_true, if_true, if_false, z1ne0, not_true_eq_false, not_false_eq_true, zite10, eq_self, and_true, true_and, and_false, false_and, ↓reduceIte, Int32.reduceLT, Int32.reduceLE, Int32.reduceAdd, Int32.reduceSub, Int32.reduceMul]
    grind
  · show zgo false d 225 0 [zi 43, zi a, zi b] [] M = _
    simp +decide only [B225_0, B225_153, B225_163, B225_170, B225_181, B225_192, B225_203, B225_216, B225_217, B225_218, B225_226, B225_231, yJn, zbsome, zpu1, zpu0, cond_true, cond_false, zib0, zib1, zib_ite, zq00, zq20, zq22, zq90, zq99, zq40, zq44, zq100, zq1010, Bool.and_true, if_true, if_false, z1ne0, not_true_eq_false, not_false_eq_true, zite10, eq_self, and_true, true_and, and_false, false_and, ↓reduceIte, Int32.reduceLT, Int32.reduceLE, Int32.reduceAdd, Int32.reduceSub, Int32.reduceMul]
  · show zgo false d 225 0 [zi 45, zi a, zi b] [] M = _
    simp +decide only [B225_0, B225_153, B225_163, B225_170, B225_181, B225_192, B225_203, B225_216, B225_217, B225_218, B225_226, B225_231, yJn, zbsome, zpu1, zpu0, cond_true, cond_false, zib0, zib1, zib_ite, zq00, zq20, zq22, zq90, zq99, zq40, zq44, zq100, zq1010, Bool.and_true, if_true, if_false, z1ne0, not_true_eq_false, not_false_eq_true, zite10, eq_self, and_true, true_and, and_false, false_and, ↓reduceIte, Int32.reduceLT, Int32.reduceLE, Int32.reduceAdd, Int32.reduceSub, Int32.reduceMul]
  · show zgo false d 225 0 [zi 42, zi a, zi b] [] M = _
    simp +decide only [B225_0, B225_153, B225_163, B225_170, B225_181, B225_192, B225_203, B225_216, B225_217, B225_218, B225_226, B225_231, yJn, zbsome, zpu1, zpu0, cond_true, cond_false, zib0, zib1, zib_ite, zq00, zq20, zq22, zq90, zq99, zq40, zq44, zq100, zq1010, Bool.and_true, if_true, if_false, z1ne0, not_true_eq_false, not_false_eq_true, zite10, eq_self, and_true, true_and, and_false, false_and, ↓reduceIte, Int32.reduceLT, Int32.reduceLE, Int32.reduceAdd, Int32.reduceSub, Int32.reduceMul]
  · show zgo false d 225 0 [zi 47, zi a, zi b] [] M = _
    simp +decide only [B225_0, B225_153, B225_163, B225_170, B225_181, B225_192, B225_203, B225_216, B225_217, B225_218, B225_226, B225_231, yJn, zbsome, zpu1, zpu0, cond_true, cond_false, zib0, zib1, zib_ite, zq00, zq20, zq22, zq90, zq99, zq40, zq44, zq100, zq1010, Bool.and_true, if_true, if_false, z1ne0, not_true_eq_false, not_false_eq_true, zite10, eq_self, and_true, true_and, and_false, false_and, ↓reduceIte, Int32.reduceLT, Int32.reduceLE, Int32.reduceAdd, Int32.reduceSub, Int32.reduceMul]
    by_cases e : b = 0
    · rw [if_pos e, if_pos e]
    · rw [if_neg e, if_neg e, if_neg e]
      by_cases e2 : b = -1
      · rw [if_pos e2, e2, yDivN]
      · rw [if_neg e2]
  · show zgo false d 225 0 [zi 37, zi a, zi b] [] M = _
    simp +decide only [B225_0, B225_153, B225_163, B225_170, B225_181, B225_192, B225_203, B225_216, B225_217, B225_218, B225_226, B225_231, yJn, zbsome, zpu1, zpu0, cond_true, cond_false, zib0, zib1, zib_ite, zq00, zq20, zq22, zq90, zq99, zq40, zq44, zq100, zq1010, Bool.and_true, if_true, if_false, z1ne0, not_true_eq_false, not_false_eq_true, zite10, eq_self, and_true, true_and, and_false, false_and, ↓reduceIte, Int32.reduceLT, Int32.reduceLE, Int32.reduceAdd, Int32.reduceSub, Int32.reduceMul]
    by_cases e : b = 0
    · rw [if_pos e, if_pos e]
    · rw [if_neg e, if_neg e, if_neg e]
      by_cases e2 : b = -1
      · rw [if_pos e2, e2, yDivN]
        congr 4
        grind
      · rw [if_neg e2]
/-! a pile of values in a row, and a stretch of a row -/
def ySk (M : zM) (k i : Nat) : List Int32 → Prop
  | [] => True
  | x :: r => zgI M k i r.length = x ∧ ySk M k i r
theorem ySk_fr {M M' : zM} {k i : Nat} : ∀ {l : List Int32}, ySk M k i l → (∀ s, s < l.length → zgI M' k i s = zgI M k i s) → ySk M' k i l
  | [], _, _ => trivial
  | x :: r, h, e => ⟨(e r.length (by simp)).trans h.1, ySk_fr h.2 (fun s hs => e s (by simp; omega))⟩
def ySg (M : zM) (k i j : Nat) : List Int32 → Prop
  | [] => True
  | x :: r => zgI M k i j = x ∧ ySg M k i (j + 1) r
theorem ySg_app {M : zM} {k i : Nat} : ∀ {a b : List Int32} {j : Nat}, ySg M k i j (a ++ b) ↔ ySg M k i j a ∧ ySg M k i (j + a.length) b
  | [], b, j => by simp [ySg]
  | x :: r, b, j => by
    show (zgI M k i j = x ∧ ySg M k i (j + 1) (r ++ b)) ↔ (zgI M k i j = x ∧ ySg M k i (j + 1) r) ∧ _
    rw [ySg_app, List.length_cons, show j + 1 + r.length = j + (r.length + 1) by omega, and_assoc]
theorem ySg_fr {M M' : zM} {k i : Nat} : ∀ {l : List Int32} {j : Nat}, ySg M k i j l → (∀ s, j ≤ s → s < j + l.length → zgI M' k i s = zgI M k i s) → ySg M' k i j l
  | [], _, _, _ => trivial
  | x :: r, j, h, e => ⟨(e j (by omega) (by simp)).trans h.1, ySg_fr h.2 (fun s h1 h2 => e s (by omega) (by simp; omega))⟩
theorem S127 (d u : Nat) (x : Int32) (r : List Int32) (M : zM) (h : zgI M 11 u 3 = nI (r.length + 1)) (hk : ySk M 49 u (x :: r)) (hl : r.length < 128) : zgo false d 127 0 [zr 11 u] [] M = some (some (zi x), zsI M 11 u 3 (nI r.length)) := by
  have e1 : (0 : Int32) < nI (r.length + 1) := nI_lt (a := 0) (by omega) (by omega)
  have e2 : zgI (zsI M 11 u 3 (nI r.length)) 11 u 3 = nI r.length := by simp [zgI_sI]
  have e3 : zgI (zsI M 11 u 3 (nI r.length)) 49 u r.length = x := hk.1
  rw [B127_0, h, if_pos e1, nI_pred, e2, if_pos (zin_nI hl (by omega)), nI_clamp (by omega), e3]
theorem S126 (d u : Nat) (x : Int32) (st : List Int32) (M : zM) (h : zgI M 11 u 3 = nI st.length) (hk : ySk M 49 u st) (hl : st.length < 128) : zgo false d 126 0 [zr 11 u, zi x] [] M = some (none, zsI (zsI M 49 u st.length x) 11 u 3 (nI (st.length + 1))) ∧ ySk (zsI (zsI M 49 u st.length x) 11 u 3 (nI (st.length + 1))) 49 u (x :: st) := by
  have e1 : nI st.length < (128 : Int32) := nI_lt (b := 128) hl (by omega)
  have e2 : zgI (zsI M 49 u st.length x) 11 u 3 = nI st.length := h
  refine ⟨?_, by simp [zgI_sI], ySk_fr hk (fun s hs => by simp [zgI_sI]; intro q; omega)⟩
  rw [B126_0, h, if_pos e1, if_pos (zin_nI hl (by omega)), nI_clamp (by omega), B126_23, e2, nI_1]
/-- the class's work of one operation -/
theorem S125 (d u : Nat) (o : yOp) (st st' : List Int32) (w : zV) (M : zM) (ho : yOk o) (h : zgI M 11 u 3 = nI st.length) (hk : ySk M 49 u st) (hl : st.length < 120) (hs : yStp (fun k => zgI M 31 0 k) o st = some st') : ∃ M', zgo false (d + 2) 125 0 [zr 11 u, zi (yCc o), zr 31 0, w] [] M = some (none, M') ∧ zFo (fun a b c => b = u ∧ (a = 49 ∨ (a = 11 ∧ c = 3))) M M' ∧ zgI M' 11 u 3 = nI st'.length ∧ ySk M' 49 u st' := by
  have p : ∀ (x : Int32) (r : List Int32) (M1 : zM), zFo (fun a b c => b = u ∧ (a = 49 ∨ (a = 11 ∧ c = 3))) M M1 → zgI M1 11 u 3 = nI r.length → ySk M1 49 u r → r.length < 128 → ∃ M', (∀ d, zgo false d 126 0 [zr 11 u, zi x] [] M1 = some (none, M')) ∧ zFo (fun a b c => b = u ∧ (a = 49 ∨ (a = 11 ∧ c = 3))) M M' ∧ zgI M' 11 u 3 = nI (x :: r).length ∧ ySk M' 49 u (x :: r) := fun x r M1 f h1 h2 h3 => by
    refine ⟨_, fun d => (S126 d u x r M1 h1 h2 h3).1, zFo_trans f (zFo_sI (zFo_sI (zFo_refl _ M1) ⟨rfl, Or.inl rfl⟩) ⟨rfl, Or.inr ⟨rfl, rfl⟩⟩), by simp [zgI_sI], (S126 0 u x r M1 h1 h2 h3).2⟩
  have q : ∀ (x : Int32) (r : List Int32) (M1 : zM), zFo (fun a b c => b = u ∧ (a = 49 ∨ (a = 11 ∧ c = 3))) M M1 → zgI M1 11 u 3 = nI (x :: r).length → ySk M1 49 u (x :: r) → r.length < 128 → (∀ d, zgo false d 127 0 [zr 11 u] [] M1 = some (some (zi x), zsI M1 11 u 3 (nI r.length))) ∧ zFo (fun a b c => b = u ∧ (a = 49 ∨ (a = 11 ∧ c = 3))) M (zsI M1 11 u 3 (nI r.length)) ∧ zgI (zsI M1 11 u 3 (nI r.length)) 11 u 3 = nI r.length ∧ ySk (zsI M1 11 u 3 (nI r.length)) 49 u r := fun x r M1 f h1 h2 h3 => by
    refine ⟨fun d => S127 d u x r M1 h1 h2 h3, zFo_trans f (zFo_sI (zFo_refl _ M1) ⟨rfl, Or.inr ⟨rfl, rfl⟩⟩), by simp [zgI_sI], ySk_fr h2.2 (fun s hs => rfl)⟩
  obtain n | k | s := o
  · have hs : some (nI n :: st) = some st' := hs
    cases hs
    have ho : n ≤ 9999 := ho
    obtain ⟨M', e, f, g1, g2⟩ := p (nI n) st M (zFo_refl _ M) h hk (by omega)
    refine ⟨M', ?_, f, g1, g2⟩
    have c : ¬ nI n < 0 := nI_pos (by omega)
    show zgo false (d + 2) 125 0 [zr 11 u, zi (nI n), zr 31 0, w] [] M = _
    simp +decide only [B125_0, B125_9, B125_26, B125_29, B125_44, B125_48, B125_63, B125_71, B125_74, B125_81, B125_87, B125_96, B125_99, c, e, zbsome, zpu1, zpu0, cond_true, cond_false, zib0, zib1, zib_ite, zq00, zq20, zq22, zq90, zq99, zq40, zq44, zq100, zq1010, Bool.and_true, if_true, if_false, z1ne0, not_true_eq_false, not_false_eq_true, zite10, eq_self, and_true, true_and, and_false, false_and, ↓reduceIte, Int32.reduceLT, Int32.reduceLE, Int32.reduceAdd, Int32.reduceSub, Int32.reduceMul]
  · have hs : some (zgI M 31 0 k :: st) = some st' := hs
    cases hs
    have ho : k < 12 := ho
    obtain ⟨M', e, f, g1, g2⟩ := p (zgI M 31 0 k) st M (zFo_refl _ M) h hk (by omega)
    refine ⟨M', ?_, f, g1, g2⟩
    have kp : 0 ≤ nI k := nI_pos' (by omega)
    have kq : nI k ≤ 11 := nI_le (b := 11) (by omega) (by omega)
    have c1 : (-1 - nI k) < 0 := by grind
    have c2 : ¬ (-1 - nI k) < -12 := by grind
    have c3 : -1 - (-1 - nI k) = nI k := by grind
    show zgo false (d + 2) 125 0 [zr 11 u, zi (-1 - nI k), zr 31 0, w] [] M = _
    simp +decide only [B125_0, B125_9, B125_26, B125_29, B125_44, B125_48, B125_63, B125_71, B125_74, B125_81, B125_87, B125_96, B125_99, c1, c2, c3, at31n _ _ _ _ _ ho, e, zbsome, zpu1, zpu0, cond_true, cond_false, zib0, zib1, zib_ite, zq00, zq20, zq22, zq90, zq99, zq40, zq44, zq100, zq1010, Bool.and_true, if_true, if_false, z1ne0, not_true_eq_false, not_false_eq_true, zite10, eq_self, and_true, true_and, and_false, false_and, ↓reduceIte, Int32.reduceLT, Int32.reduceLE, Int32.reduceAdd, Int32.reduceSub, Int32.reduceMul]
  · have ho : s = 1 ∨ s = 2 ∨ ySgn s := ho
    by_cases s1 : s = 1
    · subst s1
      obtain _ | ⟨x, r⟩ := st
      · cases hs
      have hs : some (-x :: r) = some st' := hs
      cases hs
      have hl : r.length < 119 := by simp at hl; omega
      obtain ⟨e1, f1, h1, k1⟩ := q x r M (zFo_refl _ M) h hk (by omega)
      obtain ⟨M', e, f, g1, g2⟩ := p (-x) r _ f1 h1 k1 (by omega)
      refine ⟨M', ?_, f, g1, g2⟩
      show zgo false (d + 2) 125 0 [zr 11 u, zi (-1001), zr 31 0, w] [] M = _
      simp +decide only [B125_0, B125_9, B125_26, B125_29, B125_44, B125_48, B125_63, B125_71, B125_74, B125_81, B125_87, B125_96, B125_99, e1, e, zbsome, zpu1, zpu0, cond_true, cond_false, zib0, zib1, zib_ite, zq00, zq20, zq22, zq90, zq99, zq40, zq44, zq100, zq1010, Bool.and_true, if_true, if_false, z1ne0, not_true_eq_false, not_false_eq_true, zite10, eq_self, and_true, true_and, and_false, false_and, ↓reduceIte, Int32.reduceLT, Int32.reduceLE, Int32.reduceAdd, Int32.reduceSub, Int32.reduceMul]
    by_cases s2 : s = 2
    · subst s2
      obtain _ | ⟨x, r⟩ := st
      · cases hs
      have hs : some ((if x = 0 then 1 else 0) :: r) = some st' := hs
      cases hs
      have hl : r.length < 119 := by simp at hl; omega
      obtain ⟨e1, f1, h1, k1⟩ := q x r M (zFo_refl _ M) h hk (by omega)
      obtain ⟨M', e, f, g1, g2⟩ := p (if x = 0 then 1 else 0) r _ f1 h1 k1 (by omega)
      refine ⟨M', ?_, f, g1, g2⟩
      show zgo false (d + 2) 125 0 [zr 11 u, zi (-1002), zr 31 0, w] [] M = _
      by_cases c : x = 0
      · rw [if_pos c] at e
        simp +decide only [B125_0, B125_9, B125_26, B125_29, B125_44, B125_48, B125_63, B125_71, B125_74, B125_81, B125_87, B125_96, B125_99, e1, c, e, zbsome, zpu1, zpu0, cond_true, cond_false, zib0, zib1, zib_ite, zq00, zq20, zq22, zq90, zq99, zq40, zq44, zq100, zq1010, Bool.and_true, if_true, if_false, z1ne0, not_true_eq_false, not_false_eq_true, zite10, eq_self, and_true, true_and, and_false, false_and, ↓reduceIte, Int32.reduceLT, Int32.reduceLE, Int32.reduceAdd, Int32.reduceSub, Int32.reduceMul]
      · rw [if_neg c] at e
        simp +decide only [B125_0, B125_9, B125_26, B125_29, B125_44, B125_48, B125_63, B125_71, B125_74, B125_81, B125_87, B125_96, B125_99, e1, c, e, zbsome, zpu1, zpu0, cond_true, cond_false, zib0, zib1, zib_ite, zq00, zq20, zq22, zq90, zq99, zq40, zq44, zq100, zq1010, Bool.and_true, if_true, if_false, z1ne0, not_true_eq_false, not_false_eq_true, zite10, eq_self, and_true, true_and, and_false, false_and, ↓reduceIte, Int32.reduceLT, Int32.reduceLE, Int32.reduceAdd, Int32.reduceSub, Int32.reduceMul]
    · have ho : ySgn s := by
        rcases ho with ho | ho | ho
        · exact absurd ho s1
        · exact absurd ho s2
        · exact ho
      obtain _ | ⟨b, _ | ⟨a, r⟩⟩ := st
      · simp only [yStp, if_neg s1, if_neg s2] at hs
        cases hs
      · simp only [yStp, if_neg s1, if_neg s2] at hs
        cases hs
      simp only [yStp, if_neg s1, if_neg s2] at hs
      have hs : some (yJn a b s :: r) = some st' := hs
      cases hs
      have hl : r.length < 118 := by simp at hl; omega
      obtain ⟨e1, f1, h1, k1⟩ := q b (a :: r) M (zFo_refl _ M) h hk (by simp; omega)
      obtain ⟨e2, f2, h2, k2⟩ := q a r _ f1 h1 k1 (by omega)
      obtain ⟨M', e, f, g1, g2⟩ := p (yJn a b s) r _ f2 h2 k2 (by omega)
      refine ⟨M', ?_, f, g1, g2⟩
      have hb : 37 ≤ s ∧ s ≤ 124 := by
        rcases ho with rfl | rfl | rfl | rfl | rfl | rfl | rfl | rfl | rfl | rfl <;> omega
      have n1 : 37 ≤ nI s := nI_le (a := 37) hb.1 (by omega)
      have n2 : nI s ≤ 124 := nI_le (b := 124) hb.2 (by omega)
      have c1 : (-1000 - nI s) < 0 := by grind
      have c2 : (-1000 - nI s) < -12 := by grind
      have c3 : ¬ (-1000 - nI s) = -1001 := by grind
      have c4 : ¬ (-1000 - nI s) = -1002 := by grind
      have c5 : -1000 - (-1000 - nI s) = nI s := by grind
      show zgo false (d + 2) 125 0 [zr 11 u, zi (-1000 - nI s), zr 31 0, w] [] M = _
      simp +decide only [B125_0, B125_9, B125_26, B125_29, B125_44, B125_48, B125_63, B125_71, B125_74, B125_81, B125_87, B125_96, B125_99, c1, c2, c3, c4, c5, e1, e2, S128 _ _ _ _ _ ho, e, zbsome, zpu1, zpu0, cond_true, cond_false, zib0, zib1, zib_ite, zq00, zq20, zq22, zq90, zq99, zq40, zq44, zq100, zq1010, Bool.and_true, if_true, if_false, z1ne0, not_true_eq_false, not_false_eq_true, zite10, eq_self, and_true, true_and, and_false, false_and, ↓reduceIte, Int32.reduceLT, Int32.reduceLE, Int32.reduceAdd, Int32.reduceSub, Int32.reduceMul]
