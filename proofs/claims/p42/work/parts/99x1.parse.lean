/-! ===== a text read, by the class alone: a reader in numbers, and that the machine does as it ===== -/
def sJoin (lev c : Nat) : Bool := match lev with
  | 0 => Nat.beq c 124
  | 1 => Nat.beq c 38
  | 2 => Nat.beq c 60 || (Nat.beq c 61 || Nat.beq c 62)
  | 3 => Nat.beq c 43 || Nat.beq c 45
  | _ => Nat.beq c 42 || (Nat.beq c 47 || Nat.beq c 37)
def sNum (n : Nat) (t : Nat → Nat) : Nat → Nat → Nat → Nat × Nat
  | 0, x, p => (p, x)
  | j + 1, x, p => if 48 ≤ yC n t p ∧ yC n t p ≤ 57 then sNum n t j (x * 10 + (yC n t p - 48)) (p + 1) else (p, x)
/-- modes: 0 .. 4 the levels, 5 what stands alone, 10 .. 14 what follows at a level -/
def sP (n : Nat) (t : Nat → Nat) : Nat → Nat → Nat → Nat → Nat → Nat → Option (Nat × List Int32)
  | 0, _, _, _, _, _ => none
  | f + 1, m, op, i, p, z =>
    if m < 5 then (sP n t f (m + 1) op 0 p z).bind fun q => (sP n t f (10 + m) op 0 q.1 (z + q.2.length)).bind fun r => some (r.1, q.2 ++ r.2)
    else if m = 5 then
      if 48 ≤ yC n t p ∧ yC n t p ≤ 57 then (if z < 128 then some ((sNum n t 4 0 p).1, [nI (sNum n t 4 0 p).2]) else none)
      else if yNx (yC n t p) = -1 then
        if op < 6 then
          if yC n t p = 40 then (sP n t f 0 (op + 1) 0 (p + 1) z).bind fun q => if yC n t q.1 = 41 then some (q.1 + 1, q.2) else none
          else if yC n t p = 45 then (sP n t f 5 (op + 1) 0 (p + 1) z).bind fun q => if z + q.2.length < 128 then some (q.1, q.2 ++ [-1001]) else none
          else none
        else none
      else if z < 128 then some (p + 1, [-1 - yNx (yC n t p)]) else none
    else if 120 ≤ i ∨ (m = 12 ∧ 1 ≤ i) then some (p, [])
    else if sJoin (m - 10) (yC n t p) = true then
      (sP n t f (m - 9) op 0 (p + 1) z).bind fun q => if z + q.2.length < 128 then (sP n t f m op (i + 1) q.1 (z + q.2.length + 1)).bind fun r => some (r.1, q.2 ++ ((-1000 - nI (yC n t p)) :: r.2)) else none
    else some (p, [])
def sSt (n : Nat) (t : Nat → Nat) (A : zM) (p z : Nat) : Prop := p ≤ n ∧ zgI A 8 0 3 = nI p ∧ zgI A 8 0 4 = nI z ∧ yTpA A n t
def sOK (n : Nat) (t : Nat → Nat) (A : zM) (z : Nat) (A' : zM) (p' : Nat) (l : List Int32) : Prop := zFo (yFa z) A A' ∧ sSt n t A' p' (z + l.length) ∧ ySg A' 44 0 z l
theorem sOK_seq {n : Nat} {t : Nat → Nat} {A A1 A2 : zM} {z p1 p2 : Nat} {l1 l2 : List Int32} (h1 : sOK n t A z A1 p1 l1) (h2 : sOK n t A1 (z + l1.length) A2 p2 l2) : sOK n t A z A2 p2 (l1 ++ l2) := by
  obtain ⟨f1, s1, g1⟩ := h1
  obtain ⟨f2, s2, g2⟩ := h2
  refine ⟨zFo_trans f1 (yFa_mono f2 (by omega)), ?_, ?_⟩
  · rw [List.length_append, ← Nat.add_assoc]
    exact s2
  · rw [ySg_app]
    exact ⟨ySg_fr g1 (fun s s1 s2 => (f2 44 0 s (by unfold yFa; omega)).1), g2⟩
theorem sOK_nil {n : Nat} {t : Nat → Nat} {A : zM} {p z : Nat} (h : sSt n t A p z) : sOK n t A z A p [] := ⟨zFo_refl _ A, h, trivial⟩
theorem sOK_step {n : Nat} {t : Nat → Nat} {A : zM} {p z : Nat} (h : sSt n t A p z) (hp : p < n) : sOK n t A z (zsI A 8 0 3 (nI (p + 1))) (p + 1) [] := ⟨zFo_sI (zFo_refl _ A) ⟨rfl, Or.inl ⟨rfl, Or.inl rfl⟩⟩, ⟨hp, rfl, h.2.2.1, yTpA_n h.2.2.2⟩, trivial⟩
theorem sOK_emit {n : Nat} {t : Nat → Nat} {A : zM} {p z : Nat} (x : Int32) (h : sSt n t A p z) : sOK n t A z (yEmA A z x) p [x] := by
  obtain ⟨h1, h2, h3, h4⟩ := h
  have f : zFo (yFa z) A (yEmA A z x) := yEmA_fo (Nat.le_refl _)
  refine ⟨f, ⟨h1, ?_, ?_, yTpA_fr h4 f⟩, ?_, trivial⟩
  · rw [yEmA_I (by omega) (by omega)]; exact h2
  · unfold yEmA
    rw [zgI_sI, if_pos ⟨rfl, rfl, rfl⟩]
    rfl
  · unfold yEmA
    rw [zgI_sI, if_neg (by omega), zgI_sI, if_pos ⟨rfl, rfl, rfl⟩]
theorem sJn (d lev c : Nat) (M : zM) (hl : lev < 5) (hc : c ≤ 256) : zgo false d 91 0 [zi (yS c), zi (nI lev)] [] M = some (some (zi (bI (sJoin lev c))), M) := by
  have k : ∀ a, Nat.beq c a = decide (c = a) := fun a => by
    by_cases h : c = a
    · rw [h, Nat.beq_refl]; exact (decide_eq_true rfl).symm
    · rw [zb_ne h]; exact (decide_eq_false h).symm
  rcases (by omega : lev = 0 ∨ lev = 1 ∨ lev = 2 ∨ lev = 3 ∨ lev = 4) with rfl | rfl | rfl | rfl | rfl
  · show zgo false d 91 0 [zi (yS c), zi 0] [] M = some (some (zi (bI (Nat.beq c 124))), M)
    rw [k]
    by_cases h : c = 124
    · simp +decide only [B91_0, B91_43, B91_55, B91_74, B91_79, B91_92, B91_97, B91_116, B91_121, yS124 hc, h, bI, decide_true, zbsome, zpu1, zpu0, cond_true, cond_false, zib0, zib1, zib_ite, zq00, zq20, zq22, zq90, zq99, zq40, zq44, zq100, zq1010, Bool.and_true, if_true, if_false, z1ne0, not_true_eq_false, not_false_eq_true, zite10, eq_self, and_true, true_and, and_false, false_and, ↓reduceIte, Int32.reduceLT, Int32.reduceLE, Int32.reduceAdd, Int32.reduceSub, Int32.reduceMul]
    · simp +decide only [B91_0, B91_43, B91_55, B91_74, B91_79, B91_92, B91_97, B91_116, B91_121, yS124 hc, h, bI, decide_false, zbsome, zpu1, zpu0, cond_true, cond_false, zib0, zib1, zib_ite, zq00, zq20, zq22, zq90, zq99, zq40, zq44, zq100, zq1010, Bool.and_true, if_true, if_false, z1ne0, not_true_eq_false, not_false_eq_true, zite10, eq_self, and_true, true_and, and_false, false_and, ↓reduceIte, Int32.reduceLT, Int32.reduceLE, Int32.reduceAdd, Int32.reduceSub, Int32.reduceMul]
  · show zgo false d 91 0 [zi (yS c), zi 1] [] M = some (some (zi (bI (Nat.beq c 38))), M)
    rw [k]
    by_cases h : c = 38
    · simp +decide only [B91_0, B91_43, B91_55, B91_74, B91_79, B91_92, B91_97, B91_116, B91_121, yS38 hc, h, bI, decide_true, zbsome, zpu1, zpu0, cond_true, cond_false, zib0, zib1, zib_ite, zq00, zq20, zq22, zq90, zq99, zq40, zq44, zq100, zq1010, Bool.and_true, if_true, if_false, z1ne0, not_true_eq_false, not_false_eq_true, zite10, eq_self, and_true, true_and, and_false, false_and, ↓reduceIte, Int32.reduceLT, Int32.reduceLE, Int32.reduceAdd, Int32.reduceSub, Int32.reduceMul]
    · simp +decide only [B91_0, B91_43, B91_55, B91_74, B91_79, B91_92, B91_97, B91_116, B91_121, yS38 hc, h, bI, decide_false, zbsome, zpu1, zpu0, cond_true, cond_false, zib0, zib1, zib_ite, zq00, zq20, zq22, zq90, zq99, zq40, zq44, zq100, zq1010, Bool.and_true, if_true, if_false, z1ne0, not_true_eq_false, not_false_eq_true, zite10, eq_self, and_true, true_and, and_false, false_and, ↓reduceIte, Int32.reduceLT, Int32.reduceLE, Int32.reduceAdd, Int32.reduceSub, Int32.reduceMul]
  · show zgo false d 91 0 [zi (yS c), zi 2] [] M = some (some (zi (bI (Nat.beq c 60 || (Nat.beq c 61 || Nat.beq c 62)))), M)
    rw [k, k, k]
    by_cases h : c = 60
    · simp +decide only [B91_0, B91_43, B91_55, B91_74, B91_79, B91_92, B91_97, B91_116, B91_121, yS60 hc, h, bI, decide_true, Bool.true_or, zbsome, zpu1, zpu0, cond_true, cond_false, zib0, zib1, zib_ite, zq00, zq20, zq22, zq90, zq99, zq40, zq44, zq100, zq1010, Bool.and_true, if_true, if_false, z1ne0, not_true_eq_false, not_false_eq_true, zite10, eq_self, and_true, true_and, and_false, false_and, ↓reduceIte, Int32.reduceLT, Int32.reduceLE, Int32.reduceAdd, Int32.reduceSub, Int32.reduceMul]
    by_cases h2 : c = 61
    · simp +decide only [B91_0, B91_43, B91_55, B91_74, B91_79, B91_92, B91_97, B91_116, B91_121, yS60 hc, yS61 hc, h, h2, bI, decide_true, decide_false, Bool.true_or, Bool.false_or, zbsome, zpu1, zpu0, cond_true, cond_false, zib0, zib1, zib_ite, zq00, zq20, zq22, zq90, zq99, zq40, zq44, zq100, zq1010, Bool.and_true, if_true, if_false, z1ne0, not_true_eq_false, not_false_eq_true, zite10, eq_self, and_true, true_and, and_false, false_and, ↓reduceIte, Int32.reduceLT, Int32.reduceLE, Int32.reduceAdd, Int32.reduceSub, Int32.reduceMul]
    by_cases h3 : c = 62
    · simp +decide only [B91_0, B91_43, B91_55, B91_74, B91_79, B91_92, B91_97, B91_116, B91_121, yS60 hc, yS61 hc, yS62 hc, h, h2, h3, bI, decide_true, decide_false, Bool.true_or, Bool.false_or, zbsome, zpu1, zpu0, cond_true, cond_false, zib0, zib1, zib_ite, zq00, zq20, zq22, zq90, zq99, zq40, zq44, zq100, zq1010, Bool.and_true, if_true, if_false, z1ne0, not_true_eq_false, not_false_eq_true, zite10, eq_self, and_true, true_and, and_false, false_and, ↓reduceIte, Int32.reduceLT, Int32.reduceLE, Int32.reduceAdd, Int32.reduceSub, Int32.reduceMul]
    · simp +decide only [B91_0, B91_43, B91_55, B91_74, B91_79, B91_92, B91_97, B91_116, B91_121, yS60 hc, yS61 hc, yS62 hc, h, h2, h3, bI, decide_true, decide_false, Bool.true_or, Bool.false_or, zbsome, zpu1, zpu0, cond_true, cond_false, zib0, zib1, zib_ite, zq00, zq20, zq22, zq90, zq99, zq40, zq44, zq100, zq1010, Bool.and_true, if_true, if_false, z1ne0, not_true_eq_false, not_false_eq_true, zite10, eq_self, and_true, true_and, and_false, false_and, ↓reduceIte, Int32.reduceLT, Int32.reduceLE, Int32.reduceAdd, Int32.reduceSub, Int32.reduceMul]
  · show zgo false d 91 0 [zi (yS c), zi 3] [] M = some (some (zi (bI (Nat.beq c 43 || Nat.beq c 45))), M)
    rw [k, k]
    by_cases h : c = 43
    · simp +decide only [B91_0, B91_43, B91_55, B91_74, B91_79, B91_92, B91_97, B91_116, B91_121, yS43 hc, h, bI, decide_true, Bool.true_or, zbsome, zpu1, zpu0, cond_true, cond_false, zib0, zib1, zib_ite, zq00, zq20, zq22, zq90, zq99, zq40, zq44, zq100, zq1010, Bool.and_true, if_true, if_false, z1ne0, not_true_eq_false, not_false_eq_true, zite10, eq_self, and_true, true_and, and_false, false_and, ↓reduceIte, Int32.reduceLT, Int32.reduceLE, Int32.reduceAdd, Int32.reduceSub, Int32.reduceMul]
    by_cases h2 : c = 45
    · simp +decide only [B91_0, B91_43, B91_55, B91_74, B91_79, B91_92, B91_97, B91_116, B91_121, yS43 hc, yS45 hc, h, h2, bI, decide_true, decide_false, Bool.true_or, Bool.false_or, zbsome, zpu1, zpu0, cond_true, cond_false, zib0, zib1, zib_ite, zq00, zq20, zq22, zq90, zq99, zq40, zq44, zq100, zq1010, Bool.and_true, if_true, if_false, z1ne0, not_true_eq_false, not_false_eq_true, zite10, eq_self, and_true, true_and, and_false, false_and, ↓reduceIte, Int32.reduceLT, Int32.reduceLE, Int32.reduceAdd, Int32.reduceSub, Int32.reduceMul]
    · simp +decide only [B91_0, B91_43, B91_55, B91_74, B91_79, B91_92, B91_97, B91_116, B91_121, yS43 hc, yS45 hc, h, h2, bI, decide_true, decide_false, Bool.true_or, Bool.false_or, zbsome, zpu1, zpu0, cond_true, cond_false, zib0, zib1, zib_ite, zq00, zq20, zq22, zq90, zq99, zq40, zq44, zq100, zq1010, Bool.and_true, if_true, if_false, z1ne0, not_true_eq_false, not_false_eq_true, zite10, eq_self, and_true, true_and, and_false, false_and, ↓reduceIte, Int32.reduceLT, Int32.reduceLE, Int32.reduceAdd, Int32.reduceSub, Int32.reduceMul]
  · show zgo false d 91 0 [zi (yS c), zi 4] [] M = some (some (zi (bI (Nat.beq c 42 || (Nat.beq c 47 || Nat.beq c 37)))), M)
    rw [k, k, k]
    by_cases h : c = 42
    · simp +decide only [B91_0, B91_43, B91_55, B91_74, B91_79, B91_92, B91_97, B91_116, B91_121, yS42 hc, h, bI, decide_true, Bool.true_or, zbsome, zpu1, zpu0, cond_true, cond_false, zib0, zib1, zib_ite, zq00, zq20, zq22, zq90, zq99, zq40, zq44, zq100, zq1010, Bool.and_true, if_true, if_false, z1ne0, not_true_eq_false, not_false_eq_true, zite10, eq_self, and_true, true_and, and_false, false_and, ↓reduceIte, Int32.reduceLT, Int32.reduceLE, Int32.reduceAdd, Int32.reduceSub, Int32.reduceMul]
    by_cases h2 : c = 47
    · simp +decide only [B91_0, B91_43, B91_55, B91_74, B91_79, B91_92, B91_97, B91_116, B91_121, yS42 hc, yS47 hc, h, h2, bI, decide_true, decide_false, Bool.true_or, Bool.false_or, zbsome, zpu1, zpu0, cond_true, cond_false, zib0, zib1, zib_ite, zq00, zq20, zq22, zq90, zq99, zq40, zq44, zq100, zq1010, Bool.and_true, if_true, if_false, z1ne0, not_true_eq_false, not_false_eq_true, zite10, eq_self, and_true, true_and, and_false, false_and, ↓reduceIte, Int32.reduceLT, Int32.reduceLE, Int32.reduceAdd, Int32.reduceSub, Int32.reduceMul]
    by_cases h3 : c = 37
    · simp +decide only [B91_0, B91_43, B91_55, B91_74, B91_79, B91_92, B91_97, B91_116, B91_121, yS42 hc, yS47 hc, yS37 hc, h, h2, h3, bI, decide_true, decide_false, Bool.true_or, Bool.false_or, zbsome, zpu1, zpu0, cond_true, cond_false, zib0, zib1, zib_ite, zq00, zq20, zq22, zq90, zq99, zq40, zq44, zq100, zq1010, Bool.and_true, if_true, if_false, z1ne0, not_true_eq_false, not_false_eq_true, zite10, eq_self, and_true, true_and, and_false, false_and, ↓reduceIte, Int32.reduceLT, Int32.reduceLE, Int32.reduceAdd, Int32.reduceSub, Int32.reduceMul]
    · simp +decide only [B91_0, B91_43, B91_55, B91_74, B91_79, B91_92, B91_97, B91_116, B91_121, yS42 hc, yS47 hc, yS37 hc, h, h2, h3, bI, decide_true, decide_false, Bool.true_or, Bool.false_or, zbsome, zpu1, zpu0, cond_true, cond_false, zib0, zib1, zib_ite, zq00, zq20, zq22, zq90, zq99, zq40, zq44, zq100, zq1010, Bool.and_true, if_true, if_false, z1ne0, not_true_eq_false, not_false_eq_true, zite10, eq_self, and_true, true_and, and_false, false_and, ↓reduceIte, Int32.reduceLT, Int32.reduceLE, Int32.reduceAdd, Int32.reduceSub, Int32.reduceMul]
/-- digits -/
theorem sDig {n : Nat} {t : Nat → Nat} (d z : Nat) : ∀ (j i x p : Nat) (A : zM), i + j = 4 → x < 10 ^ i → sSt n t A p z → ∃ (A' : zM) (k : Nat), zgo false (d + 2) 88 4 [zr 8 0, zi (nI x), zi (nI i)] [] A = zgo false (d + 2) 88 48 [zr 8 0, zi (nI (sNum n t j x p).2), zi (nI k)] [] A' ∧ sOK n t A z A' (sNum n t j x p).1 []
  | 0, i, x, p, A, hi, hx, h => by
    have hi : i = 4 := by omega
    subst hi
    refine ⟨A, 4, ?_, sOK_nil h⟩
    rw [B88_4, if_pos (by decide)]
    rfl
  | j + 1, i, x, p, A, hi, hx, h => by
    obtain ⟨h1, h2, h3, h4⟩ := h
    have hc : yC n t p ≤ 256 := yC_le h4.2.1 p
    have hS := fun d => S89y d h4 h2 h1
    have i4 : ¬ (4 : Int32) ≤ nI i := nI_ge (b := 4) (by omega) (by omega)
    have hpw : 10 ^ i ≤ 1000 := by
      rcases (by omega : i = 0 ∨ i = 1 ∨ i = 2 ∨ i = 3) with rfl | rfl | rfl | rfl <;> decide
    by_cases hd : 48 ≤ yC n t p ∧ yC n t p ≤ 57
    · have hdy : yDg (yC n t p) := hd
      obtain ⟨v1, v2⟩ := yLv hdy
      have hpn : p < n := yC_lt (t := t) (by omega)
      have e10 : 10 ^ (i + 1) = 10 ^ i * 10 := Nat.pow_succ 10 i
      have st := sOK_step (n := n) (t := t) (z := z) ⟨h1, h2, h3, h4⟩ hpn
      obtain ⟨A', k, e1, ok⟩ := sDig d z j (i + 1) (x * 10 + (yC n t p - 48)) (p + 1) (zsI A 8 0 3 (nI (p + 1))) (by omega) (by omega) st.2.1
      have en : sNum n t (j + 1) x p = sNum n t j (x * 10 + (yC n t p - 48)) (p + 1) := if_pos hd
      rw [en]
      refine ⟨A', k, ?_, sOK_seq (l1 := []) (l2 := []) st ok⟩
      have c1 : ¬ nI (yC n t p) < 48 := nI_nlt (b := 48) (by omega) (by omega)
      have c2 : ¬ (57 : Int32) < nI (yC n t p) := nI_nlt (a := 57) (by omega) (by omega)
      have e3 : nI x * 10 + nI (yC n t p) - 48 = nI (x * 10 + (yC n t p - 48)) := by
        rw [show (10 : Int32) = nI 10 from rfl, show (48 : Int32) = nI 48 from rfl, pk_mul, nI_add, pk_sub (by omega)]
        congr 1
        omega
      rw [B88_4, if_neg i4]
      simp +decide only [B88_13, B88_16, B88_27, B90_0, B90_16, B90_17, hS, v2, c1, c2, h2, e3, nI_1, zbsome, zpu1, zpu0, cond_true, cond_false, zib0, zib1, zib_ite, zq00, zq20, zq22, zq90, zq99, zq40, zq44, zq100, zq1010, Bool.and_true, if_true, if_false, z1ne0, not_true_eq_false, not_false_eq_true, zite10, eq_self, and_true, true_and, and_false, false_and, ↓reduceIte, Int32.reduceLT, Int32.reduceLE, Int32.reduceAdd, Int32.reduceSub, Int32.reduceMul]
      exact e1
    · have en : sNum n t (j + 1) x p = (p, x) := if_neg hd
      rw [en]
      refine ⟨A, i, ?_, sOK_nil ⟨h1, h2, h3, h4⟩⟩
      have nd : ¬ (48 ≤ yS (yC n t p) ∧ yS (yC n t p) ≤ 57) := mt (ySd hc).mp hd
      by_cases c1 : yS (yC n t p) < 48
      · simp +decide only [B88_4, B88_13, B88_16, B90_0, B90_16, B90_17, i4, hS, c1, zbsome, zpu1, zpu0, cond_true, cond_false, zib0, zib1, zib_ite, zq00, zq20, zq22, zq90, zq99, zq40, zq44, zq100, zq1010, Bool.and_true, if_true, if_false, z1ne0, not_true_eq_false, not_false_eq_true, zite10, eq_self, and_true, true_and, and_false, false_and, ↓reduceIte, Int32.reduceLT, Int32.reduceLE, Int32.reduceAdd, Int32.reduceSub, Int32.reduceMul]
      · have c2 : 57 < yS (yC n t p) := z_nle_lt (fun q => nd ⟨z_nlt_le c1, q⟩)
        simp +decide only [B88_4, B88_13, B88_16, B90_0, B90_16, B90_17, i4, hS, c1, c2, zbsome, zpu1, zpu0, cond_true, cond_false, zib0, zib1, zib_ite, zq00, zq20, zq22, zq90, zq99, zq40, zq44, zq100, zq1010, Bool.and_true, if_true, if_false, z1ne0, not_true_eq_false, not_false_eq_true, zite10, eq_self, and_true, true_and, and_false, false_and, ↓reduceIte, Int32.reduceLT, Int32.reduceLE, Int32.reduceAdd, Int32.reduceSub, Int32.reduceMul]
theorem sJoin_lt {lev c : Nat} (h : sJoin lev c = true) : c < 256 := by
  have k : ∀ a, Nat.beq c a = true → c = a := fun a h => zb_eq h
  unfold sJoin at h
  split at h <;> (try simp only [Bool.or_eq_true] at h)
  · have := k _ h; omega
  · have := k _ h; omega
  · rcases h with h | h | h <;> (have := k _ h; omega)
  · rcases h with h | h <;> (have := k _ h; omega)
  · rcases h with h | h | h <;> (have := k _ h; omega)
theorem yS_lo {c : Nat} (h : c < 256) : yS c = nI c := if_pos h
set_option maxHeartbeats 2000000 in
theorem sPok (n : Nat) (t : Nat → Nat) : ∀ f : Nat,
    (∀ (m op i p z : Nat) (r : Nat × List Int32) (A : zM) (d : Nat), m < 5 → op ≤ 6 → sP n t f m op i p z = some r → sSt n t A p z → ∃ A', zgo false (d + (2 * f + 10)) 85 0 [zr 8 0, zi (nI m), zi (nI op), zu, zu, zu] [] A = some (some (zi 1), A') ∧ sOK n t A z A' r.1 r.2) ∧
    (∀ (op i p z : Nat) (r : Nat × List Int32) (A : zM) (d : Nat), op ≤ 6 → sP n t f 5 op i p z = some r → sSt n t A p z → ∃ A', zgo false (d + (2 * f + 10)) 86 0 [zr 8 0, zi (nI op), zu] [] A = some (some (zi 1), A') ∧ sOK n t A z A' r.1 r.2) ∧
    (∀ (lev op i p z : Nat) (r : Nat × List Int32) (A : zM) (d : Nat) (u5 : zV), lev < 5 → op ≤ 6 → i ≤ 120 → sP n t f (10 + lev) op i p z = some r → sSt n t A p z → ∃ A', zgo false (d + (2 * f + 10)) 85 39 [zr 8 0, zi (nI lev), zi (nI op), zi (if lev = 2 then 1 else 120), zi (nI i), u5] [] A = some (some (zi 1), A') ∧ sOK n t A z A' r.1 r.2) := by
  intro f
  induction f with
  | zero => exact ⟨fun _ _ _ _ _ _ _ _ _ _ h => (by cases h), fun _ _ _ _ _ _ _ _ h => (by cases h), fun _ _ _ _ _ _ _ _ _ _ _ _ h => (by cases h)⟩
  | succ f ih =>
    obtain ⟨ih1, ih2, ih3⟩ := ih
    have sub : ∀ (m op i p z : Nat) (r : Nat × List Int32) (A : zM) (d : Nat), m ≤ 5 → op ≤ 6 → sP n t f m op i p z = some r → sSt n t A p z → ∃ A', zgo false (d + (2 * f + 11)) 85 0 [zr 8 0, zi (nI m), zi (nI op), zu, zu, zu] [] A = some (some (zi 1), A') ∧ sOK n t A z A' r.1 r.2 := by
      intro m op i p z r A d hm ho h hs
      by_cases h5 : m < 5
      · obtain ⟨A', e, ok⟩ := ih1 m op i p z r A (d + 1) h5 ho h hs
        exact ⟨A', by rw [show d + (2 * f + 11) = d + 1 + (2 * f + 10) by omega]; exact e, ok⟩
      · have e5 : m = 5 := by omega
        subst e5
        obtain ⟨A', e, ok⟩ := ih2 op i p z r A d ho h hs
        refine ⟨A', ?_, ok⟩
        show zgo false (d + (2 * f + 10) + 1) 85 0 [zr 8 0, zi (nI 5), zi (nI op), zu, zu, zu] [] A = _
        rw [B85_0, if_neg (show ¬ nI 5 < 5 by decide), e, zbsome, zpu1, B85_10]
        rfl
    refine ⟨fun m op i p z r A d hm ho h hs => ?_, fun op i p z r A d ho h hs => ?_, fun lev op i p z r A d u5 hl ho hi h hs => ?_⟩
    · unfold sP at h
      rw [if_pos hm] at h
      cases hq : sP n t f (m + 1) op 0 p z with
      | none => rw [hq] at h; cases h
      | some q =>
        rw [hq] at h
        have h : ((sP n t f (10 + m) op 0 q.1 (z + q.2.length)).bind fun r => some (r.1, q.2 ++ r.2)) = some r := h
        cases hw : sP n t f (10 + m) op 0 q.1 (z + q.2.length) with
        | none => rw [hw] at h; cases h
        | some w =>
          rw [hw] at h
          have h : some (w.1, q.2 ++ w.2) = some r := h
          cases h
          obtain ⟨A1, e1, ok1⟩ := sub (m + 1) op 0 p z q A d (by omega) ho hq hs
          obtain ⟨A2, e2, ok2⟩ := ih3 m op 0 q.1 (z + q.2.length) w A1 (d + 2) zu hm ho (by omega) hw ok1.2.1
          refine ⟨A2, ?_, sOK_seq ok1 ok2⟩
          have c5 : nI m < 5 := nI_lt (b := 5) hm (by omega)
          have e1 : zgo false (d + (2 * f + 11)) 85 0 [zr 8 0, zi (nI m + 1), zi (nI op), zu, zu, zu] [] A = some (some (zi 1), A1) := by rw [nI_1]; exact e1
          have e2 : zgo false (d + (2 * f + 11) + 1) 85 39 [zr 8 0, zi (nI m), zi (nI op), zi (if m = 2 then 1 else 120), zi 0, zu] [] A1 = some (some (zi 1), A2) := by
            rw [show d + (2 * f + 11) + 1 = d + 2 + (2 * f + 10) by omega]
            exact e2
          show zgo false (d + (2 * f + 11) + 1) 85 0 [zr 8 0, zi (nI m), zi (nI op), zu, zu, zu] [] A = _
          rw [B85_0, if_pos c5, e1, zbsome, zpu1, B85_19, if_neg (by decide)]
          have l2 : nI m = 2 ↔ m = 2 := nI_eq (b := 2) (by omega) (by omega)
          by_cases h2 : m = 2
          · rw [if_pos h2] at e2
            rw [if_pos (l2.mpr h2), B85_35]
            exact e2
          · rw [if_neg h2] at e2
            rw [if_neg (mt l2.mp h2), B85_35]
            exact e2
    · unfold sP at h
      rw [if_neg (show ¬ 5 < 5 by omega), if_pos rfl] at h
      have hs0 := hs
      obtain ⟨s1, s2, s3, s4⟩ := hs
      have hc : yC n t p ≤ 256 := yC_le s4.2.1 p
      have hS : zgo false (d + (2 * f + 11)) 89 0 [zr 8 0] [] A = some (some (zi (yS (yC n t p))), A) := S89y (d + (2 * f + 10)) s4 s2 s1
      have c0 : zgo false (d + (2 * f + 11) + 1) 86 0 [zr 8 0, zi (nI op), zu] [] A = (zgo false (d + (2 * f + 11)) 90 0 [zi (yS (yC n t p))] [] A).bind fun q => zgo false (d + (2 * f + 11) + 1) 86 9 [zr 8 0, zi (nI op), zi (yS (yC n t p))] (zpush q.1 []) q.2 := by
        rw [B86_0, hS, zbsome, zpu1, B86_4]
      show ∃ A', zgo false (d + (2 * f + 11) + 1) 86 0 [zr 8 0, zi (nI op), zu] [] A = some (some (zi 1), A') ∧ _
      by_cases hd : 48 ≤ yC n t p ∧ yC n t p ≤ 57
      · rw [if_pos hd] at h
        by_cases hz : z < 128
        · rw [if_pos hz] at h
          cases h
          obtain ⟨A1, k, e1, ok1⟩ := sDig (n := n) (t := t) (d + (2 * f + 9)) z 4 0 0 p A rfl (by decide) hs0
          have ok2 := sOK_emit (nI (sNum n t 4 0 p).2) ok1.2.1
          refine ⟨_, ?_, sOK_seq (l1 := []) ok1 ok2⟩
          have e1 : zgo false (d + (2 * f + 11)) 88 4 [zr 8 0, zi 0, zi 0] [] A = zgo false (d + (2 * f + 11)) 88 48 [zr 8 0, zi (nI (sNum n t 4 0 p).2), zi (nI k)] [] A1 := e1
          have e92 : zgo false (d + (2 * f + 10)) 92 0 [zr 8 0, zi (nI (sNum n t 4 0 p).2)] [] A1 = some (none, yEmA A1 z (nI (sNum n t 4 0 p).2)) := S92y (d + (2 * f + 9)) _ ok1.2.1.2.2.1 hz
          have e48 : zgo false (d + (2 * f + 11)) 88 48 [zr 8 0, zi (nI (sNum n t 4 0 p).2), zi (nI k)] [] A1 = some (some (zi 1), yEmA A1 z (nI (sNum n t 4 0 p).2)) := by
            show zgo false (d + (2 * f + 10) + 1) 88 48 _ [] A1 = _
            rw [B88_48, e92, zbsome, zpu0, B88_53]
          rw [c0, (yPd _ _ _ hc).1 hd, zbsome, zpu1, B86_9, if_neg (by decide), B88_0, e1, e48, zbsome, zpu1, B86_16]
          rfl
        · rw [if_neg hz] at h
          cases h
      · rw [if_neg hd] at h
        rw [c0, (yPd _ _ _ hc).2 hd, zbsome, zpu1]
        by_cases hx : yNx (yC n t p) = -1
        · rw [if_pos hx] at h
          by_cases h6 : op < 6
          · rw [if_pos h6] at h
            have no6 : ¬ (6 : Int32) ≤ nI op := nI_ge (b := 6) (by omega) (by omega)
            have ca : zgo false (d + (2 * f + 11) + 1) 86 9 [zr 8 0, zi (nI op), zi (yS (yC n t p))] [zi 0] A = zgo false (d + (2 * f + 11) + 1) 86 56 [zr 8 0, zi (nI op), zi (yS (yC n t p))] [] A := by
              rw [B86_9, if_pos rfl]
              by_cases h0 : yS (yC n t p) < 0
              · rw [if_pos h0]
              · have hlt : yC n t p < 256 := by
                  rcases Nat.lt_or_ge (yC n t p) 256 with q | q
                  · exact q
                  · exfalso
                    apply h0
                    unfold yS
                    rw [if_neg (by omega)]
                    decide
                have e316 : zgo false (d + (2 * f + 11)) 316 0 [zr 14 0, zi (nI (yC n t p))] [] A = some (some (zi (yNx (yC n t p))), A) := by
                  have := S316 (d + (2 * f + 6)) (yC n t p) A hlt
                  exact this
                rw [if_neg h0, yCh _ hlt, e316, zbsome, zpu1, hx, B86_28, if_pos (by decide)]
            rw [ca]
            by_cases h40 : yC n t p = 40
            · rw [if_pos h40] at h
              cases hq : sP n t f 0 (op + 1) 0 (p + 1) z with
              | none => rw [hq] at h; cases h
              | some q =>
                rw [hq] at h
                have h : (if yC n t q.1 = 41 then some (q.1 + 1, q.2) else none) = some r := h
                by_cases h41 : yC n t q.1 = 41
                · rw [if_pos h41] at h
                  cases h
                  have st := sOK_step hs0 (yC_lt (t := t) (by omega))
                  obtain ⟨A1, e1, ok1⟩ := ih1 0 (op + 1) 0 (p + 1) z q (zsI A 8 0 3 (nI (p + 1))) d (by omega) (by omega) hq st.2.1
                  have st2 := sOK_step ok1.2.1 (yC_lt (t := t) (by omega))
                  have hc2 : yC n t q.1 ≤ 256 := yC_le s4.2.1 q.1
                  have e87 : zgo false (d + (2 * f + 11)) 87 0 [zr 8 0, zi (nI (op + 1))] [] (zsI A 8 0 3 (nI (p + 1))) = some (some (zi 1), zsI A1 8 0 3 (nI (q.1 + 1))) := by
                    have e1 : zgo false (d + (2 * f + 10)) 85 0 [zr 8 0, zi 0, zi (nI (op + 1)), zu, zu, zu] [] (zsI A 8 0 3 (nI (p + 1))) = some (some (zi 1), A1) := e1
                    have hS1 : zgo false (d + (2 * f + 10)) 89 0 [zr 8 0] [] A1 = some (some (zi (yS (yC n t q.1))), A1) := S89y (d + (2 * f + 9)) ok1.2.1.2.2.2 ok1.2.1.2.1 ok1.2.1.1
                    show zgo false (d + (2 * f + 10) + 1) 87 0 _ [] _ = _
                    rw [B87_0, e1, zbsome, zpu1, B87_6, if_neg (by decide), hS1, zbsome, zpu1, B87_13, if_pos (by rw [yS41 hc2]; exact h41), ok1.2.1.2.1, nI_1]
                  refine ⟨zsI A1 8 0 3 (nI (q.1 + 1)), ?_, ?_⟩
                  · simp +decide only [B86_56, B86_82, B86_105, no6, yS40 hc, h40, s2, nI_1, e87, zbsome, zpu1, zpu0, cond_true, cond_false, zib0, zib1, zib_ite, zq00, zq20, zq22, zq90, zq99, zq40, zq44, zq100, zq1010, Bool.and_true, if_true, if_false, z1ne0, not_true_eq_false, not_false_eq_true, zite10, eq_self, and_true, true_and, and_false, false_and, ↓reduceIte, Int32.reduceLT, Int32.reduceLE, Int32.reduceAdd, Int32.reduceSub, Int32.reduceMul]
                  · have := sOK_seq (sOK_seq (l1 := []) st ok1) st2
                    rw [List.append_nil] at this
                    exact this
                · rw [if_neg h41] at h
                  cases h
            · rw [if_neg h40] at h
              by_cases h45 : yC n t p = 45
              · rw [if_pos h45] at h
                cases hq : sP n t f 5 (op + 1) 0 (p + 1) z with
                | none => rw [hq] at h; cases h
                | some q =>
                  rw [hq] at h
                  have h : (if z + q.2.length < 128 then some (q.1, q.2 ++ [-1001]) else none) = some r := h
                  by_cases hz : z + q.2.length < 128
                  · rw [if_pos hz] at h
                    cases h
                    have st := sOK_step hs0 (yC_lt (t := t) (by omega))
                    obtain ⟨A1, e1, ok1⟩ := ih2 (op + 1) 0 (p + 1) z q (zsI A 8 0 3 (nI (p + 1))) (d + 1) (by omega) hq st.2.1
                    have ok2 := sOK_emit (-1001) ok1.2.1
                    have e1 : zgo false (d + (2 * f + 11)) 86 0 [zr 8 0, zi (nI (op + 1)), zu] [] (zsI A 8 0 3 (nI (p + 1))) = some (some (zi 1), A1) := by
                      rw [show d + (2 * f + 11) = d + 1 + (2 * f + 10) by omega]
                      exact e1
                    have e92 : zgo false (d + (2 * f + 11)) 92 0 [zr 8 0, zi (-1001)] [] A1 = some (none, yEmA A1 (z + q.2.length) (-1001)) := S92y (d + (2 * f + 10)) _ ok1.2.1.2.2.1 hz
                    refine ⟨yEmA A1 (z + q.2.length) (-1001), ?_, ?_⟩
                    · simp +decide only [B86_56, B86_82, B86_113, B86_134, B86_137, no6, yS40 hc, yS33 hc, yS45 hc, h45, s2, nI_1, e1, e92, zbsome, zpu1, zpu0, cond_true, cond_false, zib0, zib1, zib_ite, zq00, zq20, zq22, zq90, zq99, zq40, zq44, zq100, zq1010, Bool.and_true, if_true, if_false, z1ne0, not_true_eq_false, not_false_eq_true, zite10, eq_self, and_true, true_and, and_false, false_and, ↓reduceIte, Int32.reduceLT, Int32.reduceLE, Int32.reduceAdd, Int32.reduceSub, Int32.reduceMul]
                    · exact sOK_seq (sOK_seq (l1 := []) st ok1) ok2
                  · rw [if_neg hz] at h
                    cases h
              · rw [if_neg h45] at h
                cases h
          · rw [if_neg h6] at h
            cases h
        · rw [if_neg hx] at h
          by_cases hz : z < 128
          · rw [if_pos hz] at h
            cases h
            rcases yNx_or (yC n t p) with e | ⟨x1, x2, k, hk, hxk⟩
            · exact absurd e hx
            · have hlt : yC n t p < 256 := by omega
              have h0 : ¬ yS (yC n t p) < 0 := by rw [yS_lo hlt]; exact nI_pos (by omega)
              have k0 : ¬ nI k < 0 := nI_pos (by omega)
              have e316 : zgo false (d + (2 * f + 11)) 316 0 [zr 14 0, zi (nI (yC n t p))] [] A = some (some (zi (yNx (yC n t p))), A) := by
                have := S316 (d + (2 * f + 6)) (yC n t p) A hlt
                exact this
              have e92 : zgo false (d + (2 * f + 11)) 92 0 [zr 8 0, zi (-1 - yNx (yC n t p))] [] A = some (none, yEmA A z (-1 - yNx (yC n t p))) := S92y (d + (2 * f + 10)) _ s3 hz
              have ok1 := sOK_emit (-1 - yNx (yC n t p)) hs0
              have st := sOK_step ok1.2.1 (yC_lt (t := t) hlt)
              refine ⟨zsI (yEmA A z (-1 - yNx (yC n t p))) 8 0 3 (nI (p + 1)), ?_, ?_⟩
              · rw [B86_9, if_pos rfl, if_neg h0, yCh _ hlt, e316, zbsome, zpu1, B86_28, if_neg (by rw [hxk]; exact k0), yCh _ hlt, e316, zbsome, zpu1, B86_40, e92, zbsome, zpu0, B86_44, ok1.2.1.2.1, nI_1]
              · have := sOK_seq ok1 st
                rw [List.append_nil] at this
                exact this
          · rw [if_neg hz] at h
            cases h
    · unfold sP at h
      rw [if_neg (show ¬ 10 + lev < 5 by omega), if_neg (show ¬ 10 + lev = 5 by omega)] at h
      have hs0 := hs
      obtain ⟨s1, s2, s3, s4⟩ := hs
      have hc : yC n t p ≤ 256 := yC_le s4.2.1 p
      show ∃ A', zgo false (d + (2 * f + 11) + 1) 85 39 [zr 8 0, zi (nI lev), zi (nI op), zi (if lev = 2 then 1 else 120), zi (nI i), u5] [] A = some (some (zi 1), A') ∧ _
      by_cases he : 120 ≤ i ∨ (10 + lev = 12 ∧ 1 ≤ i)
      · rw [if_pos he] at h
        cases h
        refine ⟨A, ?_, sOK_nil hs0⟩
        have le : (if lev = 2 then (1 : Int32) else 120) ≤ nI i := by
          by_cases h2 : lev = 2
          · rw [if_pos h2]
            exact nI_le (a := 1) (by omega) (by omega)
          · rw [if_neg h2]
            exact nI_le (a := 120) (by omega) (by omega)
        rw [B85_39, if_pos le]
      · rw [if_neg he] at h
        have nm : ¬ (if lev = 2 then (1 : Int32) else 120) ≤ nI i := by
          by_cases h2 : lev = 2
          · rw [if_pos h2]
            exact nI_ge (b := 1) (by omega) (by omega)
          · rw [if_neg h2]
            exact nI_ge (b := 120) (by omega) (by omega)
        rw [show 10 + lev - 10 = lev by omega, show 10 + lev - 9 = lev + 1 by omega] at h
        have hS : zgo false (d + (2 * f + 11)) 89 0 [zr 8 0] [] A = some (some (zi (yS (yC n t p))), A) := S89y (d + (2 * f + 10)) s4 s2 s1
        have kk : zgo false (d + (2 * f + 11) + 1) 85 39 [zr 8 0, zi (nI lev), zi (nI op), zi (if lev = 2 then 1 else 120), zi (nI i), u5] [] A = zgo false (d + (2 * f + 11) + 1) 85 57 [zr 8 0, zi (nI lev), zi (nI op), zi (if lev = 2 then 1 else 120), zi (nI i), zi (yS (yC n t p))] [zi (bI (sJoin lev (yC n t p)))] A := by
          rw [B85_39, if_neg nm, hS, zbsome, zpu1, B85_49, sJn _ _ _ _ hl hc, zbsome, zpu1]
        cases hj : sJoin lev (yC n t p) with
        | false =>
          rw [hj, if_neg (by decide)] at h
          cases h
          refine ⟨A, ?_, sOK_nil hs0⟩
          rw [kk, hj, B85_57, if_pos (show bI false = 0 from rfl)]
        | true =>
          rw [hj, if_pos rfl] at h
          cases hq : sP n t f (lev + 1) op 0 (p + 1) z with
          | none => rw [hq] at h; cases h
          | some q =>
            rw [hq] at h
            have h : (if z + q.2.length < 128 then (sP n t f (10 + lev) op (i + 1) q.1 (z + q.2.length + 1)).bind fun r => some (r.1, q.2 ++ ((-1000 - nI (yC n t p)) :: r.2)) else none) = some r := h
            by_cases hz : z + q.2.length < 128
            · rw [if_pos hz] at h
              cases hw : sP n t f (10 + lev) op (i + 1) q.1 (z + q.2.length + 1) with
              | none => rw [hw] at h; cases h
              | some w =>
                rw [hw] at h
                have h : some (w.1, q.2 ++ ((-1000 - nI (yC n t p)) :: w.2)) = some r := h
                cases h
                have hlt := sJoin_lt hj
                have st := sOK_step hs0 (yC_lt (t := t) hlt)
                obtain ⟨A1, e1, ok1⟩ := sub (lev + 1) op 0 (p + 1) z q (zsI A 8 0 3 (nI (p + 1))) d (by omega) ho hq st.2.1
                have ok2 := sOK_emit (-1000 - nI (yC n t p)) ok1.2.1
                obtain ⟨A3, e3, ok3⟩ := ih3 lev op (i + 1) q.1 (z + q.2.length + 1) w (yEmA A1 (z + q.2.length) (-1000 - nI (yC n t p))) (d + 2) (zi (yS (yC n t p))) hl ho (by omega) hw ok2.2.1
                refine ⟨A3, ?_, sOK_seq (l1 := []) st (sOK_seq ok1 (sOK_seq ok2 ok3))⟩
                have e92 : zgo false (d + (2 * f + 11)) 92 0 [zr 8 0, zi (-1000 - nI (yC n t p))] [] A1 = some (none, yEmA A1 (z + q.2.length) (-1000 - nI (yC n t p))) := S92y (d + (2 * f + 10)) _ ok1.2.1.2.2.1 hz
                have e3 : zgo false (d + (2 * f + 11) + 1) 85 39 [zr 8 0, zi (nI lev), zi (nI op), zi (if lev = 2 then 1 else 120), zi (nI (i + 1)), zi (yS (yC n t p))] [] (yEmA A1 (z + q.2.length) (-1000 - nI (yC n t p))) = some (some (zi 1), A3) := by
                  rw [show d + (2 * f + 11) + 1 = d + 2 + (2 * f + 10) by omega]
                  exact e3
                rw [kk, hj, B85_57, if_neg (show ¬ bI true = 0 by decide), s2, nI_1, nI_1, e1, zbsome, zpu1, B85_80, if_neg (by decide), yS_lo hlt, e92, zbsome, zpu0, B85_95, nI_1]
                rw [yS_lo hlt] at e3
                exact e3
            · rw [if_neg hz] at h
              cases h
