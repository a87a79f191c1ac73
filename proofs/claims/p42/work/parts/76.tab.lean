/-! ===== odds: the class's hands and rows ===== -/
def oHd (s : Nat) (a : Bool) : Nat := if a = true ∧ s ≤ 11 then 1010 + s else s
theorem S173y (b : Bool) (d s : Nat) (a : Bool) (M : zM) (hs : s ≤ 40) : zgo b d 173 0 [zi (nI (oHd s a))] [] M = some (some (zi (nI (oTt s a))), M) := by
  unfold oHd oTt
  by_cases c : a = true ∧ s ≤ 11
  · have c1 : ¬ nI (1010 + s) < 1000 := nI_nlt (b := 1000) (by omega) (by omega)
    have e : nI (1010 + s) - 1000 = nI (s + 10) := by
      rw [show (1000 : Int32) = nI 1000 from rfl, pk_sub (by omega), show 1010 + s - 1000 = s + 10 by omega]
    rw [if_pos c, if_pos c]
    simp +decide only [B173_0, B173_16, c1, e, zbsome, zpu1, zpu0, cond_true, cond_false, zib0, zib1, zib_ite, zq00, zq20, zq22, zq90, zq99, zq40, zq44, zq100, zq1010, Bool.and_true, if_true, if_false, z1ne0, not_true_eq_false, not_false_eq_true, zite10, eq_self, and_true, true_and, and_false, false_and, ↓reduceIte, Int32.reduceLT, Int32.reduceLE, Int32.reduceAdd, Int32.reduceSub, Int32.reduceMul]
  · have c1 : nI s < 1000 := nI_lt (b := 1000) (by omega) (by omega)
    rw [if_neg c, if_neg c]
    simp +decide only [B173_0, B173_16, c1, zbsome, zpu1, zpu0, cond_true, cond_false, zib0, zib1, zib_ite, zq00, zq20, zq22, zq90, zq99, zq40, zq44, zq100, zq1010, Bool.and_true, if_true, if_false, z1ne0, not_true_eq_false, not_false_eq_true, zite10, eq_self, and_true, true_and, and_false, false_and, ↓reduceIte, Int32.reduceLT, Int32.reduceLE, Int32.reduceAdd, Int32.reduceSub, Int32.reduceMul]
theorem S74y (b : Bool) (d s : Nat) (a : Bool) (M : zM) (hs : s ≤ 40) : zgo b d 74 0 [zi (nI (oHd s a))] [] M = some (some (zi (nI (oPl s a))), M) := by
  unfold oHd oPl
  by_cases c : a = true ∧ s ≤ 11
  · have c1 : ¬ nI (1010 + s) < 1000 := nI_nlt (b := 1000) (by omega) (by omega)
    have e : nI (1010 + s) - 1000 + 32 = nI (42 + s) := by
      rw [show (1000 : Int32) = nI 1000 from rfl, show (32 : Int32) = nI 32 from rfl, pk_sub (by omega), nI_add, show 1010 + s - 1000 + 32 = 42 + s by omega]
    rw [if_pos c, if_pos c]
    simp +decide only [B74_0, B74_28, c1, e, zbsome, zpu1, zpu0, cond_true, cond_false, zib0, zib1, zib_ite, zq00, zq20, zq22, zq90, zq99, zq40, zq44, zq100, zq1010, Bool.and_true, if_true, if_false, z1ne0, not_true_eq_false, not_false_eq_true, zite10, eq_self, and_true, true_and, and_false, false_and, ↓reduceIte, Int32.reduceLT, Int32.reduceLE, Int32.reduceAdd, Int32.reduceSub, Int32.reduceMul]
  · have c1 : nI s < 1000 := nI_lt (b := 1000) (by omega) (by omega)
    rw [if_neg c, if_neg c]
    by_cases c2 : s ≤ 22
    · have c3 : nI s ≤ 22 := nI_le (b := 22) c2 (by omega)
      rw [if_pos c2]
      simp +decide only [B74_0, B74_28, c1, c3, zbsome, zpu1, zpu0, cond_true, cond_false, zib0, zib1, zib_ite, zq00, zq20, zq22, zq90, zq99, zq40, zq44, zq100, zq1010, Bool.and_true, if_true, if_false, z1ne0, not_true_eq_false, not_false_eq_true, zite10, eq_self, and_true, true_and, and_false, false_and, ↓reduceIte, Int32.reduceLT, Int32.reduceLE, Int32.reduceAdd, Int32.reduceSub, Int32.reduceMul]
    · have c3 : ¬ nI s ≤ 22 := nI_ge (a := 22) (by omega) (by omega)
      rw [if_neg c2]
      simp +decide only [B74_0, B74_28, c1, c3, zbsome, zpu1, zpu0, cond_true, cond_false, zib0, zib1, zib_ite, zq00, zq20, zq22, zq90, zq99, zq40, zq44, zq100, zq1010, Bool.and_true, if_true, if_false, z1ne0, not_true_eq_false, not_false_eq_true, zite10, eq_self, and_true, true_and, and_false, false_and, ↓reduceIte, Int32.reduceLT, Int32.reduceLE, Int32.reduceAdd, Int32.reduceSub, Int32.reduceMul]
      rfl
theorem S172y (b : Bool) (d s v : Nat) (a : Bool) (u2 u3 : zV) (M : zM) (hs : s ≤ 30) (hv : 1 ≤ v ∧ v ≤ 10) : zgo b d 172 0 [zi (nI (oHd s a)), zi (nI v), u2, u3] [] M = some (some (zi (nI (oHd (s + v) (oA a v)))), M) := by
  have ev : nI v = 1 ↔ v = 1 := nI_eq (b := 1) (by omega) (by omega)
  have c11 : 11 < nI (s + v) ↔ 11 < s + v := nI_ltI (a := 11) (by omega) (by omega)
  have e1010 : 1010 + nI (s + v) = nI (1010 + (s + v)) := by rw [show (1010 : Int32) = nI 1010 from rfl, nI_add]
  by_cases c : a = true ∧ s ≤ 11
  · have c1 : ¬ nI (1010 + s) < 1000 := nI_nlt (b := 1000) (by omega) (by omega)
    have e : nI (1010 + s) - 1000 - 10 = nI s := by
      rw [show (1000 : Int32) = nI 1000 from rfl, show (10 : Int32) = nI 10 from rfl, pk_sub (by omega), pk_sub (by omega), show 1010 + s - 1000 - 10 = s by omega]
    have h0 : oHd s a = 1010 + s := if_pos c
    have ha : oA a v = true := by rw [c.1]; rfl
    rw [h0, ha]
    by_cases h : s + v ≤ 11
    · have h1 : oHd (s + v) true = 1010 + (s + v) := if_pos ⟨rfl, h⟩
      rw [h1]
      simp +decide only [B172_0, B172_12, B172_29, B172_41, B172_55, B172_56, c1, e, nI_add, c11, e1010, show ¬ 11 < s + v by omega, zbsome, zpu1, zpu0, cond_true, cond_false, zib0, zib1, zib_ite, zq00, zq20, zq22, zq90, zq99, zq40, zq44, zq100, zq1010, Bool.and_true, if_true, if_false, z1ne0, not_true_eq_false, not_false_eq_true, zite10, eq_self, and_true, true_and, and_false, false_and, ↓reduceIte, Int32.reduceLT, Int32.reduceLE, Int32.reduceAdd, Int32.reduceSub, Int32.reduceMul]
    · have h1 : oHd (s + v) true = s + v := if_neg (by omega)
      rw [h1]
      simp +decide only [B172_0, B172_12, B172_29, B172_41, B172_55, B172_56, c1, e, nI_add, c11, show 11 < s + v by omega, zbsome, zpu1, zpu0, cond_true, cond_false, zib0, zib1, zib_ite, zq00, zq20, zq22, zq90, zq99, zq40, zq44, zq100, zq1010, Bool.and_true, if_true, if_false, z1ne0, not_true_eq_false, not_false_eq_true, zite10, eq_self, and_true, true_and, and_false, false_and, ↓reduceIte, Int32.reduceLT, Int32.reduceLE, Int32.reduceAdd, Int32.reduceSub, Int32.reduceMul]
  · have c1 : nI s < 1000 := nI_lt (b := 1000) (by omega) (by omega)
    have h0 : oHd s a = s := if_neg c
    rw [h0]
    by_cases h1 : v = 1
    · have ha : oA a v = true := by
        unfold oA
        rw [h1]
        cases a <;> rfl
      rw [ha]
      subst h1
      have w : nI s + 1 = nI (s + 1) := nI_1 s
      show zgo b d 172 0 [zi (nI s), zi 1, u2, u3] [] M = _
      by_cases h : s + 1 ≤ 11
      · have h2 : oHd (s + 1) true = 1010 + (s + 1) := if_pos ⟨rfl, h⟩
        have q : ¬ 11 < nI (s + 1) := by rw [c11]; omega
        rw [h2]
        simp +decide only [B172_0, B172_12, B172_29, B172_41, B172_55, B172_56, c1, w, q, e1010, zbsome, zpu1, zpu0, cond_true, cond_false, zib0, zib1, zib_ite, zq00, zq20, zq22, zq90, zq99, zq40, zq44, zq100, zq1010, Bool.and_true, if_true, if_false, z1ne0, not_true_eq_false, not_false_eq_true, zite10, eq_self, and_true, true_and, and_false, false_and, ↓reduceIte, Int32.reduceLT, Int32.reduceLE, Int32.reduceAdd, Int32.reduceSub, Int32.reduceMul]
      · have h2 : oHd (s + 1) true = s + 1 := if_neg (by omega)
        have q : 11 < nI (s + 1) := by rw [c11]; omega
        rw [h2]
        simp +decide only [B172_0, B172_12, B172_29, B172_41, B172_55, B172_56, c1, w, q, zbsome, zpu1, zpu0, cond_true, cond_false, zib0, zib1, zib_ite, zq00, zq20, zq22, zq90, zq99, zq40, zq44, zq100, zq1010, Bool.and_true, if_true, if_false, z1ne0, not_true_eq_false, not_false_eq_true, zite10, eq_self, and_true, true_and, and_false, false_and, ↓reduceIte, Int32.reduceLT, Int32.reduceLE, Int32.reduceAdd, Int32.reduceSub, Int32.reduceMul]
    · have ha : oA a v = a := by
        unfold oA
        have : Nat.beq v 1 = false := by
          cases hb : Nat.beq v 1 with
          | false => rfl
          | true => exact absurd (Nat.eq_of_beq_eq_true hb) h1
        rw [this]
        cases a <;> rfl
      have h2 : oHd (s + v) (oA a v) = s + v := by
        unfold oHd
        rw [ha]
        exact if_neg (fun z => c ⟨z.1, by have := z.2; omega⟩)
      rw [h2]
      simp +decide only [B172_0, B172_12, B172_29, B172_41, B172_55, B172_56, c1, ev, h1, nI_add, zbsome, zpu1, zpu0, cond_true, cond_false, zib0, zib1, zib_ite, zq00, zq20, zq22, zq90, zq99, zq40, zq44, zq100, zq1010, Bool.and_true, if_true, if_false, z1ne0, not_true_eq_false, not_false_eq_true, zite10, eq_self, and_true, true_and, and_false, false_and, ↓reduceIte, Int32.reduceLT, Int32.reduceLE, Int32.reduceAdd, Int32.reduceSub, Int32.reduceMul]
/-- what is left, and the rules, as the odds have them -/
def oH (A : zM) (o : Nat → Nat) : Prop := (∀ v, 1 ≤ v → v ≤ 10 → zgI A 33 0 v = nI (o v)) ∧ zgI A 7 0 10 = nI (ysm o) ∧ 0 < ysm o ∧ ysm o ≤ 416
def oR (A : zM) (q : Nat → Nat) : Prop := (∀ w, w < 4 → zgI A 34 0 w = nI (q w)) ∧ (q 0 ≤ 1 ∧ 100 ≤ q 1 ∧ q 1 ≤ 200 ∧ q 2 ≤ 1 ∧ 15 ≤ q 3 ∧ q 3 ≤ 19)
/-- the table of what a hand becomes -/
def Raf (A : zM) : Prop := ∀ i v, i ≤ 21 ∨ (42 ≤ i ∧ i ≤ 53) → 1 ≤ v → v ≤ 10 → zgI A 35 0 (i * 11 + v) = nI (oAf i v)
theorem S59y (d s : Nat) (a : Bool) (q : Nat → Nat) (u2 u3 : zV) (M : zM) (hs : s ≤ 31) (hR : oR M q) : zgo false (d + 1) 59 0 [zi (nI (oHd s a)), zr 34 0, u2, u3] [] M = some (some (zi (if oDw q s a = true then 1 else 0)), M) := by
  obtain ⟨r, r0, -, -, -, -, r3⟩ := hR
  have e3 : ∀ d, zgo false d 169 0 [zr 34 0, zi 3] [] M = some (some (zi (nI (q 3))), M) := fun d => (at34n false d 0 3 M (by omega)).trans (by rw [r 3 (by omega)])
  have e0 : ∀ d, zgo false d 169 0 [zr 34 0, zi 0] [] M = some (some (zi (nI (q 0))), M) := fun d => (at34n false d 0 0 M (by omega)).trans (by rw [r 0 (by omega)])
  have t : oTt s a ≤ 41 := by
    unfold oTt
    by_cases c : a = true ∧ s ≤ 11
    · rw [if_pos c]; omega
    · rw [if_neg c]; omega
  have l1 : nI (oTt s a) < nI (q 3) ↔ oTt s a < q 3 := nI_ltI (by omega) (by omega)
  have l2 : nI (oTt s a) = nI (q 3) ↔ oTt s a = q 3 := nI_eq (by omega) (by omega)
  have l3 : nI (q 0) = 1 ↔ q 0 = 1 := nI_eq (b := 1) (by omega) (by omega)
  have l4 : nI (oHd s a) < 1000 ↔ ¬ (a = true ∧ s ≤ 11) := by
    unfold oHd
    by_cases c : a = true ∧ s ≤ 11
    · rw [if_pos c]
      exact ⟨fun q => absurd q (nI_nlt (b := 1000) (by omega) (by omega)), fun q => absurd c q⟩
    · rw [if_neg c]
      exact ⟨fun _ => c, fun _ => nI_lt (b := 1000) (by omega) (by omega)⟩
  have k0 : zgo false (d + 1) 59 0 [zi (nI (oHd s a)), zr 34 0, u2, u3] [] M = zgo false (d + 1) 59 10 [zi (nI (oHd s a)), zr 34 0, zi (nI (oTt s a)), u3] [zi (nI (q 3))] M := by
    rw [B59_0, S173y _ _ _ _ _ (by omega), zbsome, zpu1, B59_4, e3, zbsome, zpu1]
  have one : ∀ x2 x3, zgo false (d + 1) 59 37 [zi (nI (oHd s a)), zr 34 0, zi x2, zi x3] [] M = some (some (zi 1), M) := fun x2 x3 => by
    rw [B59_37, B59_42]
    rfl
  have non : ∀ x2 x3, zgo false (d + 1) 59 41 [zi (nI (oHd s a)), zr 34 0, zi x2, zi x3] [] M = some (some (zi 0), M) := fun x2 x3 => by
    rw [B59_41, B59_42]
    rfl
  rw [k0, B59_10]
  by_cases h1 : oTt s a < q 3
  · rw [if_pos (oDw_iff.mpr (Or.inl h1)), if_pos (l1.mpr h1), one]
  rw [if_neg (mt l1.mp h1)]
  by_cases h2 : oTt s a = q 3
  · rw [if_pos (l2.mpr h2)]
    by_cases h3 : a = true ∧ s ≤ 11
    · rw [if_neg (fun z => (l4.mp z) h3), e0, zbsome, zpu1, B59_33]
      by_cases h4 : q 0 = 1
      · rw [if_pos (oDw_iff.mpr (Or.inr ⟨h2, h3, h4⟩)), if_pos (l3.mpr h4), one]
      · rw [if_neg (fun z => (oDw_iff.mp z).elim h1 (fun z => h4 z.2.2)), if_neg (mt l3.mp h4), non]
    · rw [if_neg (fun z => (oDw_iff.mp z).elim h1 (fun z => h3 z.2.1)), if_pos (l4.mpr h3), non]
  · rw [if_neg (fun z => (oDw_iff.mp z).elim h1 (fun z => h2 z.1)), if_neg (mt l2.mp h2), non]
theorem S72y (d : Nat) (x : Int) {A : zM} {o : Nat → Nat} (h : oH A o) (hx : yB x) : zgo false d 72 0 [zr 7 0, zi (yI x)] [] A = some (some (zi (yI (x.tdiv (ysm o)))), A) := by
  obtain ⟨-, h1, h2, h3⟩ := h
  have b : yB (ysm o : Nat) := ⟨by omega, by omega⟩
  have n := yI_ne0 b (by omega)
  rw [B72_0, h1, yI_nat, if_neg n.1, if_neg n.2, B72_17, yI_div hx b (by omega)]
/-- a sum over values of what stands in a row at what the hand becomes -/
theorem L76 (d K i : Nat) (base : Int32) (F : Nat → Int) {A : zM} {o : Nat → Nat} (hA : Raf A) (h : oH A o) (hi : i ≤ 21 ∨ (42 ≤ i ∧ i ≤ 53)) (hF : ∀ v, 1 ≤ v → v ≤ 10 → -1000000 ≤ F v ∧ F v ≤ 1000000) (hr : ∀ v, 1 ≤ v → v ≤ 10 → ∀ d, zgo false d 169 0 [zr K 0, zi (base + nI (oAf i v))] [] A = some (some (zi (yI (F v))), A)) : ∀ (j n : Nat), n + j = 10 → zgo false (d + 1) 76 6 [zr 7 0, zr K 0, zi base, zi (nI i), zi (yI (oSm o F n)), zi (nI (n + 1))] [] A = some (some (zi (yI (oAv o F))), A)
  | 0, n, hn => by
    have hn : n = 10 := hn
    subst hn
    have b := oSm_b (o := o) (n := 10) (by decide) h.2.2.2 (Nat.le_refl _) hF
    rw [B76_6, if_pos (by decide), S72y d _ h ⟨by omega, by omega⟩, zbsome, zpu1, B76_60]
    rfl
  | j + 1, n, hn => by
    have ih := L76 d K i base F hA h hi hF hr j (n + 1) (by omega)
    have c : ¬ (10 : Int32) < nI (n + 1) := nI_nlt (a := 10) (by omega) (by omega)
    have e : nI i * 11 + nI (n + 1) = nI (i * 11 + (n + 1)) := by
      rw [show (11 : Int32) = nI 11 from rfl, pk_mul, nI_add]
    have a1 : ∀ d, zgo false d 169 0 [zr 33 0, zi (nI (n + 1))] [] A = some (some (zi (nI (o (n + 1)))), A) := fun d => (at33n false d 0 (n + 1) A (by omega)).trans (by rw [h.1 (n + 1) (by omega) (by omega)])
    have a2 : ∀ d, zgo false d 169 0 [zr 35 0, zi (nI (i * 11 + (n + 1)))] [] A = some (some (zi (nI (oAf i (n + 1)))), A) := fun d => (at35n false d 0 _ A (by omega)).trans (by rw [hA i (n + 1) hi (by omega) (by omega)])
    rw [B76_6, if_neg c, a1, zbsome]
    show zgo false (d + 1) 76 24 [zr 7 0, zr K 0, zi base, zi (nI i), zi (yI (oSm o F n)), zi (nI (n + 1))] [zi (nI (o (n + 1))), zi (yI (oSm o F n))] A = _
    rw [B76_24, e, a2, zbsome]
    show zgo false (d + 1) 76 40 [zr 7 0, zr K 0, zi base, zi (nI i), zi (yI (oSm o F n)), zi (nI (n + 1))] [zi (nI (oAf i (n + 1))), zi base, zr K 0, zi (nI (o (n + 1))), zi (yI (oSm o F n))] A = _
    rw [B76_40, hr (n + 1) (by omega) (by omega), zbsome]
    show zgo false (d + 1) 76 44 [zr 7 0, zr K 0, zi base, zi (nI i), zi (yI (oSm o F n)), zi (nI (n + 1))] [zi (yI (F (n + 1))), zi (nI (o (n + 1))), zi (yI (oSm o F n))] A = _
    rw [B76_44, nI_1, yI_nat (o (n + 1)), yI_mul, yI_add]
    exact ih
theorem S76y (d K i : Nat) (base : Int32) (u4 u5 : zV) (F : Nat → Int) {A : zM} {o : Nat → Nat} (hA : Raf A) (h : oH A o) (hi : i ≤ 21 ∨ (42 ≤ i ∧ i ≤ 53)) (hF : ∀ v, 1 ≤ v → v ≤ 10 → -1000000 ≤ F v ∧ F v ≤ 1000000) (hr : ∀ v, 1 ≤ v → v ≤ 10 → ∀ d, zgo false d 169 0 [zr K 0, zi (base + nI (oAf i v))] [] A = some (some (zi (yI (F v))), A)) : zgo false (d + 1) 76 0 [zr 7 0, zr K 0, zi base, zi (nI i), u4, u5] [] A = some (some (zi (yI (oAv o F))), A) := by
  rw [B76_0]
  exact L76 d K i base F hA h hi hF hr 10 0 rfl
