/-! ===== odds: numbers and what they are ===== -/
def yI (x : Int) : Int32 := Int32.ofInt x
def yJ (x : Int) : Int64 := Int64.ofInt x
theorem yI_add (a b : Int) : yI a + yI b = yI (a + b) := (Int32.ofInt_add a b).symm
theorem yI_sub (a b : Int) : yI a - yI b = yI (a - b) := (Int32.ofInt_sub a b).symm
theorem yI_mul (a b : Int) : yI a * yI b = yI (a * b) := (Int32.ofInt_mul a b).symm
theorem yJ_add (a b : Int) : yJ a + yJ b = yJ (a + b) := (Int64.ofInt_add a b).symm
theorem yJ_sub (a b : Int) : yJ a - yJ b = yJ (a - b) := (Int64.ofInt_sub a b).symm
theorem yJ_mul (a b : Int) : yJ a * yJ b = yJ (a * b) := (Int64.ofInt_mul a b).symm
theorem yJ_neg (a : Int) : -yJ a = yJ (-a) := (Int64.ofInt_neg a).symm
theorem yI_nat (n : Nat) : nI n = yI n := rfl
def yB (x : Int) : Prop := -2000000000 ≤ x ∧ x ≤ 2000000000
theorem yI_int {x : Int} (h : yB x) : (yI x).toInt = x := Int32.toInt_ofInt_of_le (by have := h.1; omega) (by have := h.2; omega)
def yW (x : Int) : Prop := -4000000000000000000 ≤ x ∧ x ≤ 4000000000000000000
theorem yJ_int {x : Int} (h : yW x) : (yJ x).toInt = x := Int64.toInt_ofInt_of_le (by have := h.1; omega) (by have := h.2; omega)
theorem yI_le {a b : Int} (ha : yB a) (hb : yB b) : yI a ≤ yI b ↔ a ≤ b := by
  rw [Int32.le_iff_toInt_le, yI_int ha, yI_int hb]
theorem yI_lt {a b : Int} (ha : yB a) (hb : yB b) : yI a < yI b ↔ a < b := by
  rw [Int32.lt_iff_toInt_lt, yI_int ha, yI_int hb]
theorem yJ_le {a b : Int} (ha : yW a) (hb : yW b) : yJ a ≤ yJ b ↔ a ≤ b := by
  rw [Int64.le_iff_toInt_le, yJ_int ha, yJ_int hb]
theorem yJ_lt {a b : Int} (ha : yW a) (hb : yW b) : yJ a < yJ b ↔ a < b := by
  rw [Int64.lt_iff_toInt_lt, yJ_int ha, yJ_int hb]
theorem yTd {a b : Int} {m : Int} (hb : 0 < b) (h1 : -m ≤ a) (h2 : a ≤ m) : -m ≤ a.tdiv b ∧ a.tdiv b ≤ m := by
  have h := Int.natAbs_tdiv_le_natAbs a b
  omega
theorem yI_div {a b : Int} (ha : yB a) (hb : yB b) (h0 : 0 < b) : yI a / yI b = yI (a.tdiv b) := by
  have hq := yTd h0 ha.1 ha.2
  apply Int32.toInt_inj.mp
  rw [Int32.toInt_div, yI_int ha, yI_int hb, yI_int hq]
  exact Int.bmod_eq_of_le (by have := hq.1; omega) (by have := hq.2; omega)
theorem yJ_div {a b : Int} (ha : yW a) (hb : yW b) (h0 : 0 < b) : yJ a / yJ b = yJ (a.tdiv b) := by
  have hq := yTd h0 ha.1 ha.2
  apply Int64.toInt_inj.mp
  rw [Int64.toInt_div, yJ_int ha, yJ_int hb, yJ_int hq]
  exact Int.bmod_eq_of_le (by have := hq.1; omega) (by have := hq.2; omega)
theorem yIJ {x : Int} (h : yB x) : (yI x).toInt64 = yJ x := by
  apply Int64.toInt_inj.mp
  rw [Int32.toInt_toInt64, yI_int h, yJ_int ⟨by have := h.1; omega, by have := h.2; omega⟩]
theorem yJI (x : Int) : (yJ x).toInt32 = yI x := by
  apply Int32.toInt_inj.mp
  unfold yJ yI
  rw [Int64.toInt_toInt32, Int64.toInt_ofInt, Int32.toInt_ofInt]
  exact Int.bmod_bmod_of_dvd (by decide)
theorem yI_ne0 {x : Int} (h : yB x) (h0 : 0 < x) : ¬ yI x ≤ 0 ∧ ¬ yI x = 0 := by
  have e : ¬ yI x ≤ yI 0 := by
    rw [yI_le h ⟨by decide, by decide⟩]
    omega
  exact ⟨e, fun q => e (by rw [q]; decide)⟩
theorem yJ_ne0 {x : Int} (h : yW x) (h0 : 0 < x) : ¬ yJ x = 0 := by
  intro q
  have e : ¬ yJ x ≤ yJ 0 := by
    rw [yJ_le h ⟨by decide, by decide⟩]
    omega
  exact e (by rw [q]; decide)
/-! sums over values, by what is left -/
def oSm (o : Nat → Nat) (f : Nat → Int) : Nat → Int
  | 0 => 0
  | n + 1 => oSm o f n + (o (n + 1) : Int) * f (n + 1)
def oAv (o : Nat → Nat) (f : Nat → Int) : Int := (oSm o f 10).tdiv (ysm o)
theorem oSm_congr {o : Nat → Nat} {f g : Nat → Int} : ∀ {n : Nat}, (∀ v, 1 ≤ v → v ≤ n → f v = g v) → oSm o f n = oSm o g n
  | 0, _ => rfl
  | n + 1, h => by
    show oSm o f n + _ = oSm o g n + _
    rw [oSm_congr (n := n) (fun v v1 v2 => h v v1 (by omega)), h (n + 1) (by omega) (by omega)]
theorem oAv_congr {o : Nat → Nat} {f g : Nat → Int} (h : ∀ v, 1 ≤ v → v ≤ 10 → f v = g v) : oAv o f = oAv o g := by
  unfold oAv
  rw [oSm_congr h]
def oSn (o : Nat → Nat) : Nat → Nat
  | 0 => 0
  | n + 1 => oSn o n + o (n + 1)
theorem oSn_10 (o : Nat → Nat) : oSn o 10 = ysm o := by
  unfold ysm
  simp [oSn]
theorem oSm_le {o : Nat → Nat} {f : Nat → Int} {m : Int} (hm : 0 ≤ m) : ∀ {n : Nat}, (∀ v, 1 ≤ v → v ≤ n → -m ≤ f v ∧ f v ≤ m) → -((oSn o n : Nat) * m) ≤ oSm o f n ∧ oSm o f n ≤ (oSn o n : Nat) * m
  | 0, _ => by simp [oSm, oSn]
  | n + 1, h => by
    have ih := oSm_le (o := o) hm (n := n) (fun v v1 v2 => h v v1 (by omega))
    have w := h (n + 1) (by omega) (by omega)
    have w1 : (o (n + 1) : Int) * f (n + 1) ≤ (o (n + 1) : Int) * m := Int.mul_le_mul_of_nonneg_left w.2 (by omega)
    have w2 : (o (n + 1) : Int) * (-m) ≤ (o (n + 1) : Int) * f (n + 1) := Int.mul_le_mul_of_nonneg_left w.1 (by omega)
    have e : ((oSn o (n + 1) : Nat) : Int) * m = (oSn o n : Nat) * m + (o (n + 1) : Int) * m := by
      show ((oSn o n + o (n + 1) : Nat) : Int) * m = _
      rw [Int.natCast_add, Int.add_mul]
    rw [e]
    show _ ≤ oSm o f n + _ ∧ oSm o f n + _ ≤ _
    rw [Int.mul_neg] at w2
    omega
theorem oSm_b {o : Nat → Nat} {f : Nat → Int} {m : Int} (hm : 0 ≤ m) (hN : ysm o ≤ 416) {n : Nat} (hn : n ≤ 10) (h : ∀ v, 1 ≤ v → v ≤ 10 → -m ≤ f v ∧ f v ≤ m) : -(416 * m) ≤ oSm o f n ∧ oSm o f n ≤ 416 * m := by
  have ih := oSm_le (o := o) hm (n := n) (fun v v1 v2 => h v v1 (by omega))
  have e : oSn o n ≤ 416 := by
    have : ∀ j n, n + j = 10 → oSn o n ≤ oSn o 10 := by
      intro j
      induction j with
      | zero =>
        intro n q
        have : n = 10 := q
        subst this
        exact Nat.le_refl _
      | succ j jh =>
        intro n q
        have := jh (n + 1) (by omega)
        have e : oSn o (n + 1) = oSn o n + o (n + 1) := rfl
        omega
    have := this (10 - n) n (by omega)
    rw [oSn_10] at this
    omega
  have w : ((oSn o n : Nat) : Int) * m ≤ 416 * m := Int.mul_le_mul_of_nonneg_right (by omega) hm
  omega
theorem oAv_b {o : Nat → Nat} {f : Nat → Int} {m : Int} (hm : 0 ≤ m) (hN : 0 < ysm o) (h : ∀ v, 1 ≤ v → v ≤ 10 → -m ≤ f v ∧ f v ≤ m) : -m ≤ oAv o f ∧ oAv o f ≤ m := by
  have ih := oSm_le (o := o) hm (n := 10) h
  rw [oSn_10] at ih
  have hN' : (0 : Int) < ysm o := by omega
  unfold oAv
  have e := Int.natAbs_tdiv (oSm o f 10) (ysm o)
  have e2 : (oSm o f 10).natAbs ≤ (ysm o) * m.natAbs := by
    have w : (((ysm o) * m.natAbs : Nat) : Int) = (ysm o : Nat) * m := by
      rw [Int.natCast_mul, Int.natAbs_of_nonneg hm]
    omega
  have e3 : (oSm o f 10).natAbs / (ysm o) ≤ m.natAbs := Nat.div_le_of_le_mul e2
  have e4 : ((oSm o f 10).tdiv (ysm o)).natAbs ≤ m.natAbs := by
    rw [e]
    exact e3
  omega
/-! hands: a sum and whether there is an ace; the class's place of it -/
def oTt (s : Nat) (a : Bool) : Nat := if a = true ∧ s ≤ 11 then s + 10 else s
def oPl (s : Nat) (a : Bool) : Nat := if a = true ∧ s ≤ 11 then 42 + s else if s ≤ 22 then s else 22
def oA (a : Bool) (v : Nat) : Bool := a || Nat.beq v 1
def oDw (q : Nat → Nat) (s : Nat) (a : Bool) : Bool := decide (oTt s a < q 3 ∨ (oTt s a = q 3 ∧ (a = true ∧ s ≤ 11) ∧ q 0 = 1))
theorem oDw_iff {q : Nat → Nat} {s : Nat} {a : Bool} : oDw q s a = true ↔ oTt s a < q 3 ∨ (oTt s a = q 3 ∧ (a = true ∧ s ≤ 11) ∧ q 0 = 1) := decide_eq_true_iff
def oE (o q : Nat → Nat) (k : Nat) : Nat → Nat → Bool → Int
  | 0, _, _ => 0
  | f + 1, s, a => if oDw q s a then oAv o (fun v => oE o q k f (s + v) (oA a v)) else if oTt s a = k + 15 ∨ (k = 7 ∧ 22 ≤ oTt s a) then 1000000 else 0
theorem oDw_22 {q : Nat → Nat} (hq : q 3 ≤ 19) {s : Nat} {a : Bool} (h : 20 ≤ s) : ¬ oDw q s a = true := by
  rw [oDw_iff]
  unfold oTt
  rw [if_neg (by omega)]
  omega
theorem oE_one {o q : Nat → Nat} (hq : q 3 ≤ 19) (k : Nat) : ∀ (f s : Nat) (a : Bool), 1 ≤ f → 21 ≤ f + s → oE o q k (f + 1) s a = oE o q k f s a
  | 0, s, a, h, _ => absurd h (by omega)
  | f + 1, s, a, _, h => by
    show (if oDw q s a then oAv o (fun v => oE o q k (f + 1) (s + v) (oA a v)) else _) = (if oDw q s a then oAv o (fun v => oE o q k f (s + v) (oA a v)) else _)
    by_cases hd : oDw q s a
    · rw [if_pos hd, if_pos hd]
      refine oAv_congr (fun v v1 v2 => oE_one hq k f (s + v) (oA a v) ?_ (by omega))
      rcases Nat.eq_zero_or_pos f with z | z
      · exact absurd hd (oDw_22 hq (by omega))
      · exact z
    · rw [if_neg hd, if_neg hd]
def oEe (o q : Nat → Nat) (k s : Nat) (a : Bool) : Int := oE o q k 40 s a
theorem oEe_eq {o q : Nat → Nat} (hq : q 3 ≤ 19) (k s : Nat) (a : Bool) : oEe o q k s a = if oDw q s a then oAv o (fun v => oEe o q k (s + v) (oA a v)) else if oTt s a = k + 15 ∨ (k = 7 ∧ 22 ≤ oTt s a) then 1000000 else 0 := by
  show (if oDw q s a then oAv o (fun v => oE o q k 39 (s + v) (oA a v)) else _) = _
  by_cases hd : oDw q s a
  · rw [if_pos hd, if_pos hd]
    exact oAv_congr (fun v v1 v2 => (oE_one hq k 39 (s + v) (oA a v) (by omega) (by omega)).symm)
  · rw [if_neg hd, if_neg hd]
theorem oE_hard (o q : Nat → Nat) (k : Nat) : ∀ (f s : Nat), 11 < s → oE o q k f s true = oE o q k f s false
  | 0, _, _ => rfl
  | f + 1, s, h => by
    have t : oTt s true = oTt s false := by
      unfold oTt
      rw [if_neg (by omega), if_neg (by omega)]
    have dd : oDw q s true = true ↔ oDw q s false = true := by
      rw [oDw_iff, oDw_iff, t]
      constructor
      · rintro (z | z)
        · exact Or.inl z
        · omega
      · rintro (z | z)
        · exact Or.inl z
        · cases z.2.1.1
    show (if oDw q s true then oAv o (fun v => oE o q k f (s + v) (oA true v)) else _) = (if oDw q s false then oAv o (fun v => oE o q k f (s + v) (oA false v)) else _)
    rw [t]
    by_cases hd : oDw q s false
    · rw [if_pos (dd.mpr hd), if_pos hd]
      refine oAv_congr (fun v v1 v2 => ?_)
      have e1 : oE o q k f (s + v) (oA true v) = oE o q k f (s + v) false := oE_hard o q k f (s + v) (by omega)
      rw [e1]
      cases h1 : oA false v with
      | false => rfl
      | true => exact (oE_hard o q k f (s + v) (by omega)).symm
    · rw [if_neg (mt dd.mp hd), if_neg hd]
theorem oEe_big {o q : Nat → Nat} (hq : q 3 ≤ 19) (k s : Nat) (a : Bool) (hk : k ≤ 7) (h : 22 ≤ s) : oEe o q k s a = if k = 7 then 1000000 else 0 := by
  rw [oEe_eq hq, if_neg (oDw_22 hq (by omega))]
  have t : oTt s a = s := by
    unfold oTt
    rw [if_neg (by omega)]
  rw [t]
  by_cases k7 : k = 7
  · rw [if_pos (Or.inr ⟨k7, h⟩), if_pos k7]
  · rw [if_neg (by omega), if_neg k7]
/-- by the class's place -/
def oEp (o q : Nat → Nat) (k i : Nat) : Int := if 32 < i then oEe o q k (i - 42) true else oEe o q k i false
theorem oEp_eq {o q : Nat → Nat} (hq : q 3 ≤ 19) (k s : Nat) (a : Bool) (hk : k ≤ 7) : oEp o q k (oPl s a) = oEe o q k s a := by
  unfold oEp oPl
  by_cases c : a = true ∧ s ≤ 11
  · rw [if_pos c, if_pos (by omega), c.1]
    congr 1
    omega
  · rw [if_neg c]
    have hf : oEe o q k s a = oEe o q k s false := by
      cases ha : a with
      | false => rfl
      | true =>
        have : 11 < s := by
          rcases Nat.lt_or_ge 11 s with z | z
          · exact z
          · exact absurd ⟨ha, z⟩ c
        exact oE_hard o q k 40 s this
    by_cases c2 : s ≤ 22
    · rw [if_pos c2, if_neg (by omega), hf]
    · rw [if_neg c2, if_neg (by omega), oEe_big hq k 22 false hk (by omega), oEe_big hq k s a hk (by omega)]
/-- a card more, at its place -/
def oAf (i v : Nat) : Nat := if 32 < i then oPl (i - 42 + v) true else oPl (i + v) (Nat.beq v 1)
theorem oAf_eq {s v : Nat} {a : Bool} (hs : s ≤ 22) (hv : 1 ≤ v) (h : ¬ (s = 22)) : oAf (oPl s a) v = oPl (s + v) (oA a v) := by
  unfold oAf
  by_cases c : a = true ∧ s ≤ 11
  · have e : oPl s a = 42 + s := if_pos c
    rw [e, if_pos (by omega), c.1]
    show oPl (42 + s - 42 + v) true = oPl (s + v) true
    congr 1
    omega
  · have e : oPl s a = s := by
      unfold oPl
      rw [if_neg c, if_pos (by omega)]
    rw [e, if_neg (by omega)]
    cases ha : a with
    | false => rfl
    | true =>
      have : 11 < s := by
        rcases Nat.lt_or_ge 11 s with z | z
        · exact z
        · exact absurd ⟨ha, z⟩ c
      unfold oPl
      rw [if_neg (by omega : ¬ (Nat.beq v 1 = true ∧ s + v ≤ 11)), if_neg (by omega : ¬ (oA true v = true ∧ s + v ≤ 11))]
/-! bounds -/
theorem oSm_nn {o : Nat → Nat} {f : Nat → Int} : ∀ {n : Nat}, (∀ v, 1 ≤ v → v ≤ n → 0 ≤ f v) → 0 ≤ oSm o f n
  | 0, _ => Int.le_refl _
  | n + 1, h => by
    have ih := oSm_nn (o := o) (n := n) (fun v v1 v2 => h v v1 (by omega))
    have w : 0 ≤ (o (n + 1) : Int) * f (n + 1) := Int.mul_nonneg (by omega) (h (n + 1) (by omega) (by omega))
    show 0 ≤ oSm o f n + _
    omega
theorem oAv_nn {o : Nat → Nat} {f : Nat → Int} (h : ∀ v, 1 ≤ v → v ≤ 10 → 0 ≤ f v) : 0 ≤ oAv o f := Int.tdiv_nonneg (oSm_nn h) (Int.natCast_nonneg _)
theorem oAv_mul {o : Nat → Nat} {f : Nat → Int} (h : ∀ v, 1 ≤ v → v ≤ 10 → 0 ≤ f v) : (ysm o : Int) * oAv o f ≤ oSm o f 10 := by
  unfold oAv
  rw [Int.tdiv_eq_ediv_of_nonneg (oSm_nn h)]
  rcases Nat.eq_zero_or_pos (ysm o) with z | z
  · rw [z]
    have := oSm_nn (o := o) h
    simpa using this
  · exact Int.mul_ediv_self_le (by omega)
theorem oSm_add {o : Nat → Nat} {f g : Nat → Int} : ∀ (n : Nat), oSm o f n + oSm o g n = oSm o (fun v => f v + g v) n
  | 0 => rfl
  | n + 1 => by
    show oSm o f n + _ + (oSm o g n + _) = oSm o (fun v => f v + g v) n + (o (n + 1) : Int) * (f (n + 1) + g (n + 1))
    rw [← oSm_add n, Int.mul_add]
    omega
def oQ (F : Nat → Int) : Int := F 0 + F 1 + F 2 + F 3 + F 4 + F 5 + F 6 + F 7
theorem oQ_av {o : Nat → Nat} {F : Nat → Nat → Int} (hN : 0 < ysm o) (h : ∀ k v, 1 ≤ v → v ≤ 10 → 0 ≤ F k v) (h2 : ∀ v, 1 ≤ v → v ≤ 10 → oQ (fun k => F k v) ≤ 1000000) : oQ (fun k => oAv o (F k)) ≤ 1000000 := by
  have m := fun k => oAv_mul (o := o) (f := F k) (h k)
  have e : oQ (fun k => oSm o (F k) 10) = oSm o (fun v => oQ (fun k => F k v)) 10 := by
    unfold oQ
    simp only [oSm_add]
  have b := (oSm_le (o := o) (f := fun v => oQ (fun k => F k v)) (m := 1000000) (by decide) (n := 10) (fun v v1 v2 => ⟨by
    have n := fun k => h k v v1 v2
    have n0 := n 0
    have n1 := n 1
    have n2 := n 2
    have n3 := n 3
    have n4 := n 4
    have n5 := n 5
    have n6 := n 6
    have n7 := n 7
    show -1000000 ≤ F 0 v + F 1 v + F 2 v + F 3 v + F 4 v + F 5 v + F 6 v + F 7 v
    omega, h2 v v1 v2⟩)).2
  rw [oSn_10, ← e] at b
  have m2 : (ysm o : Int) * oQ (fun k => oAv o (F k)) ≤ oQ (fun k => oSm o (F k) 10) := by
    unfold oQ
    simp only [Int.mul_add]
    have m0 := m 0
    have m1 := m 1
    have m2 := m 2
    have m3 := m 3
    have m4 := m 4
    have m5 := m 5
    have m6 := m 6
    have m7 := m 7
    omega
  exact Int.le_of_mul_le_mul_left (Int.le_trans m2 b) (by omega)
theorem oE_nn {o q : Nat → Nat} (k : Nat) : ∀ (f s : Nat) (a : Bool), 0 ≤ oE o q k f s a
  | 0, _, _ => Int.le_refl _
  | f + 1, s, a => by
    show 0 ≤ (if oDw q s a then oAv o (fun v => oE o q k f (s + v) (oA a v)) else _)
    by_cases hd : oDw q s a
    · rw [if_pos hd]
      exact oAv_nn (fun v _ _ => oE_nn k f (s + v) (oA a v))
    · rw [if_neg hd]
      by_cases c : oTt s a = k + 15 ∨ (k = 7 ∧ 22 ≤ oTt s a)
      · rw [if_pos c]
        decide
      · rw [if_neg c]
        decide
theorem oE_q {o q : Nat → Nat} (hN : 0 < ysm o) : ∀ (f s : Nat) (a : Bool), oQ (fun k => oE o q k f s a) ≤ 1000000
  | 0, _, _ => by show (0 : Int) + 0 + 0 + 0 + 0 + 0 + 0 + 0 ≤ 1000000; decide
  | f + 1, s, a => by
    by_cases hd : oDw q s a
    · have e : (fun k => oE o q k (f + 1) s a) = fun k => oAv o (fun v => oE o q k f (s + v) (oA a v)) := by
        funext k
        exact if_pos hd
      rw [e]
      exact oQ_av hN (fun k v _ _ => oE_nn k f (s + v) (oA a v)) (fun v _ _ => oE_q hN f (s + v) (oA a v))
    · have e : (fun k => oE o q k (f + 1) s a) = fun k => if oTt s a = k + 15 ∨ (k = 7 ∧ 22 ≤ oTt s a) then 1000000 else 0 := by
        funext k
        exact if_neg hd
      rw [e]
      unfold oQ
      by_cases h : oTt s a < 15 ∨ 22 ≤ oTt s a
      · simp only [show ¬ oTt s a = 15 by omega, show ¬ oTt s a = 16 by omega, show ¬ oTt s a = 17 by omega, show ¬ oTt s a = 18 by omega, show ¬ oTt s a = 19 by omega, show ¬ oTt s a = 20 by omega, show ¬ oTt s a = 21 by omega]
        by_cases h2 : 22 ≤ oTt s a
        · simp [h2]
        · simp [h2]
          split <;> decide
      · rcases (by omega : oTt s a = 15 ∨ oTt s a = 16 ∨ oTt s a = 17 ∨ oTt s a = 18 ∨ oTt s a = 19 ∨ oTt s a = 20 ∨ oTt s a = 21) with t | t | t | t | t | t | t <;> rw [t] <;> decide
/-! against an open value -/
abbrev oNat (d v : Nat) : Prop := (d = 1 ∧ v = 10) ∨ (d = 10 ∧ v = 1)
def oO (o q : Nat → Nat) (d k : Nat) : Int := if k = 8 then oAv o (fun v => if oNat d v then 1000000 else 0) else oAv o (fun v => if oNat d v then 0 else oEe o q k (d + v) (oA (Nat.beq d 1) v))
def oStk (O : Nat → Int) (t k : Nat) : Int := if 21 < t then -O k else if k = 7 ∨ k + 15 < t then O k else if t < k + 15 then -O k else 0
def oSt (O : Nat → Int) (t : Nat) : Int := oQ (oStk O t)
def oNx (O : Nat → Int) (t : Nat) (x : Int) : Int := if t < 21 then (if oSt O t < x then x else oSt O t) else oSt O t
def oD (o : Nat → Nat) (O : Nat → Int) : Nat → Nat → Bool → Int
  | 0, _, _ => 0
  | f + 1, s, a => oAv o (fun v => oNx O (oTt (s + v) (oA a v)) (oD o O f (s + v) (oA a v)))
def oDe (o : Nat → Nat) (O : Nat → Int) (s : Nat) (a : Bool) : Int := oD o O 40 s a
def oDb (o : Nat → Nat) (O : Nat → Int) (s : Nat) (a : Bool) : Int := 2 * oAv o (fun v => oSt O (oTt (s + v) (oA a v)))
theorem oD_one {o : Nat → Nat} {O : Nat → Int} : ∀ (f s : Nat) (a : Bool), 1 ≤ f → 21 ≤ f + s → oD o O (f + 1) s a = oD o O f s a
  | 0, s, a, h, _ => absurd h (by omega)
  | f + 1, s, a, _, h => by
    refine oAv_congr (fun v v1 v2 => ?_)
    show oNx O (oTt (s + v) (oA a v)) (oD o O (f + 1) (s + v) (oA a v)) = oNx O (oTt (s + v) (oA a v)) (oD o O f (s + v) (oA a v))
    by_cases c : oTt (s + v) (oA a v) < 21
    · have : s + v ≤ oTt (s + v) (oA a v) := by
        unfold oTt
        by_cases c2 : oA a v = true ∧ s + v ≤ 11
        · rw [if_pos c2]; omega
        · rw [if_neg c2]; omega
      rw [oD_one f (s + v) (oA a v) (by omega) (by omega)]
    · unfold oNx
      rw [if_neg c, if_neg c]
theorem oDe_eq {o : Nat → Nat} {O : Nat → Int} (s : Nat) (a : Bool) : oDe o O s a = oAv o (fun v => oNx O (oTt (s + v) (oA a v)) (oDe o O (s + v) (oA a v))) := by
  refine oAv_congr (fun v v1 v2 => ?_)
  show oNx O (oTt (s + v) (oA a v)) (oD o O 39 (s + v) (oA a v)) = _
  rw [← oD_one 39 (s + v) (oA a v) (by omega) (by omega)]
  rfl
theorem oTt_hard {s : Nat} {a : Bool} (h : ¬ (a = true ∧ s ≤ 11)) : oTt s a = s := if_neg h
theorem oD_hard (o : Nat → Nat) (O : Nat → Int) : ∀ (f s : Nat), 11 < s → oD o O f s true = oD o O f s false
  | 0, _, _ => rfl
  | f + 1, s, h => by
    refine oAv_congr (fun v v1 v2 => ?_)
    have e1 : oD o O f (s + v) (oA true v) = oD o O f (s + v) false := oD_hard o O f (s + v) (by omega)
    have e2 : oD o O f (s + v) (oA false v) = oD o O f (s + v) false := by
      cases h1 : oA false v with
      | false => rfl
      | true => exact oD_hard o O f (s + v) (by omega)
    show oNx O (oTt (s + v) (oA true v)) (oD o O f (s + v) (oA true v)) = oNx O (oTt (s + v) (oA false v)) (oD o O f (s + v) (oA false v))
    rw [e1, e2, oTt_hard (by omega : ¬ (oA true v = true ∧ s + v ≤ 11)), oTt_hard (by omega : ¬ (oA false v = true ∧ s + v ≤ 11))]
theorem oO_nn {o q : Nat → Nat} (d k : Nat) : 0 ≤ oO o q d k := by
  unfold oO
  by_cases c : k = 8
  · rw [if_pos c]
    refine oAv_nn (fun v _ _ => ?_)
    by_cases c2 : oNat d v
    · rw [if_pos c2]; decide
    · rw [if_neg c2]; decide
  · rw [if_neg c]
    refine oAv_nn (fun v _ _ => ?_)
    by_cases c2 : oNat d v
    · rw [if_pos c2]; decide
    · rw [if_neg c2]; exact oE_nn k 40 _ _
theorem oO_q {o q : Nat → Nat} (hN : 0 < ysm o) (d : Nat) : oQ (oO o q d) ≤ 1000000 := by
  have e : oQ (oO o q d) = oQ (fun k => oAv o (fun v => if oNat d v then 0 else oEe o q k (d + v) (oA (Nat.beq d 1) v))) := rfl
  rw [e]
  refine oQ_av hN (fun k v _ _ => ?_) (fun v _ _ => ?_)
  · by_cases c2 : oNat d v
    · rw [if_pos c2]; decide
    · rw [if_neg c2]; exact oE_nn k 40 _ _
  · by_cases c2 : oNat d v
    · simp only [if_pos c2]; decide
    · simp only [if_neg c2]; exact oE_q hN 40 _ _
theorem oO_8 {o q : Nat → Nat} (hN : 0 < ysm o) (d : Nat) : oO o q d 8 ≤ 1000000 := by
  unfold oO
  rw [if_pos rfl]
  refine (oAv_b (m := 1000000) (by decide) hN (fun v _ _ => ?_)).2
  by_cases c2 : oNat d v
  · rw [if_pos c2]; decide
  · rw [if_neg c2]; decide
theorem oStk_b {O : Nat → Int} (h : ∀ k, 0 ≤ O k) (t k : Nat) : -O k ≤ oStk O t k ∧ oStk O t k ≤ O k := by
  have := h k
  unfold oStk
  by_cases c1 : 21 < t
  · rw [if_pos c1]; omega
  by_cases c2 : k = 7 ∨ k + 15 < t
  · rw [if_neg c1, if_pos c2]; omega
  by_cases c3 : t < k + 15
  · rw [if_neg c1, if_neg c2, if_pos c3]; omega
  · rw [if_neg c1, if_neg c2, if_neg c3]; omega
theorem oSt_b {O : Nat → Int} (h : ∀ k, 0 ≤ O k) (h2 : oQ O ≤ 1000000) (t : Nat) : -1000000 ≤ oSt O t ∧ oSt O t ≤ 1000000 := by
  have b := oStk_b h t
  have b0 := b 0
  have b1 := b 1
  have b2 := b 2
  have b3 := b 3
  have b4 := b 4
  have b5 := b 5
  have b6 := b 6
  have b7 := b 7
  unfold oQ at h2
  unfold oSt oQ
  omega
theorem oD_b {o : Nat → Nat} {O : Nat → Int} (hN : 0 < ysm o) (h : ∀ k, 0 ≤ O k) (h2 : oQ O ≤ 1000000) : ∀ (f s : Nat) (a : Bool), -1000000 ≤ oD o O f s a ∧ oD o O f s a ≤ 1000000
  | 0, _, _ => by
    show (-1000000 : Int) ≤ 0 ∧ (0 : Int) ≤ 1000000
    decide
  | f + 1, s, a => by
    refine oAv_b (by decide) hN (fun v _ _ => ?_)
    have ih := oD_b hN h h2 f (s + v) (oA a v)
    have b := oSt_b h h2 (oTt (s + v) (oA a v))
    unfold oNx
    by_cases c : oTt (s + v) (oA a v) < 21
    · rw [if_pos c]
      by_cases c2 : oSt O (oTt (s + v) (oA a v)) < oD o O f (s + v) (oA a v)
      · rw [if_pos c2]; exact ih
      · rw [if_neg c2]; exact b
    · rw [if_neg c]
      exact b
theorem oSt_big {O : Nat → Int} {t : Nat} (h : 22 ≤ t) : oSt O t = oSt O 22 := by
  have e : oStk O t = oStk O 22 := by
    funext k
    unfold oStk
    rw [if_pos (by omega), if_pos (by decide)]
  unfold oSt
  rw [e]
