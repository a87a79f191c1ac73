/-! ===== odds: the model's ends, remembered ===== -/
def bN (a : Bool) : Nat := if a = true then 1 else 0
def bI (a : Bool) : Int32 := if a = true then 1 else 0
def mA (s : Nat) (a : Bool) : Nat := 2 * s + bN a
theorem bN_le (a : Bool) : bN a ≤ 1 := by cases a <;> decide
theorem bI_n (a : Bool) : bI a = nI (bN a) := by cases a <;> rfl
theorem bI_0 (a : Bool) : bI a = 0 ↔ ¬ a = true := by cases a <;> decide
def mH (B : zM) (o : Nat → Nat) : Prop := (∀ v, 1 ≤ v → v ≤ 10 → zgI B 76 0 v = nI (o v)) ∧ zgI B 76 0 0 = nI (ysm o) ∧ 0 < ysm o ∧ ysm o ≤ 416
def mR (B : zM) (q : Nat → Nat) : Prop := (∀ w, w < 4 → zgI B 57 0 w = nI (q w)) ∧ (q 0 ≤ 1 ∧ 100 ≤ q 1 ∧ q 1 ≤ 200 ∧ q 2 ≤ 1 ∧ 15 ≤ q 3 ∧ q 3 ≤ 19)
theorem S240 (d s : Nat) (a : Bool) (M : zM) (hs : s ≤ 40) : zgo false d 240 0 [zi (nI s), zi (bI a)] [] M = some (some (zi (nI (oTt s a))), M) := by
  have l : 11 < nI s ↔ 11 < s := nI_ltI (a := 11) (by omega) (by omega)
  rw [B240_0]
  cases a with
  | false =>
    have e : oTt s false = s := if_neg (fun z => by cases z.1)
    rw [if_pos (show bI false = 0 from rfl), B240_17, B240_18, e]
  | true =>
    rw [if_neg (by decide)]
    by_cases c : 11 < s
    · have e : oTt s true = s := if_neg (by omega)
      rw [if_pos (l.mpr c), B240_17, B240_18, e]
    · have e : oTt s true = s + 10 := if_pos ⟨rfl, by omega⟩
      rw [if_neg (mt l.mp c), B240_18, e, show (10 : Int32) = nI 10 from rfl, nI_add]
theorem S241 (d s : Nat) (a : Bool) (M : zM) (hs : s ≤ 40) : zgo false d 241 0 [zi (nI s), zi (bI a)] [] M = some (some (zi (if a = true ∧ s ≤ 11 then 1 else 0)), M) := by
  have l : 11 < nI s ↔ 11 < s := nI_ltI (a := 11) (by omega) (by omega)
  rw [B241_0]
  cases a with
  | false =>
    rw [if_pos (show bI false = 0 from rfl), B241_14, B241_15, if_neg (fun z => by cases z.1)]
    rfl
  | true =>
    rw [if_neg (by decide)]
    by_cases c : 11 < s
    · rw [if_pos (l.mpr c), B241_14, B241_15, if_neg (by omega)]
      rfl
    · rw [if_neg (mt l.mp c), B241_15, if_pos ⟨rfl, by omega⟩]
      rfl
theorem S242 (d s : Nat) (a : Bool) (q : Nat → Nat) (u3 : zV) (M : zM) (hs : s ≤ 31) (hR : mR M q) : zgo false (d + 1) 242 0 [zr 13 0, zi (nI s), zi (bI a), u3] [] M = some (some (zi (bI (oDw q s a))), M) := by
  obtain ⟨r, r0, -, -, -, -, r3⟩ := hR
  have z3 : zin 3 4 = true := rfl
  have z0 : zin 0 4 = true := rfl
  have c3 : (3 : Int32).toNatClampNeg = 3 := rfl
  have c0 : (0 : Int32).toNatClampNeg = 0 := rfl
  have t : oTt s a ≤ 41 := by
    unfold oTt
    by_cases c : a = true ∧ s ≤ 11
    · rw [if_pos c]; omega
    · rw [if_neg c]; omega
  have l1 : nI (oTt s a) < nI (q 3) ↔ oTt s a < q 3 := nI_ltI (by omega) (by omega)
  have l2 : nI (oTt s a) = nI (q 3) ↔ oTt s a = q 3 := nI_eq (by omega) (by omega)
  have l3 : nI (q 0) = 1 ↔ q 0 = 1 := nI_eq (b := 1) (by omega) (by omega)
  have one : ∀ x3, zgo false (d + 1) 242 44 [zr 13 0, zi (nI s), zi (bI a), zi x3] [] M = some (some (zi 1), M) := fun x3 => by
    rw [B242_44, B242_49]
    rfl
  have non : ∀ x3, zgo false (d + 1) 242 48 [zr 13 0, zi (nI s), zi (bI a), zi x3] [] M = some (some (zi 0), M) := fun x3 => by
    rw [B242_48, B242_49]
    rfl
  have yes : oDw q s a = true → bI (oDw q s a) = 1 := fun h => if_pos h
  have no : ¬ oDw q s a = true → bI (oDw q s a) = 0 := fun h => if_neg h
  rw [B242_0, S240 _ _ _ _ (by omega), zbsome, zpu1, B242_5, if_pos z3, c3, r 3 (by omega)]
  by_cases h1 : oTt s a < q 3
  · rw [if_pos (l1.mpr h1), one, yes (oDw_iff.mpr (Or.inl h1))]
  rw [if_neg (mt l1.mp h1), if_pos z3]
  by_cases h2 : oTt s a = q 3
  · rw [if_pos (l2.mpr h2), S241 _ _ _ _ (by omega), zbsome, zpu1, B242_31]
    by_cases h3 : a = true ∧ s ≤ 11
    · rw [if_pos h3, if_neg (by decide), if_pos z0, c0, r 0 (by omega)]
      by_cases h4 : q 0 = 1
      · rw [if_pos (l3.mpr h4), one, yes (oDw_iff.mpr (Or.inr ⟨h2, h3, h4⟩))]
      · rw [if_neg (mt l3.mp h4), non, no (fun z => (oDw_iff.mp z).elim h1 (fun z => h4 z.2.2))]
    · rw [if_neg h3, if_pos rfl, non, no (fun z => (oDw_iff.mp z).elim h1 (fun z => h3 z.2.1))]
  · rw [if_neg (mt l2.mp h2), non, no (fun z => (oDw_iff.mp z).elim h1 (fun z => h2 z.1))]
/-- what is remembered of sums from lo on is right -/
def mE (B : zM) (o q : Nat → Nat) (lo : Nat) : Prop := ∀ s a, lo ≤ s → s ≤ 31 → zgI B 78 0 (mA s a) = 0 ∨ (zgI B 78 0 (mA s a) = 1 ∧ ∀ k, k < 8 → zgL B 77 0 (8 * mA s a + k) = yJ (oEe o q k s a))
def mFe (s a b c : Nat) : Prop := b = 0 ∧ ((a = 77 ∧ 16 * s ≤ c) ∨ (a = 78 ∧ 2 * s ≤ c))
theorem L243a (d s : Nat) (a : Bool) (hs : s ≤ 31) (u5 u6 u7 : zV) : ∀ (j k : Nat) (B : zM), k + j = 8 → (∀ k', k' < k → zgL B 77 0 (8 * mA s a + k') = 0) → ∃ B', zgo false (d + 1) 243 34 [zr 13 0, zi (nI s), zi (bI a), zi (nI (mA s a)), zi (nI k), u5, u6, u7] [] B = zgo false (d + 1) 243 34 [zr 13 0, zi (nI s), zi (bI a), zi (nI (mA s a)), zi 8, u5, u6, u7] [] B' ∧ zFo (fun x y z => x = 77 ∧ y = 0 ∧ 8 * mA s a ≤ z ∧ z < 8 * mA s a + 8) B B' ∧ ∀ k, k < 8 → zgL B' 77 0 (8 * mA s a + k) = 0
  | 0, k, B, hk, h => by
    have hk : k = 8 := hk
    subst hk
    exact ⟨B, rfl, zFo_refl _ B, h⟩
  | j + 1, k, B, hk, h => by
    have ha : mA s a ≤ 63 := by
      unfold mA
      have := bN_le a
      omega
    obtain ⟨B', e, f, w⟩ := L243a d s a hs u5 u6 u7 j (k + 1) (zsL B 77 0 (8 * mA s a + k) 0) (by omega) (fun k' h' => by
      rw [zgL_sL]
      by_cases z : k' = k
      · rw [if_pos ⟨rfl, rfl, by omega⟩]
      · rw [if_neg (by omega)]
        exact h k' (by omega))
    refine ⟨B', ?_, zFo_trans (zFo_sL (zFo_refl _ B) ⟨rfl, rfl, by omega, by omega⟩) f, w⟩
    have c : ¬ (8 : Int32) ≤ nI k := nI_ge (b := 8) (by omega) (by omega)
    have e1 : 8 * nI (mA s a) + nI k = nI (8 * mA s a + k) := by rw [show (8 : Int32) = nI 8 from rfl, pk_mul, nI_add]
    have z1 : zin (nI (8 * mA s a + k)) 512 = true := zin_nI (by omega) (by omega)
    have c1 : (nI (8 * mA s a + k)).toNatClampNeg = 8 * mA s a + k := nI_clamp (by omega)
    rw [← e, B243_34, if_neg c, e1, if_pos z1, c1, B243_54, nI_1]
theorem bI_or (a : Bool) (v : Nat) (hv : 1 ≤ v ∧ v ≤ 10) : bN (oA a v) = if a = true then 1 else if v = 1 then 1 else 0 := by
  cases a with
  | true => rfl
  | false =>
    rw [if_neg (fun z => by cases z)]
    rcases (by omega : v = 1 ∨ v = 2 ∨ v = 3 ∨ v = 4 ∨ v = 5 ∨ v = 6 ∨ v = 7 ∨ v = 8 ∨ v = 9 ∨ v = 10) with rfl | rfl | rfl | rfl | rfl | rfl | rfl | rfl | rfl | rfl <;> rfl
/-- the sum over values, of what is remembered -/
theorem L243b (d s k : Nat) (a : Bool) (hs : s ≤ 21) (hk : k < 8) {o q : Nat → Nat} {B : zM} (hH : mH B o) (hv : ∀ v, 1 ≤ v → v ≤ 10 → 0 < o v → zgL B 77 0 (8 * mA (s + v) (oA a v) + k) = yJ (oEe o q k (s + v) (oA a v))) : ∀ (j n : Nat) (u6 : zV), n + j = 10 → ∃ u5 u6' u7 : zV, zgo false d 243 172 [zr 13 0, zi (nI s), zi (bI a), zi (nI (mA s a)), zi (nI k), zl (yJ (oSm o (fun v => oEe o q k (s + v) (oA a v)) n)), u6, zi (nI (n + 1))] [] B = zgo false d 243 159 [zr 13 0, zi (nI s), zi (bI a), zi (nI (mA s a)), zi (nI (k + 1)), u5, u6', u7] [] (zsL B 77 0 (8 * mA s a + k) (yJ (oAv o (fun v => oEe o q k (s + v) (oA a v)))))
  | 0, n, u6, hn => by
    have hn : n = 10 := hn
    subst hn
    have ha : mA s a ≤ 63 := by
      unfold mA
      have := bN_le a
      omega
    have b := oSm_b (o := o) (n := 10) (m := 1000000) (f := fun v => oEe o q k (s + v) (oA a v)) (by decide) hH.2.2.2 (Nat.le_refl _) (fun v _ _ => oE_1 hH.2.2.1 hk _ _)
    have bb : yB (ysm o : Nat) := ⟨by omega, by have := hH.2.2.2; omega⟩
    have w : yW (ysm o : Nat) := ⟨by omega, by have := hH.2.2.2; omega⟩
    have e1 : 8 * nI (mA s a) + nI k = nI (8 * mA s a + k) := by rw [show (8 : Int32) = nI 8 from rfl, pk_mul, nI_add]
    have z1 : zin (nI (8 * mA s a + k)) 512 = true := zin_nI (by omega) (by omega)
    have c1 : (nI (8 * mA s a + k)).toNatClampNeg = 8 * mA s a + k := nI_clamp (by omega)
    have e0 : zgI B 76 0 (0 : Int32).toNatClampNeg = nI (ysm o) := hH.2.1
    refine ⟨zl (yJ (oSm o (fun v => oEe o q k (s + v) (oA a v)) 10)), u6, zi 11, ?_⟩
    rw [B243_172, if_pos (by decide), if_pos (by decide), e0, yI_nat, yIJ bb, if_neg (yJ_ne0 w (by have := hH.2.2.1; omega)), e1, if_pos z1, c1, B243_264, nI_1, yJ_div ⟨by omega, by omega⟩ w (by have := hH.2.2.1; omega)]
    rfl
  | j + 1, n, u6, hn => by
    have c : ¬ (10 : Int32) < nI (n + 1) := nI_nlt (a := 10) (by omega) (by omega)
    have z11 : zin (nI (n + 1)) 11 = true := zin_nI (by omega) (by omega)
    have c11 : (nI (n + 1)).toNatClampNeg = n + 1 := nI_clamp (by omega)
    have ob := oLe hH.2.2.2 (show n < 10 by omega)
    have e76 := hH.1 (n + 1) (by omega) (by omega)
    by_cases z : o (n + 1) = 0
    · obtain ⟨u5, u6', u7, ih⟩ := L243b d s k a hs hk hH hv j (n + 1) (zkl u6) (by omega)
      have l : nI (o (n + 1)) ≤ 0 := by rw [z]; decide
      have e : oSm o (fun v => oEe o q k (s + v) (oA a v)) (n + 1) = oSm o (fun v => oEe o q k (s + v) (oA a v)) n := by
        show _ + ((o (n + 1) : Nat) : Int) * _ = _
        rw [z]
        simp
      rw [e] at ih
      refine ⟨u5, u6', u7, ?_⟩
      rw [B243_172, if_neg c, if_pos z11, c11, e76, if_pos l, B243_236, nI_1]
      exact ih
    · obtain ⟨u5, u6', u7, ih⟩ := L243b d s k a hs hk hH hv j (n + 1) (zkl zu) (by omega)
      have l : ¬ nI (o (n + 1)) ≤ nI 0 := nI_ge (by omega) (by omega)
      have e : oSm o (fun v => oEe o q k (s + v) (oA a v)) (n + 1) = oSm o (fun v => oEe o q k (s + v) (oA a v)) n + (o (n + 1) : Int) * oEe o q k (s + (n + 1)) (oA a (n + 1)) := rfl
      have ev := hv (n + 1) (by omega) (by omega) (by omega)
      have hb := bI_or a (n + 1) ⟨by omega, by omega⟩
      have hm : mA (s + (n + 1)) (oA a (n + 1)) ≤ 63 := by
        unfold mA
        have := bN_le (oA a (n + 1))
        omega
      rw [e] at ih
      refine ⟨u5, u6', u7, ?_⟩
      have lx : nI (n + 1) = 1 ↔ n + 1 = 1 := nI_eq (b := 1) (by omega) (by omega)
      have ex : 2 * (nI s + nI (n + 1)) = nI (2 * (s + (n + 1))) := by rw [nI_add, show (2 : Int32) = nI 2 from rfl, pk_mul]
      have fin : ∀ x5 : Int32, x5 = nI (bN (oA a (n + 1))) → zgo false d 243 226 [zr 13 0, zi (nI s), zi (bI a), zi (nI (mA s a)), zi (nI k), zl (yJ (oSm o (fun v => oEe o q k (s + v) (oA a v)) n)), u6, zi (nI (n + 1))] [zi x5, zi (nI (2 * (s + (n + 1)))), zi 8, zr 77 0, zl (yJ (o (n + 1))), zl (yJ (oSm o (fun v => oEe o q k (s + v) (oA a v)) n))] B = zgo false d 243 159 [zr 13 0, zi (nI s), zi (bI a), zi (nI (mA s a)), zi (nI (k + 1)), u5, u6', u7] [] (zsL B 77 0 (8 * mA s a + k) (yJ (oAv o (fun v => oEe o q k (s + v) (oA a v))))) := by
        intro x5 hx5
        have e1 : 8 * (nI (2 * (s + (n + 1))) + x5) + nI k = nI (8 * mA (s + (n + 1)) (oA a (n + 1)) + k) := by
          rw [hx5, nI_add, show (8 : Int32) = nI 8 from rfl, pk_mul, nI_add]
          rfl
        have z1 : zin (nI (8 * mA (s + (n + 1)) (oA a (n + 1)) + k)) 512 = true := zin_nI (by omega) (by omega)
        have c1 : (nI (8 * mA (s + (n + 1)) (oA a (n + 1)) + k)).toNatClampNeg = 8 * mA (s + (n + 1)) (oA a (n + 1)) + k := nI_clamp (by omega)
        rw [B243_226, e1, if_pos z1, c1, ev, yJ_mul, yJ_add, B243_236, nI_1]
        exact ih
      rw [B243_172, if_neg c, if_pos z11, c11, e76, if_neg (show ¬ nI (o (n + 1)) ≤ 0 from l), if_pos z11, yI_nat (o (n + 1)), yIJ ⟨by omega, by omega⟩, ex]
      cases a with
      | true =>
        rw [if_neg (by decide), B243_221]
        exact fin 1 (by rw [hb, if_pos rfl]; rfl)
      | false =>
        rw [if_pos (show bI false = 0 from rfl)]
        rw [if_neg (fun z => by cases z)] at hb
        by_cases h1 : n + 1 = 1
        · rw [if_pos (lx.mpr h1), B243_221]
          exact fin 1 (by rw [hb, if_pos h1]; rfl)
        · rw [if_neg (mt lx.mp h1)]
          exact fin 0 (by rw [hb, if_neg h1]; rfl)
/-- all eight ends -/
theorem L243c (d s : Nat) (a : Bool) (hs : s ≤ 21) {o q : Nat → Nat} : ∀ (j k : Nat) (B : zM) (u5 u6 u7 : zV), k + j = 8 → mH B o → (∀ k, k < 8 → ∀ v, 1 ≤ v → v ≤ 10 → 0 < o v → zgL B 77 0 (8 * mA (s + v) (oA a v) + k) = yJ (oEe o q k (s + v) (oA a v))) → (∀ k', k' < k → zgL B 77 0 (8 * mA s a + k') = yJ (oAv o (fun v => oEe o q k' (s + v) (oA a v)))) → ∃ B', zgo false d 243 159 [zr 13 0, zi (nI s), zi (bI a), zi (nI (mA s a)), zi (nI k), u5, u6, u7] [] B = some (none, B') ∧ zFo (fun x y z => x = 77 ∧ y = 0 ∧ 8 * mA s a ≤ z ∧ z < 8 * mA s a + 8) B B' ∧ ∀ k, k < 8 → zgL B' 77 0 (8 * mA s a + k) = yJ (oAv o (fun v => oEe o q k (s + v) (oA a v)))
  | 0, k, B, u5, u6, u7, hk, hH, hv, h => by
    have hk : k = 8 := hk
    subst hk
    refine ⟨B, ?_, zFo_refl _ B, h⟩
    rw [B243_159, if_pos (by decide)]
  | j + 1, k, B, u5, u6, u7, hk, hH, hv, h => by
    have ha : mA s a ≤ 63 := by
      unfold mA
      have := bN_le a
      omega
    have c : ¬ (8 : Int32) ≤ nI k := nI_ge (b := 8) (by omega) (by omega)
    obtain ⟨v5, v6, v7, e1⟩ := L243b d s k a hs (by omega) (q := q) hH (fun v v1 v2 v3 => hv k (by omega) v v1 v2 v3) 10 0 zu rfl
    have f1 : zFo (fun x y z => x = 77 ∧ y = 0 ∧ 8 * mA s a ≤ z ∧ z < 8 * mA s a + 8) B (zsL B 77 0 (8 * mA s a + k) (yJ (oAv o (fun v => oEe o q k (s + v) (oA a v))))) := zFo_sL (zFo_refl _ B) ⟨rfl, rfl, by omega, by omega⟩
    obtain ⟨B', e, f, w⟩ := L243c d s a hs (o := o) (q := q) j (k + 1) (zsL B 77 0 (8 * mA s a + k) (yJ (oAv o (fun v => oEe o q k (s + v) (oA a v))))) v5 v6 v7 (by omega) hH (fun k' hk' v v1 v2 v3 => by
      rw [zgL_sL, if_neg (by unfold mA; have := bN_le a; have := bN_le (oA a v); omega)]
      exact hv k' hk' v v1 v2 v3) (fun k' h' => by
      rw [zgL_sL]
      by_cases z : k' = k
      · rw [if_pos ⟨rfl, rfl, by omega⟩, z]
      · rw [if_neg (by omega)]
        exact h k' (by omega))
    refine ⟨B', ?_, zFo_trans f1 f, w⟩
    rw [B243_159, if_neg c]
    exact e1.trans e
