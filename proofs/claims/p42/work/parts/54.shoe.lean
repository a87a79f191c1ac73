/-! ===== the shoe: what stands between the two ===== -/
def ycn (c : Nat → Nat) (v : Nat) : Nat → Nat
  | 0 => 0
  | n + 1 => ycn c v n + if c n = v then 1 else 0
def ycd (P v : Nat) : Nat := P * if v = 10 then 16 else 4
def ysm (f : Nat → Nat) : Nat := f 1 + f 2 + f 3 + f 4 + f 5 + f 6 + f 7 + f 8 + f 9 + f 10
/-- the numbers of a shoe: i the class's, P packs, C cut, g gone, sn seen -/
def yNum (i : Nat) (A B : zM) (P C g : Nat) (sn : Nat → Nat) : Prop :=
  ((1 ≤ P ∧ P ≤ 8) ∧ (10 ≤ C ∧ C ≤ 95) ∧ g ≤ 52 * P) ∧ (zgI A 10 i 2 = nI P ∧ zgI B 13 0 1 = nI P) ∧ (zgI A 10 i 3 = nI C ∧ zgI B 13 0 2 = nI C) ∧ zgI A 10 i 4 = zgI B 13 0 3 ∧ zgI A 10 i 5 = zgI B 13 0 4 ∧ (zgI A 10 i 6 = nI g ∧ zgI B 13 0 7 = nI g) ∧ zgI A 10 i 8 = zgI B 13 0 8 ∧ (zgI A 10 i 7 = nI (sn 0) ∧ zgI B 56 0 0 = nI (sn 0)) ∧ (∀ v, 1 ≤ v → v ≤ 10 → zgI A 47 i v = nI (sn v) ∧ zgI B 56 0 v = nI (sn v)) ∧ sn 0 = ysm sn ∧ (∀ v, 1 ≤ v → v ≤ 10 → sn v ≤ ycd P v) ∧ sn 0 < 52 * P
/-- the cards as they lie: c each one's value; what is seen is gone, but for the burnt one and the hidden one, h (0: none) -/
def yDk (i : Nat) (A B : zM) (P g : Nat) (sn c : Nat → Nat) (h : Nat) : Prop :=
  1 ≤ g ∧ (∀ s, s < 52 * P → zgI A 46 i s = nI (c s) ∧ zgI B 55 0 s = nI (c s) ∧ 1 ≤ c s ∧ c s ≤ 10) ∧ (∀ v, 1 ≤ v → v ≤ 10 → ycn c v (52 * P) = ycd P v) ∧ ∀ v, 1 ≤ v → v ≤ 10 → sn v + (if c 0 = v then 1 else 0) + (if h = v then 1 else 0) ≤ ycn c v g
def yShoe (i : Nat) (A B : zM) : Prop := ∃ (P C g : Nat) (sn : Nat → Nat), yNum i A B P C g sn ∧ ((zgI A 10 i 9 = 1 ∧ (zgI B 13 0 5 = 0 ∨ zgI B 13 0 59 = 1)) ∨ (zgI A 10 i 9 = 0 ∧ zgI B 13 0 5 = 1 ∧ zgI B 13 0 59 = 0 ∧ ∃ c, yDk i A B P g sn c 0))
theorem yNum_fr {i : Nat} {A B A' B' : zM} {P C g : Nat} {sn : Nat → Nat} (h : yNum i A B P C g sn) (h1 : ∀ s, 2 ≤ s → s ≤ 8 → zgI A' 10 i s = zgI A 10 i s) (h2 : ∀ s, s ≤ 10 → zgI A' 47 i s = zgI A 47 i s) (h3 : ∀ s, 1 ≤ s → s ≤ 8 → s ≠ 5 → zgI B' 13 0 s = zgI B 13 0 s) (h4 : ∀ s, s ≤ 10 → zgI B' 56 0 s = zgI B 56 0 s) : yNum i A' B' P C g sn := by
  unfold yNum at h ⊢
  rw [h1 2 (by omega) (by omega), h1 3 (by omega) (by omega), h1 4 (by omega) (by omega), h1 5 (by omega) (by omega), h1 6 (by omega) (by omega), h1 7 (by omega) (by omega), h1 8 (by omega) (by omega), h3 1 (by omega) (by omega) (by omega), h3 2 (by omega) (by omega) (by omega), h3 3 (by omega) (by omega) (by omega), h3 4 (by omega) (by omega) (by omega), h3 7 (by omega) (by omega) (by omega), h3 8 (by omega) (by omega) (by omega), h4 0 (by omega)]
  obtain ⟨a1, a2, a3, a4, a5, a6, a7, a8, a9, a10⟩ := h
  exact ⟨a1, a2, a3, a4, a5, a6, a7, a8, fun v v1 v2 => by rw [h2 v v2, h4 v v2]; exact a9 v v1 v2, a10⟩
theorem yDk_fr {i : Nat} {A B A' B' : zM} {P g : Nat} {sn c : Nat → Nat} {p : Nat} (h : yDk i A B P g sn c p) (h1 : ∀ s, zgI A' 46 i s = zgI A 46 i s) (h2 : ∀ s, zgI B' 55 0 s = zgI B 55 0 s) : yDk i A' B' P g sn c p := ⟨h.1, fun s hs => by rw [h1, h2]; exact h.2.1 s hs, h.2.2⟩
theorem yShoe_fr {i : Nat} {A B A' B' : zM} (h : yShoe i A B) (h1 : ∀ k s, k = 10 ∨ k = 46 ∨ k = 47 → zgI A' k i s = zgI A k i s) (h2 : ∀ k s, (k = 13 ∧ (s ≤ 8 ∨ s = 59)) ∨ k = 55 ∨ k = 56 → zgI B' k 0 s = zgI B k 0 s) : yShoe i A' B' := by
  obtain ⟨P, C, g, sn, hn, hd⟩ := h
  refine ⟨P, C, g, sn, yNum_fr hn (fun s _ _ => h1 10 s (by omega)) (fun s _ => h1 47 s (by omega)) (fun s _ _ _ => h2 13 s (by omega)) (fun s _ => h2 56 s (by omega)), ?_⟩
  rw [h1 10 9 (by omega), h2 13 5 (by omega), h2 13 59 (by omega)]
  rcases hd with hd | ⟨a, b, e, c, hc⟩
  · exact Or.inl hd
  · exact Or.inr ⟨a, b, e, c, yDk_fr hc (fun s => h1 46 s (by omega)) (fun s => h2 55 s (by omega))⟩
/-! numbers of a shoe, asked -/
theorem S108 (d i : Nat) {A B : zM} {P C g : Nat} {sn : Nat → Nat} (h : yNum i A B P C g sn) : zgo false d 108 0 [zr 10 i] [] A = some (some (zi (nI (52 * P))), A) := by
  rw [B108_0, h.2.1.1, show (52 : Int32) = nI 52 from rfl, pk_mul, Nat.mul_comm]
theorem ycd_le {P v : Nat} (h : P ≤ 8) : ycd P v ≤ 128 := by
  unfold ycd
  by_cases e : v = 10
  · rw [if_pos e]; omega
  · rw [if_neg e]; omega
def yLf (P : Nat) (sn : Nat → Nat) (v : Nat) : Nat := if v = 0 then 52 * P - sn 0 else ycd P v - sn v
theorem S112 (d i v : Nat) {A B : zM} {P C g : Nat} {sn : Nat → Nat} (h : yNum i A B P C g sn) (hv : v ≤ 10) : zgo false (d + 1) 112 0 [zr 10 i, zi (nI v)] [] A = some (some (zi (nI (yLf P sn v))), A) := by
  unfold yLf
  obtain ⟨a1, a2, a3, a4, a5, a6, a7, a8, a9, a10, a11, a12⟩ := h
  have hc := @ycd_le P v a1.1.2
  by_cases e : v = 0
  · subst e
    have e0 : nI 0 = 0 := rfl
    have e1 : nI P * 52 = nI (52 * P) := by rw [show (52 : Int32) = nI 52 from rfl, pk_mul, Nat.mul_comm]
    simp +decide only [B112_0, B112_8, B112_26, B112_39, B108_0, e0, a2.1, a8.1, e1, pk_sub (Nat.le_of_lt a12), zbsome, zpu1, zpu0, cond_true, cond_false, zib0, zib1, zib_ite, zq00, zq20, zq22, zq90, zq99, zq40, zq44, zq100, zq1010, Bool.and_true, if_true, if_false, z1ne0, not_true_eq_false, not_false_eq_true, zite10, eq_self, and_true, true_and, and_false, false_and, ↓reduceIte, Int32.reduceLT, Int32.reduceLE, Int32.reduceAdd, Int32.reduceSub, Int32.reduceMul]
  · have e0 : ¬ nI v = 0 := nI_ne0 (by omega) (by omega)
    have e1 := at47n false d i v A (by omega)
    have e2 := a9 v (by omega) hv
    have e3 := a11 v (by omega) hv
    by_cases t : v = 10
    · subst t
      have t1 : nI 10 = 10 := rfl
      have t2 : (16 : Int32) * nI P = nI (ycd P 10) := by
        rw [show (16 : Int32) = nI 16 from rfl, pk_mul]
        unfold ycd
        rw [if_pos rfl, Nat.mul_comm]
      rw [t1] at e0 e1
      simp +decide only [B112_0, B112_8, B112_26, B112_39, t1, e1, a2.1, e2.1, t2, pk_sub e3, zbsome, zpu1, zpu0, cond_true, cond_false, zib0, zib1, zib_ite, zq00, zq20, zq22, zq90, zq99, zq40, zq44, zq100, zq1010, Bool.and_true, if_true, if_false, z1ne0, not_true_eq_false, not_false_eq_true, zite10, eq_self, and_true, true_and, and_false, false_and, ↓reduceIte, Int32.reduceLT, Int32.reduceLE, Int32.reduceAdd, Int32.reduceSub, Int32.reduceMul]
    · have t1 : ¬ nI v = 10 := by
        rw [show (10 : Int32) = nI 10 from rfl, nI_eq (by omega) (by omega)]
        exact t
      have t2 : (4 : Int32) * nI P = nI (ycd P v) := by
        rw [show (4 : Int32) = nI 4 from rfl, pk_mul]
        unfold ycd
        rw [if_neg t, Nat.mul_comm]
      simp +decide only [B112_0, B112_8, B112_26, B112_39, e0, t1, e1, a2.1, e2.1, t2, pk_sub e3, if_neg e, zbsome, zpu1, zpu0, cond_true, cond_false, zib0, zib1, zib_ite, zq00, zq20, zq22, zq90, zq99, zq40, zq44, zq100, zq1010, Bool.and_true, if_true, if_false, z1ne0, not_true_eq_false, not_false_eq_true, zite10, eq_self, and_true, true_and, and_false, false_and, ↓reduceIte, Int32.reduceLT, Int32.reduceLE, Int32.reduceAdd, Int32.reduceSub, Int32.reduceMul]
theorem S197 (d i v : Nat) {A B : zM} {P C g : Nat} {sn : Nat → Nat} (h : yNum i A B P C g sn) (hv : v ≤ 10) : zgo false (d + 1) 197 0 [zr 13 0, zi (nI v)] [] B = some (some (zi (nI (yLf P sn v))), B) := by
  unfold yLf
  obtain ⟨a1, a2, a3, a4, a5, a6, a7, a8, a9, a10, a11, a12⟩ := h
  have hc := @ycd_le P v a1.1.2
  have z0 : zin 0 11 = true := rfl
  by_cases e : v = 0
  · subst e
    have e0 : nI 0 = 0 := rfl
    have e1 : 52 * nI P = nI (52 * P) := by rw [show (52 : Int32) = nI 52 from rfl, pk_mul]
    have c0 : (0 : Int32).toNatClampNeg = 0 := rfl
    simp +decide only [B197_0, B197_8, B197_23, B197_30, B195_0, e0, a2.2, a8.2, c0, e1, z0, pk_sub (Nat.le_of_lt a12), zbsome, zpu1, zpu0, cond_true, cond_false, zib0, zib1, zib_ite, zq00, zq20, zq22, zq90, zq99, zq40, zq44, zq100, zq1010, Bool.and_true, if_true, if_false, z1ne0, not_true_eq_false, not_false_eq_true, zite10, eq_self, and_true, true_and, and_false, false_and, ↓reduceIte, Int32.reduceLT, Int32.reduceLE, Int32.reduceAdd, Int32.reduceSub, Int32.reduceMul]
  · have e0 : ¬ nI v = 0 := nI_ne0 (by omega) (by omega)
    have z1 : zin (nI v) 11 = true := zin_nI (by omega) (by omega)
    have c1 : (nI v).toNatClampNeg = v := nI_clamp (by omega)
    have e2 := a9 v (by omega) hv
    have e3 := a11 v (by omega) hv
    by_cases t : v = 10
    · subst t
      have t1 : nI 10 = 10 := rfl
      have t2 : nI P * 16 = nI (ycd P 10) := by
        rw [show (16 : Int32) = nI 16 from rfl, pk_mul]
        unfold ycd
        rw [if_pos rfl]
      rw [t1] at e0 z1 c1
      simp +decide only [B197_0, B197_8, B197_23, B197_30, B196_0, B196_16, t1, z1, c1, a2.2, e2.2, t2, pk_sub e3, zbsome, zpu1, zpu0, cond_true, cond_false, zib0, zib1, zib_ite, zq00, zq20, zq22, zq90, zq99, zq40, zq44, zq100, zq1010, Bool.and_true, if_true, if_false, z1ne0, not_true_eq_false, not_false_eq_true, zite10, eq_self, and_true, true_and, and_false, false_and, ↓reduceIte, Int32.reduceLT, Int32.reduceLE, Int32.reduceAdd, Int32.reduceSub, Int32.reduceMul]
    · have t1 : ¬ nI v = 10 := by
        rw [show (10 : Int32) = nI 10 from rfl, nI_eq (by omega) (by omega)]
        exact t
      have t2 : nI P * 4 = nI (ycd P v) := by
        rw [show (4 : Int32) = nI 4 from rfl, pk_mul]
        unfold ycd
        rw [if_neg t]
      simp +decide only [B197_0, B197_8, B197_23, B197_30, B196_0, B196_16, e0, t1, z1, c1, a2.2, e2.2, t2, pk_sub e3, if_neg e, zbsome, zpu1, zpu0, cond_true, cond_false, zib0, zib1, zib_ite, zq00, zq20, zq22, zq90, zq99, zq40, zq44, zq100, zq1010, Bool.and_true, if_true, if_false, z1ne0, not_true_eq_false, not_false_eq_true, zite10, eq_self, and_true, true_and, and_false, false_and, ↓reduceIte, Int32.reduceLT, Int32.reduceLE, Int32.reduceAdd, Int32.reduceSub, Int32.reduceMul]
/-- count times 52 by all left -/
def yTc (ct : Int32) (L : Nat) : Int32 := ct * 52 / nI L
theorem S114 (d i : Nat) (u : zV) {A B : zM} {P C g : Nat} {sn : Nat → Nat} (h : yNum i A B P C g sn) : zgo false d 114 0 [zr 10 i, u] [] A = some (some (zi (yTc (zgI A 10 i 8) (yLf P sn 0))), A) := by
  obtain ⟨a1, a2, a3, a4, a5, a6, a7, a8, a9, a10, a11, a12⟩ := h
  have e1 : nI P * 52 = nI (52 * P) := by rw [show (52 : Int32) = nI 52 from rfl, pk_mul, Nat.mul_comm]
  have e2 : ¬ nI (52 * P - sn 0) ≤ 0 := nI_nle (by omega) (by omega)
  have e3 : ¬ nI (52 * P - sn 0) = 0 := nI_ne0 (by omega) (by omega)
  have e4 : yLf P sn 0 = 52 * P - sn 0 := rfl
  simp +decide only [B114_0, B114_30, a2.1, a8.1, e1, e2, e3, e4, yTc, pk_sub (Nat.le_of_lt a12), zbsome, zpu1, zpu0, cond_true, cond_false, zib0, zib1, zib_ite, zq00, zq20, zq22, zq90, zq99, zq40, zq44, zq100, zq1010, Bool.and_true, if_true, if_false, z1ne0, not_true_eq_false, not_false_eq_true, zite10, eq_self, and_true, true_and, and_false, false_and, ↓reduceIte, Int32.reduceLT, Int32.reduceLE, Int32.reduceAdd, Int32.reduceSub, Int32.reduceMul]
theorem S201 (d i : Nat) {A B : zM} {P C g : Nat} {sn : Nat → Nat} (h : yNum i A B P C g sn) : zgo false (d + 2) 201 0 [zr 13 0] [] B = some (some (zi (yTc (zgI B 13 0 8) (yLf P sn 0))), B) := by
  have e0 := S197 d i 0 h (by omega)
  have e0 : zgo false (d + 1) 197 0 [zr 13 0, zi 0] [] B = some (some (zi (nI (yLf P sn 0))), B) := e0
  have e4 : yLf P sn 0 = 52 * P - sn 0 := rfl
  have a12 := h.2.2.2.2.2.2.2.2.2.2.2
  have a1 := h.1
  have e3 : ¬ nI (yLf P sn 0) = 0 := nI_ne0 (by omega) (by omega)
  simp +decide only [B201_0, B201_5, B201_24, B201_25, e0, e3, yTc, zbsome, zpu1, zpu0, cond_true, cond_false, zib0, zib1, zib_ite, zq00, zq20, zq22, zq90, zq99, zq40, zq44, zq100, zq1010, Bool.and_true, if_true, if_false, z1ne0, not_true_eq_false, not_false_eq_true, zite10, eq_self, and_true, true_and, and_false, false_and, ↓reduceIte, Int32.reduceLT, Int32.reduceLE, Int32.reduceAdd, Int32.reduceSub, Int32.reduceMul]
/-! nothing seen -/
theorem L118 (d i : Nat) : ∀ (j k : Nat) (M : zM), k + j = 11 → ∃ M', zgo false (d + 1) 118 2 [zr 10 i, zi (nI k)] [] M = some (none, M') ∧ zFo (fun a b c => b = i ∧ (a = 47 ∨ (a = 10 ∧ (c = 7 ∨ c = 8)))) M M' ∧ zgI M' 10 i 7 = 0 ∧ zgI M' 10 i 8 = 0 ∧ ∀ t, t ≤ 10 → zgI M' 47 i t = if k ≤ t then 0 else zgI M 47 i t
  | 0, k, M, hk => by
    have hk : k = 11 := by omega
    subst hk
    refine ⟨zsI (zsI M 10 i 7 0) 10 i 8 0, ?_, zFo_sI (zFo_sI (zFo_refl _ M) ⟨rfl, Or.inr ⟨rfl, Or.inl rfl⟩⟩) ⟨rfl, Or.inr ⟨rfl, Or.inr rfl⟩⟩, by simp [zgI_sI], by simp [zgI_sI], fun t ht => ?_⟩
    · rw [B118_2, if_pos (by decide)]
    · rw [if_neg (by omega)]; rfl
  | j + 1, k, M, hk => by
    obtain ⟨M', e, f, v7, v8, v⟩ := L118 d i j (k + 1) (zsI M 47 i k 0) (by omega)
    refine ⟨M', ?_, zFo_trans (zFo_sI (zFo_refl _ M) ⟨rfl, Or.inl rfl⟩) f, v7, v8, fun t ht => ?_⟩
    · rw [B118_2, if_neg (show ¬ (10 : Int32) < nI k from nI_nlt (a := 10) (by omega) (by omega)), se47n _ _ _ _ _ _ (by omega)]
      simp +decide only [B118_17, nI_1, e, zbsome, zpu1, zpu0, cond_true, cond_false, zib0, zib1, zib_ite, zq00, zq20, zq22, zq90, zq99, zq40, zq44, zq100, zq1010, Bool.and_true, if_true, if_false, z1ne0, not_true_eq_false, not_false_eq_true, zite10, eq_self, and_true, true_and, and_false, false_and, ↓reduceIte, Int32.reduceLT, Int32.reduceLE, Int32.reduceAdd, Int32.reduceSub, Int32.reduceMul]
    · rw [v t ht, zgI_sI]
      grind
theorem L198 (d : Nat) : ∀ (j k : Nat) (M : zM), k + j = 11 → ∃ M', zgo false d 198 2 [zr 13 0, zi (nI k)] [] M = some (none, M') ∧ zFo (fun a b c => b = 0 ∧ (a = 56 ∨ (a = 13 ∧ c = 8))) M M' ∧ zgI M' 13 0 8 = 0 ∧ ∀ t, t ≤ 10 → zgI M' 56 0 t = if k ≤ t then 0 else zgI M 56 0 t
  | 0, k, M, hk => by
    have hk : k = 11 := by omega
    subst hk
    refine ⟨zsI M 13 0 8 0, ?_, zFo_sI (zFo_refl _ M) ⟨rfl, Or.inr ⟨rfl, rfl⟩⟩, by simp [zgI_sI], fun t ht => ?_⟩
    · rw [B198_2, if_pos (by decide), B198_26]
    · rw [if_neg (by omega)]; rfl
  | j + 1, k, M, hk => by
    obtain ⟨M', e, f, v8, v⟩ := L198 d j (k + 1) (zsI M 56 0 k 0) (by omega)
    refine ⟨M', ?_, zFo_trans (zFo_sI (zFo_refl _ M) ⟨rfl, Or.inl rfl⟩) f, v8, fun t ht => ?_⟩
    · rw [B198_2, if_neg (show ¬ (10 : Int32) < nI k from nI_nlt (a := 10) (by omega) (by omega)), if_pos (zin_nI (by omega) (by omega)), nI_clamp (by omega), nI_1]
      exact e
    · rw [v t ht, zgI_sI]
      grind
