/-! ===== reading a text: class and model side by side ===== -/
def yTpA (A : zM) (n : Nat) (t : Nat → Nat) : Prop := n ≤ 120 ∧ (∀ s, s < n → t s < 256) ∧ zgI A 8 0 2 = nI n ∧ ∀ s, s < n → zgI A 43 0 s = nI (t s)
def yTpB (B : zM) (n : Nat) (t : Nat → Nat) : Prop := zgI B 13 0 19 = nI n ∧ ∀ s, s < n → zgI B 62 0 s = (nI (t s)).toInt8.toInt32
def yFa (z a b c : Nat) : Prop := b = 0 ∧ ((a = 8 ∧ (c = 3 ∨ c = 4)) ∨ (a = 44 ∧ z ≤ c))
def yFb (m a b c : Nat) : Prop := b = 0 ∧ ((a = 13 ∧ 20 ≤ c ∧ c ≤ 23) ∨ ((a = 63 ∨ a = 64) ∧ 520 + m ≤ c))
def yPa (n : Nat) (t : Nat → Nat) (A B : zM) (p z m op : Nat) : Prop := (p ≤ n ∧ z ≤ p ∧ m ≤ p) ∧ zgI A 8 0 3 = nI p ∧ zgI A 8 0 4 = nI z ∧ zgI B 13 0 20 = nI p ∧ zgI B 13 0 21 = -1 ∧ zgI B 13 0 22 = nI op ∧ zgI B 13 0 23 = nI m ∧ yTpA A n t ∧ yTpB B n t
theorem yTpA_fr {A A' : zM} {n z : Nat} {t : Nat → Nat} (h : yTpA A n t) (f : zFo (yFa z) A A') : yTpA A' n t := ⟨h.1, h.2.1, ((f 8 0 2 (by unfold yFa; omega)).1).trans h.2.2.1, fun s hs => ((f 43 0 s (by unfold yFa; omega)).1).trans (h.2.2.2 s hs)⟩
theorem yTpB_fr {B B' : zM} {n m : Nat} {t : Nat → Nat} (h : yTpB B n t) (f : zFo (yFb m) B B') : yTpB B' n t := ⟨((f 13 0 19 (by unfold yFb; omega)).1).trans h.1, fun s hs => ((f 62 0 s (by unfold yFb; omega)).1).trans (h.2 s hs)⟩
def yAcc (n : Nat) (t : Nat → Nat) (A0 B0 A B : zM) (p0 z m op p : Nat) (l : List yOp) : Prop := zFo (yFa z) A0 A ∧ zFo (yFb m) B0 B ∧ p0 < p ∧ yPa n t A B p (z + l.length) (m + l.length) op ∧ l.length + p0 ≤ p ∧ yEx l ∧ ySg A 44 0 z (l.map yCc) ∧ yMg B 4 m l
def yBad (n : Nat) (t : Nat → Nat) (A0 B0 : zM) (p z m : Nat) (v : Option zV) (A B : zM) : Prop := zFo (yFa z) A0 A ∧ zFo (yFb m) B0 B ∧ ∃ q m' z' h, (v = some (zi 0) ∨ (v = some (zi 1) ∧ q < n ∧ yDg (t q))) ∧ (p ≤ q ∧ q ≤ n ∧ z ≤ z' ∧ z' + p ≤ z + q ∧ h ≤ n ∧ m ≤ m' ∧ m' + p ≤ m + q + 1) ∧ zgI A 8 0 3 = nI q ∧ zgI A 8 0 4 = nI z' ∧ zgI B 13 0 21 = nI q ∧ zgI B 13 0 20 = nI h ∧ zgI B 13 0 23 = nI m'
def yRes (n : Nat) (t : Nat → Nat) (p z m op : Nat) (A0 B0 : zM) (v : Option zV) (A : zM) (B : zM) : Prop := (v = some (zi 1) ∧ ∃ p' l, yAcc n t A0 B0 A B p z m op p' l) ∨ yBad n t A0 B0 p z m v A B
def yGood (K mc : Nat) (as : List zV) (mm : Nat) (bs : List zV) (n : Nat) (t : Nat → Nat) (op : Nat) : Prop := ∀ (dA dB p z m : Nat) (A B : zM), yPa n t A B p z m op → zRR (zgo false (dA + K) mc 0 as [] A) (zgo false (dB + K) mm 0 bs [] B) (fun v A' w B' => w = none ∧ yRes n t p z m op A B v A' B')
theorem S89y (d : Nat) {A : zM} {n p : Nat} {t : Nat → Nat} (h : yTpA A n t) (hp : zgI A 8 0 3 = nI p) (hpn : p ≤ n) : zgo false (d + 1) 89 0 [zr 8 0] [] A = some (some (zi (yS (yC n t p))), A) := by
  obtain ⟨h1, h2, h3, h4⟩ := h
  unfold yC yS
  by_cases c : p < n
  · have c' : ¬ nI n ≤ nI p := nI_ge c (by omega)
    rw [if_pos c, if_pos (h2 p c)]
    simp +decide only [B89_0, B89_22, B89_26, h3, hp, c', at43n _ _ _ _ _ (show p < 120 by omega), h4 p c, zbsome, zpu1, zpu0, cond_true, cond_false, zib0, zib1, zib_ite, zq00, zq20, zq22, zq90, zq99, zq40, zq44, zq100, zq1010, Bool.and_true, if_true, if_false, z1ne0, not_true_eq_false, not_false_eq_true, zite10, eq_self, and_true, true_and, and_false, false_and, ↓reduceIte, Int32.reduceLT, Int32.reduceLE, Int32.reduceAdd, Int32.reduceSub, Int32.reduceMul]
  · have c' : nI n ≤ nI p := nI_le (by omega) (by omega)
    rw [if_neg c, if_neg (by omega)]
    simp +decide only [B89_0, B89_22, B89_26, h3, hp, c', zbsome, zpu1, zpu0, cond_true, cond_false, zib0, zib1, zib_ite, zq00, zq20, zq22, zq90, zq99, zq40, zq44, zq100, zq1010, Bool.and_true, if_true, if_false, z1ne0, not_true_eq_false, not_false_eq_true, zite10, eq_self, and_true, true_and, and_false, false_and, ↓reduceIte, Int32.reduceLT, Int32.reduceLE, Int32.reduceAdd, Int32.reduceSub, Int32.reduceMul]
theorem S211y (d : Nat) {A B : zM} {n p : Nat} {t : Nat → Nat} (hA : yTpA A n t) (h : yTpB B n t) (hp : zgI B 13 0 20 = nI p) (hpn : p ≤ n) : zgo false d 211 0 [zr 13 0] [] B = some (some (zi (yL (yC n t p))), B) := by
  obtain ⟨h1, h2, -, -⟩ := hA
  obtain ⟨h3, h4⟩ := h
  unfold yC yL
  by_cases c : p < n
  · have c' : ¬ nI n ≤ nI p := nI_ge c (by omega)
    have z1 : zin (nI p) 120 = true := zin_nI (by omega) (by omega)
    have c1 : (nI p).toNatClampNeg = p := nI_clamp (by omega)
    rw [if_pos c, if_pos (h2 p c)]
    simp +decide only [B211_0, B211_24, h3, hp, c', z1, c1, h4 p c, zbsome, zpu1, zpu0, cond_true, cond_false, zib0, zib1, zib_ite, zq00, zq20, zq22, zq90, zq99, zq40, zq44, zq100, zq1010, Bool.and_true, if_true, if_false, z1ne0, not_true_eq_false, not_false_eq_true, zite10, eq_self, and_true, true_and, and_false, false_and, ↓reduceIte, Int32.reduceLT, Int32.reduceLE, Int32.reduceAdd, Int32.reduceSub, Int32.reduceMul]
  · have c' : nI n ≤ nI p := nI_le (by omega) (by omega)
    rw [if_neg c, if_neg (by omega)]
    simp +decide only [B211_0, B211_24, h3, hp, c', zbsome, zpu1, zpu0, cond_true, cond_false, zib0, zib1, zib_ite, zq00, zq20, zq22, zq90, zq99, zq40, zq44, zq100, zq1010, Bool.and_true, if_true, if_false, z1ne0, not_true_eq_false, not_false_eq_true, zite10, eq_self, and_true, true_and, and_false, false_and, ↓reduceIte, Int32.reduceLT, Int32.reduceLE, Int32.reduceAdd, Int32.reduceSub, Int32.reduceMul]
def yEmA (A : zM) (z : Nat) (x : Int32) : zM := zsI (zsI A 44 0 z x) 8 0 4 (nI (z + 1))
def yEmB (B : zM) (m : Nat) (a w : Int32) : zM := zsI (zsI (zsI B 63 0 (520 + m) a.toInt8.toInt32) 64 0 (520 + m) w) 13 0 23 (nI (m + 1))
theorem S92y (d : Nat) (x : Int32) {A : zM} {z : Nat} (h : zgI A 8 0 4 = nI z) (hz : z < 128) : zgo false (d + 1) 92 0 [zr 8 0, zi x] [] A = some (none, yEmA A z x) := by
  have e : zgI (zsI A 44 0 z x) 8 0 4 = nI z := h
  simp +decide only [B92_0, B92_12, h, se44n _ _ _ _ _ _ hz, e, nI_1, yEmA, zbsome, zpu1, zpu0, cond_true, cond_false, zib0, zib1, zib_ite, zq00, zq20, zq22, zq90, zq99, zq40, zq44, zq100, zq1010, Bool.and_true, if_true, if_false, z1ne0, not_true_eq_false, not_false_eq_true, zite10, eq_self, and_true, true_and, and_false, false_and, ↓reduceIte, Int32.reduceLT, Int32.reduceLE, Int32.reduceAdd, Int32.reduceSub, Int32.reduceMul]
theorem S213y (d : Nat) (a w : Int32) {B : zM} {m : Nat} (h : zgI B 13 0 23 = nI m) (hm : m < 130) : zgo false d 213 0 [zr 13 0, zi a, zi w] [] B = some (none, yEmB B m a w) := by
  have e : ∀ v, zgI (zsI B 63 0 (520 + m) v) 13 0 23 = nI m := fun _ => h
  have e2 : ∀ v w, zgI (zsI (zsI B 63 0 (520 + m) v) 64 0 (520 + m) w) 13 0 23 = nI m := fun _ _ => h
  have a1 : 520 + nI m = nI (520 + m) := by rw [show (520 : Int32) = nI 520 from rfl, nI_add]
  have z1 : zin (nI (520 + m)) 650 = true := zin_nI (by omega) (by omega)
  have c1 : (nI (520 + m)).toNatClampNeg = 520 + m := nI_clamp (by omega)
  simp +decide only [B213_0, B213_29, h, a1, z1, c1, e, e2, yB8', nI_1, yEmB, zbsome, zpu1, zpu0, cond_true, cond_false, zib0, zib1, zib_ite, zq00, zq20, zq22, zq90, zq99, zq40, zq44, zq100, zq1010, Bool.and_true, if_true, if_false, z1ne0, not_true_eq_false, not_false_eq_true, zite10, eq_self, and_true, true_and, and_false, false_and, ↓reduceIte, Int32.reduceLT, Int32.reduceLE, Int32.reduceAdd, Int32.reduceSub, Int32.reduceMul]
theorem S212y (d : Nat) {B : zM} {p : Nat} (h : zgI B 13 0 21 = -1) (hp : zgI B 13 0 20 = nI p) : zgo false d 212 0 [zr 13 0] [] B = some (none, zsI B 13 0 21 (nI p)) := by
  have c : ¬ (0 : Int32) ≤ -1 := by decide
  simp +decide only [B212_0, B212_15, h, c, hp, zbsome, zpu1, zpu0, cond_true, cond_false, zib0, zib1, zib_ite, zq00, zq20, zq22, zq90, zq99, zq40, zq44, zq100, zq1010, Bool.and_true, if_true, if_false, z1ne0, not_true_eq_false, not_false_eq_true, zite10, eq_self, and_true, true_and, and_false, false_and, ↓reduceIte, Int32.reduceLT, Int32.reduceLE, Int32.reduceAdd, Int32.reduceSub, Int32.reduceMul]
theorem yEmA_fo {A : zM} {z z0 : Nat} {x : Int32} (h : z0 ≤ z) : zFo (yFa z0) A (yEmA A z x) := zFo_sI (zFo_sI (zFo_refl _ A) ⟨rfl, Or.inr ⟨rfl, h⟩⟩) ⟨rfl, Or.inl ⟨rfl, Or.inr rfl⟩⟩
theorem yEmB_fo {B : zM} {m m0 : Nat} {a w : Int32} (h : m0 ≤ m) : zFo (yFb m0) B (yEmB B m a w) := zFo_sI (zFo_sI (zFo_sI (zFo_refl _ B) ⟨rfl, Or.inr ⟨Or.inl rfl, by omega⟩⟩) ⟨rfl, Or.inr ⟨Or.inr rfl, by omega⟩⟩) ⟨rfl, Or.inl ⟨rfl, by omega, by omega⟩⟩
theorem yFa_mono {A A' : zM} {z z0 : Nat} (h : zFo (yFa z) A A') (hz : z0 ≤ z) : zFo (yFa z0) A A' := zFo_mono h (fun a b c q => ⟨q.1, q.2.imp id (fun r => ⟨r.1, by have := r.2; omega⟩)⟩)
theorem yFb_mono {B B' : zM} {m m0 : Nat} (h : zFo (yFb m) B B') (hm : m0 ≤ m) : zFo (yFb m0) B B' := zFo_mono h (fun a b c q => ⟨q.1, q.2.imp id (fun r => ⟨r.1, by have := r.2; omega⟩)⟩)
theorem yEmA_I {A : zM} {z : Nat} {x : Int32} {k i s : Nat} (h : ¬ (k = 44 ∧ i = 0 ∧ s = z)) (h2 : ¬ (k = 8 ∧ i = 0 ∧ s = 4)) : zgI (yEmA A z x) k i s = zgI A k i s := by
  unfold yEmA
  rw [zgI_sI, if_neg h2, zgI_sI, if_neg h]
theorem yEmB_I {B : zM} {m : Nat} {a w : Int32} {k i s : Nat} (h : ¬ ((k = 63 ∨ k = 64) ∧ i = 0 ∧ s = 520 + m)) (h2 : ¬ (k = 13 ∧ i = 0 ∧ s = 23)) : zgI (yEmB B m a w) k i s = zgI B k i s := by
  unfold yEmB
  rw [zgI_sI, if_neg h2, zgI_sI, if_neg (by omega), zgI_sI, if_neg (by omega)]
/-! expressions put together -/
theorem yEx_num {n : Nat} (h : n ≤ 9999) : yEx [.inl n] := ⟨fun o ho => by rw [List.mem_singleton] at ho; subst ho; exact h, fun nm st => ⟨_, rfl⟩⟩
theorem yEx_name {k : Nat} (h : k < 12) : yEx [.inr (.inl k)] := ⟨fun o ho => by rw [List.mem_singleton] at ho; subst ho; exact h, fun nm st => ⟨_, rfl⟩⟩
theorem yEx_un {l : List yOp} {s : Nat} (h : yEx l) (hs : s = 1 ∨ s = 2) : yEx (l ++ [.inr (.inr s)]) := by
  refine ⟨fun o ho => ?_, fun nm st => ?_⟩
  · rcases List.mem_append.mp ho with ho | ho
    · exact h.1 o ho
    · rw [List.mem_singleton] at ho
      subst ho
      exact hs.elim Or.inl (fun q => Or.inr (Or.inl q))
  · obtain ⟨x, e⟩ := h.2 nm st
    rw [yEv_app, e]
    rcases hs with rfl | rfl
    · exact ⟨_, rfl⟩
    · exact ⟨_, rfl⟩
theorem yEx_bin {a b : List yOp} {s : Nat} (ha : yEx a) (hb : yEx b) (hs : ySgn s) : yEx (a ++ (b ++ [.inr (.inr s)])) := by
  refine ⟨fun o ho => ?_, fun nm st => ?_⟩
  · rcases List.mem_append.mp ho with ho | ho
    · exact ha.1 o ho
    · rcases List.mem_append.mp ho with ho | ho
      · exact hb.1 o ho
      · rw [List.mem_singleton] at ho
        subst ho
        exact Or.inr (Or.inr hs)
  · obtain ⟨x, e⟩ := ha.2 nm st
    obtain ⟨y, e2⟩ := hb.2 nm (x :: st)
    rw [yEv_app, e]
    show ∃ w, yEv nm (b ++ _) (x :: st) = _
    rw [yEv_app, e2]
    have s1 : ¬ s = 1 := by rcases hs with rfl | rfl | rfl | rfl | rfl | rfl | rfl | rfl | rfl | rfl <;> omega
    have s2 : ¬ s = 2 := by rcases hs with rfl | rfl | rfl | rfl | rfl | rfl | rfl | rfl | rfl | rfl <;> omega
    refine ⟨yJn x y s, ?_⟩
    show (yStp nm (.inr (.inr s)) (y :: x :: st)).bind _ = _
    simp only [yStp, if_neg s1, if_neg s2]
    rfl
theorem ySgn_lt {s : Nat} (h : ySgn s) : 37 ≤ s ∧ s ≤ 124 := by rcases h with rfl | rfl | rfl | rfl | rfl | rfl | rfl | rfl | rfl | rfl <;> omega
theorem yByt {s : Nat} (h : s < 128) : (nI s).toInt8.toInt32 = nI s := by rw [y8 s (by omega), if_pos h]
theorem yMa_bin {s : Nat} (h : ySgn s) : yMa (.inr (.inr s)) = nI s := by
  have := ySgn_lt h
  show (if s = 1 then _ else if s = 2 then _ else _) = _
  rw [if_neg (by omega), if_neg (by omega)]
/-- one more operation emitted by both: what is read grows by it -/
theorem yAcc_op {n : Nat} {t : Nat → Nat} {A0 B0 A B : zM} {p0 z m op p : Nat} {l : List yOp} {o : yOp} {w : Int32} (hF : zFo (yFa z) A0 A) (hG : zFo (yFb m) B0 B) (h0 : p0 < p) (hP : yPa n t A B p (z + l.length) (m + l.length) op) (hl : l.length + 1 + p0 ≤ p) (hzp : z ≤ p0 ∧ m ≤ p0) (hE : yEx (l ++ [o])) (hS : ySg A 44 0 z (l.map yCc)) (hM : yMg B 4 m l) (hw : yMa o = 1 ∨ yMa o = 2 → w = yMw o) (ha : (yMa o).toInt8.toInt32 = yMa o) : yAcc n t A0 B0 (yEmA A (z + l.length) (yCc o)) (yEmB B (m + l.length) (yMa o) w) p0 z m op p (l ++ [o]) := by
  obtain ⟨⟨a1, a2, a3⟩, b1, b2, b3, b4, b5, b6, b7, b8⟩ := hP
  have fA : zFo (yFa z) A (yEmA A (z + l.length) (yCc o)) := yEmA_fo (by omega)
  have fB : zFo (yFb m) B (yEmB B (m + l.length) (yMa o) w) := yEmB_fo (by omega)
  refine ⟨zFo_trans hF fA, zFo_trans hG fB, h0, ⟨⟨a1, by simp; omega, by simp; omega⟩, ?_, ?_, ?_, ?_, ?_, ?_, yTpA_fr b7 fA, yTpB_fr b8 fB⟩, by simp; omega, hE, ?_, ?_⟩
  · rw [yEmA_I (by omega) (by omega)]; exact b1
  · rw [List.length_append]; rfl
  · rw [yEmB_I (by omega) (by omega)]; exact b3
  · rw [yEmB_I (by omega) (by omega)]; exact b4
  · rw [yEmB_I (by omega) (by omega)]; exact b5
  · rw [List.length_append]; rfl
  · rw [List.map_append, ySg_app]
    refine ⟨ySg_fr hS (fun s s1 s2 => yEmA_I (by rw [List.length_map] at s2; omega) (by omega)), ?_, trivial⟩
    rw [List.length_map]
    unfold yEmA
    rw [zgI_sI, if_neg (by omega), zgI_sI, if_pos ⟨rfl, rfl, rfl⟩]
  · rw [yMg_app]
    refine ⟨yMg_fr hM (fun k s k1 s1 s2 => yEmB_I (by omega) (by omega)), ?_, fun q => ?_, trivial⟩
    · unfold yEmB
      rw [zgI_sI, if_neg (by omega), zgI_sI, if_neg (by omega), zgI_sI, if_pos (by omega)]
      exact ha
    · unfold yEmB
      rw [zgI_sI, if_neg (by omega), zgI_sI, if_pos (by omega)]
      exact hw q
/-- a sign that joins: behind it something is read -/
theorem yAcc_bin {n : Nat} {t : Nat → Nat} {A0 B0 A B A2 B2 : zM} {p0 z m op p p2 s : Nat} {l l2 : List yOp} (hzp : z ≤ p0 ∧ m ≤ p0) (h1 : yAcc n t A0 B0 A B p0 z m op p l) (h2 : yAcc n t (zsI A 8 0 3 (nI (p + 1))) (zsI B 13 0 20 (nI (p + 1))) A2 B2 (p + 1) (z + l.length) (m + l.length) op p2 l2) (hs : ySgn s) : yAcc n t A0 B0 (yEmA A2 (z + l.length + l2.length) (-1000 - nI s)) (yEmB B2 (m + l.length + l2.length) (nI s) 0) p0 z m op p2 (l ++ (l2 ++ [.inr (.inr s)])) := by
  obtain ⟨f1, g1, q1, P1, l1, E1, S1, M1⟩ := h1
  obtain ⟨f2, g2, q2, P2, l3, E2, S2, M2⟩ := h2
  have f3 : zFo (yFa z) A0 A2 := zFo_trans (zFo_trans f1 (zFo_sI (zFo_refl _ A) ⟨rfl, Or.inl ⟨rfl, Or.inl rfl⟩⟩)) (yFa_mono f2 (by omega))
  have g3 : zFo (yFb m) B0 B2 := zFo_trans (zFo_trans g1 (zFo_sI (zFo_refl _ B) ⟨rfl, Or.inl ⟨rfl, by omega, by omega⟩⟩)) (yFb_mono g2 (by omega))
  have hw : yMa (.inr (.inr s)) = 1 ∨ yMa (.inr (.inr s)) = 2 → (0 : Int32) = yMw (.inr (.inr s)) := fun _ => rfl
  have ha : (yMa (.inr (.inr s))).toInt8.toInt32 = yMa (.inr (.inr s)) := by
    rw [yMa_bin hs, yByt (by have := ySgn_lt hs; omega)]
  have k := yAcc_op (A0 := A0) (B0 := B0) (p0 := p0) (l := l ++ l2) (o := .inr (.inr s)) (w := 0) f3 g3 (show p0 < p2 by omega) (by rw [List.length_append, ← Nat.add_assoc, ← Nat.add_assoc]; exact P2) (by rw [List.length_append]; omega) hzp (by rw [List.append_assoc]; exact yEx_bin E1 E2 hs) (by
    rw [List.map_append, ySg_app, List.length_map]
    refine ⟨ySg_fr S1 (fun s s1 s2 => ?_), S2⟩
    rw [List.length_map] at s2
    exact (f2 44 0 s (by unfold yFa; omega)).1) (by
    rw [yMg_app]
    refine ⟨yMg_fr M1 (fun k s k1 s1 s2 => ?_), M2⟩
    rw [(g2 k 0 s (by unfold yFb; omega)).1, zgI_sI, if_neg (by omega)]) hw ha
  rw [yMa_bin hs, List.length_append, ← Nat.add_assoc, ← Nat.add_assoc, List.append_assoc] at k
  exact k
/-- a sign that joins: behind it what is read is wrong -/
theorem yBad_bin {n : Nat} {t : Nat → Nat} {A0 B0 A B A2 B2 : zM} {p0 z m op p : Nat} {l : List yOp} {v : Option zV} (hn : n ≤ 120) (hzp : z ≤ p0 ∧ m ≤ p0) (h1 : yAcc n t A0 B0 A B p0 z m op p l) (h2 : yBad n t (zsI A 8 0 3 (nI (p + 1))) (zsI B 13 0 20 (nI (p + 1))) (p + 1) (z + l.length) (m + l.length) v A2 B2) : ∃ m' z' q, zgI B2 13 0 23 = nI m' ∧ m' < 130 ∧ zgI A2 8 0 4 = nI z' ∧ z' < 128 ∧ zgI A2 8 0 3 = nI q ∧ zgI B2 13 0 21 = nI q ∧ q ≤ n ∧ ((v = some (zi 0) ∧ ∀ a w, yBad n t A0 B0 p0 z m (some (zi 0)) A2 (yEmB B2 m' a w)) ∨ (v = some (zi 1) ∧ q < n ∧ yDg (t q) ∧ ∀ a w x, yBad n t A0 B0 p0 z m (some (zi 1)) (yEmA A2 z' x) (yEmB B2 m' a w))) := by
  obtain ⟨f1, g1, q1, P1, l1, E1, S1, M1⟩ := h1
  obtain ⟨f2, g2, q, m', z', h, hv, ⟨c1, c2, c3, c4, c5, c6, c7⟩, d1, d2, d3, d4, d5⟩ := h2
  have f3 : zFo (yFa z) A0 A2 := zFo_trans (zFo_trans f1 (zFo_sI (zFo_refl _ A) ⟨rfl, Or.inl ⟨rfl, Or.inl rfl⟩⟩)) (yFa_mono f2 (by omega))
  have g3 : zFo (yFb m) B0 B2 := zFo_trans (zFo_trans g1 (zFo_sI (zFo_refl _ B) ⟨rfl, Or.inl ⟨rfl, by omega, by omega⟩⟩)) (yFb_mono g2 (by omega))
  refine ⟨m', z', q, d5, by omega, d2, by omega, d1, d3, c2, ?_⟩
  have B' : ∀ a w, zgI (yEmB B2 m' a w) 13 0 21 = nI q ∧ zgI (yEmB B2 m' a w) 13 0 20 = nI h ∧ zgI (yEmB B2 m' a w) 13 0 23 = nI (m' + 1) := fun a w => ⟨by rw [yEmB_I (by omega) (by omega)]; exact d3, by rw [yEmB_I (by omega) (by omega)]; exact d4, rfl⟩
  rcases hv with hv | ⟨hv, hq, hd⟩
  · exact Or.inl ⟨hv, fun a w => ⟨f3, zFo_trans g3 (yEmB_fo (by omega)), q, m' + 1, z', h, Or.inl rfl, ⟨by omega, c2, by omega, by omega, c5, by omega, by omega⟩, d1, d2, (B' a w).1, (B' a w).2.1, (B' a w).2.2⟩⟩
  · refine Or.inr ⟨hv, hq, hd, fun a w x => ⟨zFo_trans f3 (yEmA_fo (by omega)), zFo_trans g3 (yEmB_fo (by omega)), q, m' + 1, z' + 1, h, Or.inr ⟨rfl, hq, hd⟩, ⟨by omega, c2, by omega, by omega, c5, by omega, by omega⟩, ?_, rfl, (B' a w).1, (B' a w).2.1, (B' a w).2.2⟩⟩
    rw [yEmA_I (by omega) (by omega)]
    exact d1
theorem yPa_next {n : Nat} {t : Nat → Nat} {A B : zM} {p z m op : Nat} (h : yPa n t A B p z m op) (hp : p < n) : yPa n t (zsI A 8 0 3 (nI (p + 1))) (zsI B 13 0 20 (nI (p + 1))) (p + 1) z m op := by
  obtain ⟨⟨a1, a2, a3⟩, b1, b2, b3, b4, b5, b6, b7, b8⟩ := h
  exact ⟨⟨by omega, by omega, by omega⟩, rfl, b2, rfl, b4, b5, b6, b7, b8⟩
