/-! ===== reading a text: lines ===== -/
theorem yLv5 {n : Nat} {t : Nat → Nat} {op K : Nat} (sub : yGood K 86 [zr 8 0, zi (nI op), zu] 217 [zr 13 0, zu] n t op) : yGood (K + 1) 85 [zr 8 0, zi 5, zi (nI op), zu, zu, zu] 217 [zr 13 0, zu] n t op := by
  intro dA dB p z m A B P
  obtain ⟨⟨v, A1⟩, ⟨w, B1⟩, e1, e2, hw, r⟩ := sub dA (dB + 1) p z m A B P
  have e1 : zgo false (dA + K) 86 0 [zr 8 0, zi (nI op), zu] [] A = some (v, A1) := e1
  have e2 : zgo false (dB + (K + 1)) 217 0 [zr 13 0, zu] [] B = some (w, B1) := by
    rw [show dB + (K + 1) = dB + 1 + K by omega]
    exact e2
  refine ⟨(v, A1), (w, B1), ?_, e2, hw, r⟩
  have k : zgo false (dA + (K + 1)) 85 0 [zr 8 0, zi 5, zi (nI op), zu, zu, zu] [] A = zgo false (dA + K + 1) 85 10 [zr 8 0, zi 5, zi (nI op), zu, zu, zu] (zpush v []) A1 := by
    show zgo false (dA + K + 1) 85 0 _ _ _ = _
    rw [B85_0, if_neg (by decide), e1]
    rfl
  rw [k]
  rcases r with ⟨hv, -⟩ | ⟨-, -, q, m', z', h, hv | ⟨hv, -⟩, -⟩
  · have hv : v = some (zi 1) := hv
    subst hv
    simp +decide only [B85_10, zbsome, zpu1, zpu0, cond_true, cond_false, zib0, zib1, zib_ite, zq00, zq20, zq22, zq90, zq99, zq40, zq44, zq100, zq1010, Bool.and_true, if_true, if_false, z1ne0, not_true_eq_false, not_false_eq_true, zite10, eq_self, and_true, true_and, and_false, false_and, ↓reduceIte, Int32.reduceLT, Int32.reduceLE, Int32.reduceAdd, Int32.reduceSub, Int32.reduceMul]
  · have hv : v = some (zi 0) := hv
    subst hv
    simp +decide only [B85_10, zbsome, zpu1, zpu0, cond_true, cond_false, zib0, zib1, zib_ite, zq00, zq20, zq22, zq90, zq99, zq40, zq44, zq100, zq1010, Bool.and_true, if_true, if_false, z1ne0, not_true_eq_false, not_false_eq_true, zite10, eq_self, and_true, true_and, and_false, false_and, ↓reduceIte, Int32.reduceLT, Int32.reduceLE, Int32.reduceAdd, Int32.reduceSub, Int32.reduceMul]
  · have hv : v = some (zi 1) := hv
    subst hv
    simp +decide only [B85_10, zbsome, zpu1, zpu0, cond_true, cond_false, zib0, zib1, zib_ite, zq00, zq20, zq22, zq90, zq99, zq40, zq44, zq100, zq1010, Bool.and_true, if_true, if_false, z1ne0, not_true_eq_false, not_false_eq_true, zite10, eq_self, and_true, true_and, and_false, false_and, ↓reduceIte, Int32.reduceLT, Int32.reduceLE, Int32.reduceAdd, Int32.reduceSub, Int32.reduceMul]
theorem yLvs {n : Nat} {t : Nat → Nat} {op K : Nat} (sub : yGood K 86 [zr 8 0, zi (nI op), zu] 217 [zr 13 0, zu] n t op) : yGood (K + 6) 85 [zr 8 0, zi 0, zi (nI op), zu, zu, zu] 222 [zr 13 0] n t op := yLv0 (yLv1 (yLv2 (yLv3 (yLv4 (yLv5 sub)))))
theorem yOps {n : Nat} {t : Nat → Nat} : ∀ (r op : Nat), op + r = 6 → yGood (8 * r + 6) 86 [zr 8 0, zi (nI op), zu] 217 [zr 13 0, zu] n t op
  | 0, op, h => by
    have h : op = 6 := h
    subst h
    exact yOpr (K := 0) (by omega) (fun q => absurd q (by omega)) (fun q => absurd q (by omega))
  | r + 1, op, h => by
    have ih := yOps (n := n) (t := t) r (op + 1) (by omega)
    exact yOpr (K := 8 * r + 8) (by omega) (fun _ => yLvs ih) (fun _ => yGood_w (j := 7) ih)
theorem yExpr (n : Nat) (t : Nat → Nat) : yGood 60 85 [zr 8 0, zi 0, zi 0, zu, zu, zu] 222 [zr 13 0] n t 0 := yLvs (yOps 6 0 rfl)
/-! lines -/
def yGa (a b c : Nat) : Prop := b = 0 ∧ ((a = 8 ∧ (c = 3 ∨ c = 4)) ∨ a = 44)
def yGb (a b c : Nat) : Prop := b = 0 ∧ ((a = 13 ∧ 20 ≤ c ∧ c ≤ 23) ∨ ((a = 63 ∨ a = 64) ∧ 520 ≤ c) ∨ (a = 65 ∧ c = 4) ∨ ((a = 66 ∨ a = 67) ∧ 244 ≤ c))
theorem yGa_of {z : Nat} {A A' : zM} (h : zFo (yFa z) A A') : zFo yGa A A' := zFo_mono h (fun a b c q => ⟨q.1, q.2.imp id (fun r => r.1)⟩)
theorem yGb_of {m : Nat} {B B' : zM} (h : zFo (yFb m) B B') : zFo yGb B B' := zFo_mono h (fun a b c q => ⟨q.1, q.2.imp id (fun r => Or.inl ⟨r.1, by have := r.2; omega⟩)⟩)
theorem yTpA_g {A A' : zM} {n : Nat} {t : Nat → Nat} (h : yTpA A n t) (f : zFo yGa A A') : yTpA A' n t := ⟨h.1, h.2.1, ((f 8 0 2 (by unfold yGa; omega)).1).trans h.2.2.1, fun s hs => ((f 43 0 s (by unfold yGa; omega)).1).trans (h.2.2.2 s hs)⟩
theorem yTpB_g {B B' : zM} {n : Nat} {t : Nat → Nat} (h : yTpB B n t) (f : zFo yGb B B') : yTpB B' n t := ⟨((f 13 0 19 (by unfold yGb; omega)).1).trans h.1, fun s hs => ((f 62 0 s (by unfold yGb; omega)).1).trans (h.2 s hs)⟩
theorem yFl_app : ∀ (a b : List (List yOp × List yOp)), yFl (a ++ b) = yFl a ++ yFl b
  | [], b => rfl
  | q :: r, b => by
    show yFl1 q ++ yFl (r ++ b) = (yFl1 q ++ yFl r) ++ yFl b
    rw [yFl_app r b, List.append_assoc]
theorem yTl_app : ∀ (a b : List (List yOp × List yOp)), yTl (a ++ b) = yTl a + yTl b
  | [], b => (Nat.zero_add _).symm
  | q :: r, b => by
    show q.1.length + q.2.length + yTl (r ++ b) = q.1.length + q.2.length + yTl r + yTl b
    rw [yTl_app r b]
    omega
theorem yMl_app {M : zM} {p : Nat} : ∀ {a b : List (List yOp × List yOp)} {li f : Nat}, yMl M p li f (a ++ b) ↔ yMl M p li f a ∧ yMl M p (li + a.length) (f + yTl a) b
  | [], b, li, f => by
    show yMl M p li f b ↔ True ∧ yMl M p (li + 0) (f + 0) b
    simp
  | q :: r, b, li, f => by
    show (_ ∧ _ ∧ _ ∧ yMl M p (li + 1) (f + q.1.length + q.2.length) (r ++ b)) ↔ (_ ∧ _ ∧ _ ∧ yMl M p (li + 1) (f + q.1.length + q.2.length) r) ∧ yMl M p (li + (r.length + 1)) (f + (q.1.length + q.2.length + yTl r)) b
    rw [yMl_app (a := r), show li + 1 + r.length = li + (r.length + 1) by omega, show f + q.1.length + q.2.length + yTl r = f + (q.1.length + q.2.length + yTl r) by omega]
    simp only [and_assoc]
theorem yMl_lo {M M' : zM} {p : Nat} : ∀ {T : List (List yOp × List yOp)} {li f : Nat}, yMl M p li f T → (∀ k s, (k = 66 ∨ k = 67) → 61 * p + li ≤ s → s < 61 * p + li + T.length → zgI M' k 0 s = zgI M k 0 s) → (∀ k s, (k = 63 ∨ k = 64) → 130 * p + f ≤ s → s < 130 * p + f + yTl T → zgI M' k 0 s = zgI M k 0 s) → yMl M' p li f T
  | [], _, _, _, _, _ => trivial
  | q :: r, li, f, h, e1, e2 => by
    have l1 : (q :: r).length = r.length + 1 := rfl
    have l2 : yTl (q :: r) = q.1.length + q.2.length + yTl r := rfl
    exact ⟨(e1 66 _ (by omega) (by omega) (by omega)).trans h.1, (e1 67 _ (by omega) (by omega) (by omega)).trans h.2.1, yMg_fr h.2.2.1 (fun k s k1 s1 s2 => e2 k s k1 (by omega) (by rw [List.length_append] at s2; omega)), yMl_lo h.2.2.2 (fun k s k1 s1 s2 => e1 k s k1 (by omega) (by omega)) (fun k s k1 s1 s2 => e2 k s k1 (by omega) (by omega))⟩
theorem y16 : ∀ m, m < 131 → (nI m).toInt16.toInt32 = nI m := by decide +kernel
/-- lines T are read; p is where both stand; e bounds what is written -/
def yRe (n : Nat) (t : Nat → Nat) (A B : zM) (p e : Nat) (T : List (List yOp × List yOp)) : Prop := (p ≤ n ∧ (yFl T).length ≤ e ∧ yTl T ≤ p ∧ 2 * T.length ≤ e) ∧ zgI A 8 0 3 = nI p ∧ zgI A 8 0 4 = nI (yFl T).length ∧ zgI B 13 0 20 = nI p ∧ zgI B 13 0 21 = -1 ∧ zgI B 13 0 22 = 0 ∧ zgI B 13 0 23 = nI (yTl T) ∧ yTpA A n t ∧ yTpB B n t ∧ ySg A 44 0 0 (yFl T) ∧ yMl B 4 0 0 T ∧ zgI B 65 0 4 = nI T.length ∧ yWT T ∧ yLn T
def yNo (n : Nat) (t : Nat → Nat) (v : Option zV) (A B : zM) : Prop := ∃ q h, (v = some (zi 0) ∨ (v = some (zi 1) ∧ q < n ∧ yDg (t q))) ∧ q ≤ n ∧ h ≤ n ∧ zgI A 8 0 3 = nI q ∧ zgI B 13 0 21 = nI q ∧ zgI B 13 0 20 = nI h
theorem yEx_ne {l : List yOp} (h : yEx l) : ¬ l = [] := by
  rintro rfl
  obtain ⟨x, e⟩ := h.2 (fun _ => 0) []
  cases e
/-- a line, of both -/
theorem yLine {n : Nat} {t : Nat → Nat} (dA dB p : Nat) (A B : zM) (T : List (List yOp × List yOp)) (u : zV) (R : yRe n t A B p p T) : ∃ (v : Option zV) (A' B' : zM), zgo false (dA + 61) 84 0 [zr 8 0] [] A = some (v, A') ∧ zgo false (dB + 61) 223 0 [zr 13 0, u] [] B = some (none, B') ∧ zFo yGa A A' ∧ zFo yGb B B' ∧ ((v = some (zi 1) ∧ ∃ q p', p < p' ∧ yRe n t A' B' p' (p' + 1) (T ++ [q])) ∨ yNo n t v A' B') := by
  obtain ⟨⟨a1, a2, a3, a4⟩, b1, b2, b3, b4, b5, b6, hT, hU, hS, hM, b7, hW, hN⟩ := R
  have hn := hT.1
  have zi45 : zin 4 5 = true := rfl
  have c4 : (4 : Int32).toNatClampNeg = 4 := rfl
  have hx : (244 : Int32) + nI T.length = nI (244 + T.length) := by rw [show (244 : Int32) = nI 244 from rfl, nI_add]
  have zx : zin (nI (244 + T.length)) 305 = true := zin_nI (by omega) (by omega)
  have cx : (nI (244 + T.length)).toNatClampNeg = 244 + T.length := nI_clamp (by omega)
  have h16 := fun m (h : m < 131) => y16 m h
  let B1 := zsI B 66 0 (244 + T.length) (nI (yTl T))
  have fB1 : zFo yGb B B1 := zFo_sI (zFo_refl _ B) ⟨rfl, by omega⟩
  have P1 : yPa n t A B1 p (yFl T).length (yTl T) 0 := ⟨⟨a1, a2, a3⟩, b1, b2, b3, b4, b5, b6, hT, yTpB_g hU fB1⟩
  have m0 : zgo false (dB + 61) 223 0 [zr 13 0, u] [] B = (zgo false (dB + 60) 222 0 [zr 13 0] [] B1).bind fun q => zgo false (dB + 61) 223 26 [zr 13 0, zi (nI (244 + T.length))] (zpush q.1 []) q.2 := by
    simp +decide only [B223_0, B223_22, zi45, c4, b7, hx, zx, cx, b6, h16 _ (show yTl T < 131 by omega), zbsome, zpu1, zpu0, cond_true, cond_false, zib0, zib1, zib_ite, zq00, zq20, zq22, zq90, zq99, zq40, zq44, zq100, zq1010, Bool.and_true, if_true, if_false, z1ne0, not_true_eq_false, not_false_eq_true, zite10, eq_self, and_true, true_and, and_false, false_and, ↓reduceIte, Int32.reduceLT, Int32.reduceLE, Int32.reduceAdd, Int32.reduceSub, Int32.reduceMul]
    rfl
  -- what the model writes at a line's end
  have fin : ∀ (C : zM) (m : Nat), m < 131 → zgI C 13 0 23 = nI m → zgI C 65 0 4 = nI T.length → zgo false (dB + 61) 223 67 [zr 13 0, zi (nI (244 + T.length))] [] C = some (none, zsI (zsI C 67 0 (244 + T.length) (nI m)) 65 0 4 (nI (T.length + 1))) := by
    intro C m hm h1 h2
    have h2' : zgI (zsI C 67 0 (244 + T.length) (nI m)) 65 0 4 = nI T.length := h2
    simp +decide only [B223_67, B223_88, zi45, c4, zx, cx, h1, h16 m hm, h2', nI_1, zbsome, zpu1, zpu0, cond_true, cond_false, zib0, zib1, zib_ite, zq00, zq20, zq22, zq90, zq99, zq40, zq44, zq100, zq1010, Bool.and_true, if_true, if_false, z1ne0, not_true_eq_false, not_false_eq_true, zite10, eq_self, and_true, true_and, and_false, false_and, ↓reduceIte, Int32.reduceLT, Int32.reduceLE, Int32.reduceAdd, Int32.reduceSub, Int32.reduceMul]
  have finB : ∀ (C : zM) (m : Nat), zFo yGb C (zsI (zsI C 67 0 (244 + T.length) (nI m)) 65 0 4 (nI (T.length + 1))) := fun C m => zFo_sI (zFo_sI (zFo_refl _ C) ⟨rfl, by omega⟩) ⟨rfl, by omega⟩
  -- what the class writes there
  have cfin : ∀ (C : zM) (z : Nat), z < 128 → zgI C 8 0 4 = nI z → zgo false (dA + 61) 84 48 [zr 8 0] [] C = some (some (zi 1), yEmA C z yEnd) := by
    intro C z hz h1
    simp +decide only [B84_48, B84_55, S92y _ _ h1 hz, zbsome, zpu1, zpu0, cond_true, cond_false, zib0, zib1, zib_ite, zq00, zq20, zq22, zq90, zq99, zq40, zq44, zq100, zq1010, Bool.and_true, if_true, if_false, z1ne0, not_true_eq_false, not_false_eq_true, zite10, eq_self, and_true, true_and, and_false, false_and, ↓reduceIte, Int32.reduceLT, Int32.reduceLE, Int32.reduceAdd, Int32.reduceSub, Int32.reduceMul]
    rfl
  have gEm : ∀ (C : zM) (z : Nat) (x : Int32), zFo yGa C (yEmA C z x) := fun C z x => zFo_sI (zFo_sI (zFo_refl _ C) ⟨rfl, Or.inr rfl⟩) ⟨rfl, Or.inl ⟨rfl, Or.inr rfl⟩⟩
  -- the bad end, of a first or a second part
  have bad : ∀ (A0 B0 C D : zM) (p0 z0 m0 : Nat) (v : Option zV), z0 ≤ p0 + 1 → m0 ≤ p0 → zgI D 65 0 4 = nI T.length → yBad n t A0 B0 p0 z0 m0 v C D → yTpA C n t → ∃ (v' : Option zV) (A' B' : zM), ((zgo false (dA + 61) 84 6 [zr 8 0] (zpush v []) C = some (v', A') ∧ zgo false (dA + 61) 84 43 [zr 8 0] (zpush v []) C = some (v', A')) ∧ zgo false (dB + 61) 223 26 [zr 13 0, zi (nI (244 + T.length))] [] D = some (none, B') ∧ zgo false (dB + 61) 223 67 [zr 13 0, zi (nI (244 + T.length))] [] D = some (none, B')) ∧ zFo yGa C A' ∧ zFo yGb D B' ∧ yNo n t v' A' B' := by
    intro A0 B0 C D p0 z0 m0 v hz hm hd hb hC
    obtain ⟨f1, g1, q, m', z', h, hv, ⟨c1, c2, c3, c4, c5, c6, c7⟩, d1, d2, d3, d4, d5⟩ := hb
    have k1 := fin D m' (by omega) d5 hd
    have k2 : zgo false (dB + 61) 223 26 [zr 13 0, zi (nI (244 + T.length))] [] D = zgo false (dB + 61) 223 67 [zr 13 0, zi (nI (244 + T.length))] [] D := by
      rw [B223_26, d3, if_pos (yPos0 (by omega))]
    rcases hv with hv | ⟨hv, hq, hdq⟩
    · have hv : v = some (zi 0) := hv
      subst hv
      refine ⟨some (zi 0), C, _, ⟨⟨?_, ?_⟩, k2.trans k1, k1⟩, zFo_refl _ C, finB D m', q, h, Or.inl rfl, c2, c5, d1, d3, d4⟩
      · simp +decide only [B84_6, zbsome, zpu1, zpu0, cond_true, cond_false, zib0, zib1, zib_ite, zq00, zq20, zq22, zq90, zq99, zq40, zq44, zq100, zq1010, Bool.and_true, if_true, if_false, z1ne0, not_true_eq_false, not_false_eq_true, zite10, eq_self, and_true, true_and, and_false, false_and, ↓reduceIte, Int32.reduceLT, Int32.reduceLE, Int32.reduceAdd, Int32.reduceSub, Int32.reduceMul]
      · simp +decide only [B84_43, zbsome, zpu1, zpu0, cond_true, cond_false, zib0, zib1, zib_ite, zq00, zq20, zq22, zq90, zq99, zq40, zq44, zq100, zq1010, Bool.and_true, if_true, if_false, z1ne0, not_true_eq_false, not_false_eq_true, zite10, eq_self, and_true, true_and, and_false, false_and, ↓reduceIte, Int32.reduceLT, Int32.reduceLE, Int32.reduceAdd, Int32.reduceSub, Int32.reduceMul]
    · have hv : v = some (zi 1) := hv
      subst hv
      have hcq := yC_eq (t := t) hq
      unfold yDg at hdq
      have hc2 : yC n t q ≤ 256 := yC_le hT.2.1 q
      have kz := cfin C z' (by omega) d2
      refine ⟨some (zi 1), yEmA C z' yEnd, _, ⟨⟨?_, ?_⟩, k2.trans k1, k1⟩, gEm C z' yEnd, finB D m', q, h, Or.inr ⟨rfl, hq, hdq⟩, c2, c5, ?_, d3, d4⟩
      · simp +decide only [B84_6, B84_15, S89y _ hC d1 c2, yS63 hc2, show ¬ yC n t q = 63 by omega, zbsome, zpu1, zpu0, cond_true, cond_false, zib0, zib1, zib_ite, zq00, zq20, zq22, zq90, zq99, zq40, zq44, zq100, zq1010, Bool.and_true, if_true, if_false, z1ne0, not_true_eq_false, not_false_eq_true, zite10, eq_self, and_true, true_and, and_false, false_and, ↓reduceIte, Int32.reduceLT, Int32.reduceLE, Int32.reduceAdd, Int32.reduceSub, Int32.reduceMul]
        exact kz
      · simp +decide only [B84_43, zbsome, zpu1, zpu0, cond_true, cond_false, zib0, zib1, zib_ite, zq00, zq20, zq22, zq90, zq99, zq40, zq44, zq100, zq1010, Bool.and_true, if_true, if_false, z1ne0, not_true_eq_false, not_false_eq_true, zite10, eq_self, and_true, true_and, and_false, false_and, ↓reduceIte, Int32.reduceLT, Int32.reduceLE, Int32.reduceAdd, Int32.reduceSub, Int32.reduceMul]
        exact kz
      · rw [yEmA_I (by omega) (by omega)]
        exact d1
  obtain ⟨⟨v, A2⟩, ⟨w, B2⟩, e1, e2, hw, r⟩ := yExpr n t dA dB p _ _ _ _ P1
  have hw : w = none := hw
  subst hw
  have e1 : zgo false (dA + 60) 85 0 [zr 8 0, zi 0, zi 0, zu, zu, zu] [] A = some (v, A2) := e1
  have e2 : zgo false (dB + 60) 222 0 [zr 13 0] [] B1 = some (none, B2) := e2
  have c0 : zgo false (dA + 61) 84 0 [zr 8 0] [] A = zgo false (dA + 61) 84 6 [zr 8 0] (zpush v []) A2 := by
    rw [B84_0, e1]
    rfl
  rw [c0, m0, e2, zbsome]
  rcases r with ⟨hv, p1, l, acc⟩ | hb
  case inr =>
    have f1 := hb.1
    have g1 := hb.2.1
    obtain ⟨v', A', B', ⟨⟨k1, -⟩, k3, -⟩, f, g, no⟩ := bad A B1 A2 B2 p (yFl T).length (yTl T) v (by omega) a3 (((g1 65 0 4 (by unfold yFb; omega)).1).trans b7) hb (yTpA_fr hT f1)
    exact ⟨v', A', B', k1, k3, zFo_trans (yGa_of f1) f, zFo_trans fB1 (zFo_trans (yGb_of g1) g), Or.inr no⟩
  have hv : v = some (zi 1) := hv
  subst hv
  obtain ⟨f1, g1, q1, P2, l1, E, Sg, Mg⟩ := acc
  have P2' := P2
  obtain ⟨⟨g1', g2', g3'⟩, h1, h2, h3, h4, h5, h6, h7, h8⟩ := P2
  have hc : yC n t p1 ≤ 256 := yC_le hT.2.1 p1
  have hc1 := fun d => S89y d h7 h1 g1'
  have hl1 := fun d => S211y d h7 h8 h3 g1'
  have b7' : zgI B2 65 0 4 = nI T.length := ((g1 65 0 4 (by unfold yFb; omega)).1).trans b7
  have hS2 : ySg A2 44 0 0 (yFl T) := ySg_fr hS (fun s s1 s2 => (f1 44 0 s (by unfold yFa; omega)).1)
  have hM2 : yMl B2 4 0 0 T := yMl_lo hM (fun k s k1 s1 s2 => by
    rw [(g1 k 0 s (by unfold yFb; omega)).1, zgI_sI, if_neg (by omega)]) (fun k s k1 s1 s2 => by
    rw [(g1 k 0 s (by unfold yFb; omega)).1, zgI_sI, if_neg (by omega)])
  have h66 : zgI B2 66 0 (244 + T.length) = nI (yTl T) := by
    rw [(g1 66 0 _ (by unfold yFb; omega)).1, zgI_sI, if_pos ⟨rfl, rfl, rfl⟩]
  have no0 : ¬ (0 : Int32) ≤ -1 := by decide
  have lenT : ∀ q : List yOp × List yOp, (T ++ [q]).length = T.length + 1 := fun q => by rw [List.length_append]; rfl
  have tlT : ∀ q : List yOp × List yOp, yTl (T ++ [q]) = yTl T + (q.1.length + q.2.length) := fun q => by rw [yTl_app]; rfl
  have flT : ∀ q : List yOp × List yOp, yFl (T ++ [q]) = yFl T ++ yFl1 q := fun q => by
    rw [yFl_app]
    show yFl T ++ (yFl1 q ++ []) = _
    rw [List.append_nil]
  by_cases h63 : yC n t p1 = 63
  case neg =>
    have kc : zgo false (dA + 61) 84 6 [zr 8 0] (zpush (some (zi 1)) []) A2 = some (some (zi 1), yEmA A2 ((yFl T).length + l.length) yEnd) := by
      simp +decide only [B84_6, B84_15, hc1, yS63 hc, h63, zbsome, zpu1, zpu0, cond_true, cond_false, zib0, zib1, zib_ite, zq00, zq20, zq22, zq90, zq99, zq40, zq44, zq100, zq1010, Bool.and_true, if_true, if_false, z1ne0, not_true_eq_false, not_false_eq_true, zite10, eq_self, and_true, true_and, and_false, false_and, ↓reduceIte, Int32.reduceLT, Int32.reduceLE, Int32.reduceAdd, Int32.reduceSub, Int32.reduceMul]
      exact cfin A2 _ (by omega) h2
    have km : zgo false (dB + 61) 223 26 [zr 13 0, zi (nI (244 + T.length))] (zpush none []) B2 = some (none, zsI (zsI B2 67 0 (244 + T.length) (nI (yTl T + l.length))) 65 0 4 (nI (T.length + 1))) := by
      have : zgo false (dB + 61) 223 26 [zr 13 0, zi (nI (244 + T.length))] (zpush none []) B2 = zgo false (dB + 61) 223 67 [zr 13 0, zi (nI (244 + T.length))] [] B2 := by
        simp +decide only [B223_26, B223_37, h4, no0, hl1, yL63 hc, h63, zbsome, zpu1, zpu0, cond_true, cond_false, zib0, zib1, zib_ite, zq00, zq20, zq22, zq90, zq99, zq40, zq44, zq100, zq1010, Bool.and_true, if_true, if_false, z1ne0, not_true_eq_false, not_false_eq_true, zite10, eq_self, and_true, true_and, and_false, false_and, ↓reduceIte, Int32.reduceLT, Int32.reduceLE, Int32.reduceAdd, Int32.reduceSub, Int32.reduceMul]
      rw [this]
      exact fin B2 _ (by omega) h6 b7'
    have fq : yFl1 ([], l) = l.map yCc ++ [yEnd] := rfl
    refine ⟨some (zi 1), _, _, kc, km, zFo_trans (yGa_of f1) (gEm _ _ _), zFo_trans fB1 (zFo_trans (yGb_of g1) (finB _ _)), Or.inl ⟨rfl, ([], l), p1, q1, ?_⟩⟩
    have fl : (yFl (T ++ [([], l)])).length = (yFl T).length + l.length + 1 := by
      rw [flT, fq, List.length_append, List.length_append, List.length_map]
      show _ + (_ + 1) = _
      omega
    refine ⟨⟨g1', by omega, by rw [tlT]; simp; omega, by rw [lenT]; omega⟩, ?_, ?_, h3, h4, h5, ?_, yTpA_g h7 (gEm _ _ _), yTpB_g h8 (finB _ _), ?_, ?_, ?_, ?_, ?_⟩
    · rw [yEmA_I (by omega) (by omega)]
      exact h1
    · rw [fl]
      rfl
    · rw [tlT]
      show zgI B2 13 0 23 = nI (yTl T + (0 + l.length))
      rw [Nat.zero_add]
      exact h6
    · rw [flT, ySg_app, fq, ySg_app]
      refine ⟨ySg_fr hS2 (fun s s1 s2 => yEmA_I (by omega) (by omega)), ySg_fr (by rw [Nat.zero_add]; exact Sg) (fun s s1 s2 => yEmA_I (by rw [List.length_map] at s2; omega) (by omega)), ?_, trivial⟩
      rw [List.length_map, Nat.zero_add]
      unfold yEmA
      rw [zgI_sI, if_neg (by omega), zgI_sI, if_pos ⟨rfl, rfl, rfl⟩]
    · rw [yMl_app]
      refine ⟨yMl_lo hM2 (fun k s k1 s1 s2 => by rw [zgI_sI, if_neg (by omega), zgI_sI, if_neg (by omega)]) (fun k s k1 s1 s2 => by rw [zgI_sI, if_neg (by omega), zgI_sI, if_neg (by omega)]), ?_, ?_, ?_, trivial⟩
      · rw [zgI_sI, if_neg (by omega), zgI_sI, if_neg (by omega)]
        show zgI B2 66 0 (244 + (0 + T.length)) = nI (0 + yTl T + 0)
        rw [Nat.zero_add, Nat.zero_add]
        exact h66
      · rw [zgI_sI, if_neg (by omega), zgI_sI, if_pos ⟨rfl, rfl, by omega⟩]
        show nI (yTl T + l.length) = nI (0 + yTl T + 0 + l.length)
        congr 1
        omega
      · rw [Nat.zero_add]
        exact yMg_fr Mg (fun k s k1 s1 s2 => by rw [zgI_sI, if_neg (by omega), zgI_sI, if_neg (by omega)])
    · rw [lenT]
      rfl
    · intro q hq
      rcases List.mem_append.mp hq with hq | hq
      · exact hW q hq
      · rw [List.mem_singleton] at hq
        subst hq
        exact ⟨Or.inl rfl, E⟩
    · intro q hq
      rcases List.mem_append.mp hq with hq | hq
      · exact hN q hq
      · rw [List.mem_singleton] at hq
        subst hq
        exact ⟨Nat.zero_le _, by show l.length ≤ 120; omega⟩
  -- a condition; what is to be done then
  have hpn : p1 < n := yC_lt (t := t) (by omega)
  let A3 := yEmA (zsI A2 8 0 3 (nI (p1 + 1))) ((yFl T).length + l.length) yIf
  let B3 := zsI (zsI B2 13 0 20 (nI (p1 + 1))) 66 0 (244 + T.length) (nI (yTl T + l.length))
  have fA3 : zFo yGa A2 A3 := zFo_trans (zFo_sI (zFo_refl _ A2) ⟨rfl, Or.inl ⟨rfl, Or.inl rfl⟩⟩) (gEm _ _ _)
  have fB3 : zFo yGb B2 B3 := zFo_sI (zFo_sI (zFo_refl _ B2) ⟨rfl, by omega⟩) ⟨rfl, by omega⟩
  have kc : zgo false (dA + 61) 84 6 [zr 8 0] (zpush (some (zi 1)) []) A2 = (zgo false (dA + 60) 85 0 [zr 8 0, zi 0, zi 0, zu, zu, zu] [] A3).bind fun q => zgo false (dA + 61) 84 43 [zr 8 0] (zpush q.1 []) q.2 := by
    simp +decide only [B84_6, B84_15, B84_37, hc1, yS63 hc, h63, h1, nI_1, S92y _ _ (show zgI (zsI A2 8 0 3 (nI (p1 + 1))) 8 0 4 = _ from h2) (show (yFl T).length + l.length < 128 by omega), zbsome, zpu1, zpu0, cond_true, cond_false, zib0, zib1, zib_ite, zq00, zq20, zq22, zq90, zq99, zq40, zq44, zq100, zq1010, Bool.and_true, if_true, if_false, z1ne0, not_true_eq_false, not_false_eq_true, zite10, eq_self, and_true, true_and, and_false, false_and, ↓reduceIte, Int32.reduceLT, Int32.reduceLE, Int32.reduceAdd, Int32.reduceSub, Int32.reduceMul]
    rfl
  have km : zgo false (dB + 61) 223 26 [zr 13 0, zi (nI (244 + T.length))] (zpush none []) B2 = (zgo false (dB + 60) 222 0 [zr 13 0] [] B3).bind fun q => zgo false (dB + 61) 223 67 [zr 13 0, zi (nI (244 + T.length))] (zpush q.1 []) q.2 := by
    have e : zgI (zsI B2 13 0 20 (nI (p1 + 1))) 13 0 23 = nI (yTl T + l.length) := h6
    simp +decide only [B223_26, B223_37, B223_63, h4, no0, hl1, yL63 hc, h63, h3, nI_1, zx, cx, e, h16 _ (show yTl T + l.length < 131 by omega), zbsome, zpu1, zpu0, cond_true, cond_false, zib0, zib1, zib_ite, zq00, zq20, zq22, zq90, zq99, zq40, zq44, zq100, zq1010, Bool.and_true, if_true, if_false, z1ne0, not_true_eq_false, not_false_eq_true, zite10, eq_self, and_true, true_and, and_false, false_and, ↓reduceIte, Int32.reduceLT, Int32.reduceLE, Int32.reduceAdd, Int32.reduceSub, Int32.reduceMul]
    rfl
  have P3 : yPa n t A3 B3 (p1 + 1) ((yFl T).length + l.length + 1) (yTl T + l.length) 0 := by
    refine ⟨⟨by omega, by omega, by omega⟩, ?_, rfl, rfl, h4, h5, h6, yTpA_g h7 fA3, yTpB_g h8 fB3⟩
    rw [yEmA_I (by omega) (by omega)]
    rfl
  obtain ⟨⟨v, A4⟩, ⟨w, B4⟩, e3, e4, hw, r⟩ := yExpr n t dA dB (p1 + 1) _ _ _ _ P3
  have hw : w = none := hw
  subst hw
  have e3 : zgo false (dA + 60) 85 0 [zr 8 0, zi 0, zi 0, zu, zu, zu] [] A3 = some (v, A4) := e3
  have e4 : zgo false (dB + 60) 222 0 [zr 13 0] [] B3 = some (none, B4) := e4
  rw [kc, km, e3, e4, zbsome, zbsome]
  rcases r with ⟨hv, p2, l2, acc⟩ | hb
  case inr =>
    have f2 := hb.1
    have g2 := hb.2.1
    obtain ⟨v', A', B', ⟨⟨-, k1⟩, -, k3⟩, f, g, no⟩ := bad A3 B3 A4 B4 (p1 + 1) ((yFl T).length + l.length + 1) (yTl T + l.length) v (by omega) (by omega) (((g2 65 0 4 (by unfold yFb; omega)).1).trans b7') hb (yTpA_fr (yTpA_g h7 fA3) f2)
    exact ⟨v', A', B', k1, k3, zFo_trans (yGa_of f1) (zFo_trans fA3 (zFo_trans (yGa_of f2) f)), zFo_trans fB1 (zFo_trans (yGb_of g1) (zFo_trans fB3 (zFo_trans (yGb_of g2) g))), Or.inr no⟩
  have hv : v = some (zi 1) := hv
  subst hv
  obtain ⟨f2, g2, q2, P4, l3, E2, Sg2, Mg2⟩ := acc
  obtain ⟨⟨i1', i2', i3'⟩, i1, i2, i3, i4, i5, i6, i7, i8⟩ := P4
  have b74 : zgI B4 65 0 4 = nI T.length := ((g2 65 0 4 (by unfold yFb; omega)).1).trans b7'
  have kc2 : zgo false (dA + 61) 84 43 [zr 8 0] (zpush (some (zi 1)) []) A4 = some (some (zi 1), yEmA A4 ((yFl T).length + l.length + 1 + l2.length) yEnd) := by
    simp +decide only [B84_43, zbsome, zpu1, zpu0, cond_true, cond_false, zib0, zib1, zib_ite, zq00, zq20, zq22, zq90, zq99, zq40, zq44, zq100, zq1010, Bool.and_true, if_true, if_false, z1ne0, not_true_eq_false, not_false_eq_true, zite10, eq_self, and_true, true_and, and_false, false_and, ↓reduceIte, Int32.reduceLT, Int32.reduceLE, Int32.reduceAdd, Int32.reduceSub, Int32.reduceMul]
    exact cfin A4 _ (by omega) i2
  have km2 := fin B4 _ (show yTl T + l.length + l2.length < 131 by omega) i6 b74
  have lne : ¬ l = [] := yEx_ne E
  have fq : yFl1 (l, l2) = (l.map yCc ++ [yIf]) ++ (l2.map yCc ++ [yEnd]) := by
    show (l.map yCc ++ if l = [] then [] else [yIf]) ++ _ = _
    rw [if_neg lne]
  have fl : (yFl (T ++ [(l, l2)])).length = (yFl T).length + l.length + 1 + l2.length + 1 := by
    rw [flT, fq, List.length_append, List.length_append, List.length_append, List.length_append, List.length_map, List.length_map]
    show _ + (_ + 1 + (_ + 1)) = _
    omega
  refine ⟨some (zi 1), _, _, kc2, km2, zFo_trans (yGa_of f1) (zFo_trans fA3 (zFo_trans (yGa_of f2) (gEm _ _ _))), zFo_trans fB1 (zFo_trans (yGb_of g1) (zFo_trans fB3 (zFo_trans (yGb_of g2) (finB _ _)))), Or.inl ⟨rfl, (l, l2), p2, by omega, ?_⟩⟩
  have lo : ∀ s, s < (yFl T).length + l.length → zgI A4 44 0 s = zgI A2 44 0 s := fun s hs => by
    rw [(f2 44 0 s (by unfold yFa; omega)).1, yEmA_I (by omega) (by omega)]
    rfl
  have lob : ∀ k s, (k = 63 ∨ k = 64) → s < 520 + (yTl T + l.length) → zgI B4 k 0 s = zgI B2 k 0 s := fun k s hk hs => by
    rw [(g2 k 0 s (by unfold yFb; omega)).1, zgI_sI, if_neg (by omega), zgI_sI, if_neg (by omega)]
  refine ⟨⟨i1', by omega, by rw [tlT]; show yTl T + (l.length + l2.length) ≤ p2; omega, by rw [lenT]; omega⟩, ?_, ?_, i3, i4, i5, ?_, yTpA_g i7 (gEm _ _ _), yTpB_g i8 (finB _ _), ?_, ?_, ?_, ?_, ?_⟩
  · rw [yEmA_I (by omega) (by omega)]
    exact i1
  · rw [fl]
    rfl
  · rw [tlT]
    show zgI B4 13 0 23 = nI (yTl T + (l.length + l2.length))
    rw [← Nat.add_assoc]
    exact i6
  · rw [flT, ySg_app, fq, ySg_app, ySg_app, ySg_app]
    simp only [List.length_append, List.length_map, List.length_singleton, Nat.zero_add]
    refine ⟨ySg_fr hS2 (fun s s1 s2 => (yEmA_I (by omega) (by omega)).trans (lo s (by omega))), ⟨ySg_fr Sg (fun s s1 s2 => by
      rw [List.length_map] at s2
      exact (yEmA_I (by omega) (by omega)).trans (lo s (by omega))), ?_, trivial⟩, ySg_fr (by rw [← Nat.add_assoc]; exact Sg2) (fun s s1 s2 => yEmA_I (by rw [List.length_map] at s2; omega) (by omega)), ?_, trivial⟩
    · rw [yEmA_I (by omega) (by omega), (f2 44 0 _ (by unfold yFa; omega)).1]
      show zgI (yEmA _ _ _) 44 0 _ = _
      unfold yEmA
      rw [zgI_sI, if_neg (by omega), zgI_sI, if_pos ⟨rfl, rfl, rfl⟩]
    · unfold yEmA
      rw [zgI_sI, if_neg (by omega), zgI_sI, if_pos ⟨rfl, rfl, by omega⟩]
  · rw [yMl_app]
    refine ⟨yMl_lo hM2 (fun k s k1 s1 s2 => ?_) (fun k s k1 s1 s2 => ?_), ?_, ?_, ?_, trivial⟩
    · rw [zgI_sI, if_neg (by omega), zgI_sI, if_neg (by omega), (g2 k 0 s (by unfold yFb; omega)).1, zgI_sI, if_neg (by omega), zgI_sI, if_neg (by omega)]
    · rw [zgI_sI, if_neg (by omega), zgI_sI, if_neg (by omega), lob k s k1 (by omega)]
    · rw [zgI_sI, if_neg (by omega), zgI_sI, if_neg (by omega), (g2 66 0 _ (by unfold yFb; omega)).1]
      show zgI (zsI _ 66 0 (244 + T.length) (nI (yTl T + l.length))) 66 0 (61 * 4 + (0 + T.length)) = nI (0 + yTl T + l.length)
      rw [zgI_sI, if_pos ⟨rfl, rfl, by omega⟩, Nat.zero_add]
    · rw [zgI_sI, if_neg (by omega), zgI_sI, if_pos ⟨rfl, rfl, by omega⟩]
      show nI (yTl T + l.length + l2.length) = nI (0 + yTl T + l.length + l2.length)
      rw [Nat.zero_add]
    · show yMg _ 4 (0 + yTl T) (l ++ l2)
      rw [yMg_app, Nat.zero_add]
      refine ⟨yMg_fr Mg (fun k s k1 s1 s2 => ?_), yMg_fr Mg2 (fun k s k1 s1 s2 => ?_)⟩
      · rw [zgI_sI, if_neg (by omega), zgI_sI, if_neg (by omega), lob k s k1 (by omega)]
      · rw [zgI_sI, if_neg (by omega), zgI_sI, if_neg (by omega)]
  · rw [lenT]
    rfl
  · intro q hq
    rcases List.mem_append.mp hq with hq | hq
    · exact hW q hq
    · rw [List.mem_singleton] at hq
      subst hq
      exact ⟨Or.inr E, E2⟩
  · intro q hq
    rcases List.mem_append.mp hq with hq | hq
    · exact hN q hq
    · rw [List.mem_singleton] at hq
      subst hq
      exact ⟨by show l.length ≤ 120; omega, by show l2.length ≤ 120; omega⟩
