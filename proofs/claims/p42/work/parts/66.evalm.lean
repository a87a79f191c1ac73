/-! ===== texts worked out, by the model ===== -/
def yMg (M : zM) (p : Nat) : Nat → List yOp → Prop
  | _, [] => True
  | i, o :: r => zgI M 63 0 (130 * p + i) = yMa o ∧ (yMa o = 1 ∨ yMa o = 2 → zgI M 64 0 (130 * p + i) = yMw o) ∧ yMg M p (i + 1) r
theorem yMg_fr {M M' : zM} {p : Nat} : ∀ {l : List yOp} {i : Nat}, yMg M p i l → (∀ k s, k = 63 ∨ k = 64 → 130 * p + i ≤ s → s < 130 * p + i + l.length → zgI M' k 0 s = zgI M k 0 s) → yMg M' p i l
  | [], _, _, _ => trivial
  | o :: r, i, h, e => ⟨(e 63 _ (by omega) (by omega) (by simp)).trans h.1, fun q => (e 64 _ (by omega) (by omega) (by simp)).trans (h.2.1 q), yMg_fr h.2.2 (fun k s k1 s1 s2 => e k s k1 (by omega) (by simp; omega))⟩
theorem yMg_app {M : zM} {p : Nat} : ∀ {a b : List yOp} {i : Nat}, yMg M p i (a ++ b) ↔ yMg M p i a ∧ yMg M p (i + a.length) b
  | [], b, i => by simp [yMg]
  | o :: r, b, i => by
    show (_ ∧ _ ∧ yMg M p (i + 1) (r ++ b)) ↔ (_ ∧ _ ∧ yMg M p (i + 1) r) ∧ _
    rw [yMg_app, List.length_cons, show i + 1 + r.length = i + (r.length + 1) by omega, and_assoc, and_assoc]
def yMl (M : zM) (p : Nat) : Nat → Nat → List (List yOp × List yOp) → Prop
  | _, _, [] => True
  | li, f, q :: r => zgI M 66 0 (61 * p + li) = nI (f + q.1.length) ∧ zgI M 67 0 (61 * p + li) = nI (f + q.1.length + q.2.length) ∧ yMg M p f (q.1 ++ q.2) ∧ yMl M p (li + 1) (f + q.1.length + q.2.length) r
def yTl : List (List yOp × List yOp) → Nat
  | [] => 0
  | q :: r => q.1.length + q.2.length + yTl r
def yMt (M : zM) (p : Nat) (T : List (List yOp × List yOp)) : Prop := zgI M 65 0 p = nI T.length ∧ T.length ≤ 61 ∧ yTl T ≤ 130 ∧ yMl M p 0 0 T
theorem yMl_fr {M M' : zM} {p : Nat} (hp : p < 4) (e : ∀ k s, (k = 63 ∨ k = 64) ∧ s < 520 ∨ (k = 66 ∨ k = 67) ∧ s < 244 → zgI M' k 0 s = zgI M k 0 s) : ∀ {T : List (List yOp × List yOp)} {li f : Nat}, yMl M p li f T → li + T.length ≤ 61 → f + yTl T ≤ 130 → yMl M' p li f T
  | [], _, _, _, _, _ => trivial
  | q :: r, li, f, h, h1, h2 => by
    rw [List.length_cons] at h1
    have h2 : f + (q.1.length + q.2.length + yTl r) ≤ 130 := h2
    exact ⟨(e 66 _ (by omega)).trans h.1, (e 67 _ (by omega)).trans h.2.1, yMg_fr h.2.2.1 (fun k s k1 s1 s2 => e k s (by rw [List.length_append] at s2; omega)), yMl_fr hp e h.2.2.2 (by omega) (by omega)⟩
theorem yMt_fr {M M' : zM} {p : Nat} {T : List (List yOp × List yOp)} (hp : p < 4) (e : ∀ k s, (k = 63 ∨ k = 64) ∧ s < 520 ∨ (k = 66 ∨ k = 67) ∧ s < 244 ∨ k = 65 ∧ s < 4 → zgI M' k 0 s = zgI M k 0 s) (h : yMt M p T) : yMt M' p T := ⟨(e 65 p (by omega)).trans h.1, h.2.1, h.2.2.1, yMl_fr hp (fun k s q => e k s (by omega)) h.2.2.2 (by have := h.2.1; omega) (by have := h.2.2.1; omega)⟩
def yFm (a b c : Nat) : Prop := b = 0 ∧ a = 69
theorem yFm_gI {M M' : zM} {k i s : Nat} (h : zFo yFm M M') (hk : k ≠ 69) : zgI M' k i s = zgI M k i s := (h k i s (fun q => by unfold yFm at q; omega)).1
/-- one step of the model -/
theorem S226 (d p E i : Nat) (o : yOp) (st st' : List Int32) (x2 : Int32) (u6 : zV) (M : zM) (ho : yOk o) (hp : p < 5) (hE : i < E) (hE2 : E ≤ 130) (h1 : zgI M 63 0 (130 * p + i) = yMa o) (h2 : yMa o = 1 ∨ yMa o = 2 → zgI M 64 0 (130 * p + i) = yMw o) (hk : ySk M 69 0 st) (hl : st.length < 130) (hs : yStp (fun k => zgI M 68 0 k) o st = some st') : ∃ M' u6', zgo false (d + 1) 226 12 [zr 13 0, zi (nI p), zi x2, zi (nI E), zi (nI st.length), zi (nI (130 * p + i)), u6] [] M = zgo false (d + 1) 226 12 [zr 13 0, zi (nI p), zi x2, zi (nI E), zi (nI st'.length), zi (nI (130 * p + (i + 1))), u6'] [] M' ∧ zFo yFm M M' ∧ ySk M' 69 0 st' := by
  have eE : (130 : Int32) * nI p + nI E = nI (130 * p + E) := by rw [show (130 : Int32) = nI 130 from rfl, pk_mul, nI_add]
  have c1 : ¬ nI (130 * p + E) ≤ nI (130 * p + i) := nI_ge (by omega) (by omega)
  have z1 : zin (nI (130 * p + i)) 650 = true := zin_nI (by omega) (by omega)
  have k1 : (nI (130 * p + i)).toNatClampNeg = 130 * p + i := nI_clamp (by omega)
  have s1 : nI (130 * p + i) + 1 = nI (130 * p + (i + 1)) := nI_1 _
  rw [B226_12, eE, if_neg c1, if_pos z1, k1, h1]
  have wr : ∀ (x : Int32) (r : List Int32) (M1 : zM), zFo yFm M M1 → ySk M1 69 0 r → r.length < 130 → zFo yFm M (zsI M1 69 0 r.length x) ∧ ySk (zsI M1 69 0 r.length x) 69 0 (x :: r) := fun x r M1 f g h => ⟨zFo_trans f (zFo_sI (zFo_refl _ M1) ⟨rfl, rfl⟩), by simp [zgI_sI], ySk_fr g (fun s hs => by simp [zgI_sI]; intro q; omega)⟩
  obtain n | k | s := o
  · cases hs
    have h2' : zgI M 64 0 (130 * p + i) = nI n := h2 (Or.inl rfl)
    obtain ⟨f, g⟩ := wr (nI n) st M (zFo_refl _ M) hk hl
    have z2 : zin (nI st.length) 130 = true := zin_nI hl (by omega)
    have k2 : (nI st.length).toNatClampNeg = st.length := nI_clamp (by omega)
    refine ⟨_, zi 1, ?_, f, g⟩
    show zgo false (d + 1) 226 33 [zr 13 0, zi (nI p), zi x2, zi (nI E), zi (nI st.length), zi (nI (130 * p + i)), zi 1] [] M = _
    simp +decide only [B226_33, B226_45, B226_79, B226_182, z1, k1, h2', z2, k2, s1, nI_1, zbsome, zpu1, zpu0, cond_true, cond_false, zib0, zib1, zib_ite, zq00, zq20, zq22, zq90, zq99, zq40, zq44, zq100, zq1010, Bool.and_true, if_true, if_false, z1ne0, not_true_eq_false, not_false_eq_true, zite10, eq_self, and_true, true_and, and_false, false_and, ↓reduceIte, Int32.reduceLT, Int32.reduceLE, Int32.reduceAdd, Int32.reduceSub, Int32.reduceMul]
    rfl
  · cases hs
    have ho : k < 12 := ho
    have h2' : zgI M 64 0 (130 * p + i) = nI k := h2 (Or.inr rfl)
    obtain ⟨f, g⟩ := wr (zgI M 68 0 k) st M (zFo_refl _ M) hk hl
    have z2 : zin (nI st.length) 130 = true := zin_nI hl (by omega)
    have k2 : (nI st.length).toNatClampNeg = st.length := nI_clamp (by omega)
    have z3 : zin (nI k) 12 = true := zin_nI ho (by omega)
    have k3 : (nI k).toNatClampNeg = k := nI_clamp (by omega)
    refine ⟨_, zi 2, ?_, f, g⟩
    show zgo false (d + 1) 226 33 [zr 13 0, zi (nI p), zi x2, zi (nI E), zi (nI st.length), zi (nI (130 * p + i)), zi 2] [] M = _
    simp +decide only [B226_33, B226_45, B226_79, B226_182, z1, k1, h2', z2, k2, z3, k3, s1, nI_1, zbsome, zpu1, zpu0, cond_true, cond_false, zib0, zib1, zib_ite, zq00, zq20, zq22, zq90, zq99, zq40, zq44, zq100, zq1010, Bool.and_true, if_true, if_false, z1ne0, not_true_eq_false, not_false_eq_true, zite10, eq_self, and_true, true_and, and_false, false_and, ↓reduceIte, Int32.reduceLT, Int32.reduceLE, Int32.reduceAdd, Int32.reduceSub, Int32.reduceMul]
    rfl
  · have ho : s = 1 ∨ s = 2 ∨ ySgn s := ho
    by_cases q1 : s = 1
    · subst q1
      obtain _ | ⟨x, r⟩ := st
      · cases hs
      cases hs
      rw [List.length_cons] at hl ⊢
      obtain ⟨f, g⟩ := wr (-x) r M (zFo_refl _ M) hk.2 (by omega)
      have z2 : zin (nI r.length) 130 = true := zin_nI (by omega) (by omega)
      have k2 : (nI r.length).toNatClampNeg = r.length := nI_clamp (by omega)
      have p1 : nI (r.length + 1) - 1 = nI r.length := nI_pred _
      refine ⟨_, zi 4, ?_, f, g⟩
      show zgo false (d + 1) 226 33 [zr 13 0, zi (nI p), zi x2, zi (nI E), zi (nI (r.length + 1)), zi (nI (130 * p + i)), zi 4] [] M = _
      simp +decide only [B226_33, B226_121, B226_127, B226_146, B226_182, z2, k2, p1, hk.1, s1, zbsome, zpu1, zpu0, cond_true, cond_false, zib0, zib1, zib_ite, zq00, zq20, zq22, zq90, zq99, zq40, zq44, zq100, zq1010, Bool.and_true, if_true, if_false, z1ne0, not_true_eq_false, not_false_eq_true, zite10, eq_self, and_true, true_and, and_false, false_and, ↓reduceIte, Int32.reduceLT, Int32.reduceLE, Int32.reduceAdd, Int32.reduceSub, Int32.reduceMul]
      rfl
    by_cases q2 : s = 2
    · subst q2
      obtain _ | ⟨x, r⟩ := st
      · cases hs
      cases hs
      rw [List.length_cons] at hl ⊢
      obtain ⟨f, g⟩ := wr (if x = 0 then 1 else 0) r M (zFo_refl _ M) hk.2 (by omega)
      have z2 : zin (nI r.length) 130 = true := zin_nI (by omega) (by omega)
      have k2 : (nI r.length).toNatClampNeg = r.length := nI_clamp (by omega)
      have p1 : nI (r.length + 1) - 1 = nI r.length := nI_pred _
      refine ⟨_, zi 3, ?_, f, g⟩
      show zgo false (d + 1) 226 33 [zr 13 0, zi (nI p), zi x2, zi (nI E), zi (nI (r.length + 1)), zi (nI (130 * p + i)), zi 3] [] M = _
      by_cases c : x = 0
      · have h69 : zgI M 69 0 r.length = 0 := hk.1.trans c
        simp +decide only [B226_33, B226_92, B226_117, B226_182, z2, k2, p1, h69, c, s1, zbsome, zpu1, zpu0, cond_true, cond_false, zib0, zib1, zib_ite, zq00, zq20, zq22, zq90, zq99, zq40, zq44, zq100, zq1010, Bool.and_true, if_true, if_false, z1ne0, not_true_eq_false, not_false_eq_true, zite10, eq_self, and_true, true_and, and_false, false_and, ↓reduceIte, Int32.reduceLT, Int32.reduceLE, Int32.reduceAdd, Int32.reduceSub, Int32.reduceMul]
        rfl
      · have h69 : zgI M 69 0 r.length = x := hk.1
        simp +decide only [B226_33, B226_92, B226_117, B226_182, z2, k2, p1, h69, c, s1, zbsome, zpu1, zpu0, cond_true, cond_false, zib0, zib1, zib_ite, zq00, zq20, zq22, zq90, zq99, zq40, zq44, zq100, zq1010, Bool.and_true, if_true, if_false, z1ne0, not_true_eq_false, not_false_eq_true, zite10, eq_self, and_true, true_and, and_false, false_and, ↓reduceIte, Int32.reduceLT, Int32.reduceLE, Int32.reduceAdd, Int32.reduceSub, Int32.reduceMul]
        rfl
    · have ho : ySgn s := by
        rcases ho with ho | ho | ho
        · exact absurd ho q1
        · exact absurd ho q2
        · exact ho
      obtain _ | ⟨b, _ | ⟨a, r⟩⟩ := st
      · simp only [yStp, if_neg q1, if_neg q2] at hs; cases hs
      · simp only [yStp, if_neg q1, if_neg q2] at hs; cases hs
      simp only [yStp, if_neg q1, if_neg q2] at hs
      cases hs
      rw [List.length_cons, List.length_cons] at hl ⊢
      obtain ⟨f, g⟩ := wr (yJn a b s) r M (zFo_refl _ M) hk.2.2 (by omega)
      have hb : 37 ≤ s ∧ s ≤ 124 := by
        rcases ho with rfl | rfl | rfl | rfl | rfl | rfl | rfl | rfl | rfl | rfl <;> omega
      have n1 : 37 ≤ nI s := nI_le (a := 37) hb.1 (by omega)
      have d1 : ¬ nI s = 1 := by grind
      have d2 : ¬ nI s = 2 := by grind
      have d3 : ¬ nI s = 3 := by grind
      have d4 : ¬ nI s = 4 := by grind
      have z2 : zin (nI r.length) 130 = true := zin_nI (by omega) (by omega)
      have k2 : (nI r.length).toNatClampNeg = r.length := nI_clamp (by omega)
      have z3 : zin (nI (r.length + 1)) 130 = true := zin_nI (by omega) (by omega)
      have k3 : (nI (r.length + 1)).toNatClampNeg = r.length + 1 := nI_clamp (by omega)
      have p1 : nI (r.length + 1) - 1 = nI r.length := nI_pred _
      have p2 : nI (r.length + 1 + 1) + (-1) = nI (r.length + 1) := pk_m1 _
      have e1 : zgI M 69 0 (r.length + 1) = b := hk.1
      have e2 : zgI M 69 0 r.length = a := hk.2.1
      have em : yMa (.inr (.inr s)) = nI s := by
        show (if s = 1 then _ else if s = 2 then _ else _) = _
        rw [if_neg q1, if_neg q2]
      refine ⟨_, zi (nI s), ?_, f, g⟩
      rw [em]
      simp +decide only [B226_33, B226_121, B226_149, B226_152, B226_181, B226_182, d1, d2, d3, d4, z2, k2, z3, k3, p1, p2, e1, e2, S225 _ _ _ _ _ ho, s1, zbsome, zpu1, zpu0, cond_true, cond_false, zib0, zib1, zib_ite, zq00, zq20, zq22, zq90, zq99, zq40, zq44, zq100, zq1010, Bool.and_true, if_true, if_false, z1ne0, not_true_eq_false, not_false_eq_true, zite10, eq_self, and_true, true_and, and_false, false_and, ↓reduceIte, Int32.reduceLT, Int32.reduceLE, Int32.reduceAdd, Int32.reduceSub, Int32.reduceMul]
      rfl
theorem L226 (d p E : Nat) (x2 : Int32) (hp : p < 5) (hE2 : E ≤ 130) : ∀ (l : List yOp) (i : Nat) (st st' : List Int32) (u6 : zV) (M : zM), (∀ o, o ∈ l → yOk o) → i + l.length = E → yMg M p i l → ySk M 69 0 st → st.length + l.length ≤ 130 → yEv (fun k => zgI M 68 0 k) l st = some st' → ∃ M' u6', zgo false (d + 1) 226 12 [zr 13 0, zi (nI p), zi x2, zi (nI E), zi (nI st.length), zi (nI (130 * p + i)), u6] [] M = zgo false (d + 1) 226 12 [zr 13 0, zi (nI p), zi x2, zi (nI E), zi (nI st'.length), zi (nI (130 * p + E)), u6'] [] M' ∧ zFo yFm M M' ∧ ySk M' 69 0 st'
  | [], i, st, st', u6, M, ho, h1, h2, h3, h4, h5 => by
    cases h5
    have h1 : i = E := by simpa using h1
    subst h1
    exact ⟨M, u6, rfl, zFo_refl _ M, h3⟩
  | o :: r, i, st, st', u6, M, ho, h1, h2, h3, h4, h5 => by
    have h5 : (yStp (fun k => zgI M 68 0 k) o st).bind (yEv (fun k => zgI M 68 0 k) r) = some st' := h5
    rw [List.length_cons] at h1 h4
    cases hs : yStp (fun k => zgI M 68 0 k) o st with
    | none => rw [hs] at h5; cases h5
    | some s1 =>
      rw [hs] at h5
      have h5 : yEv (fun k => zgI M 68 0 k) r s1 = some st' := h5
      obtain ⟨M1, u7, e1, f1, g1⟩ := S226 d p E i o st s1 x2 u6 M (ho o List.mem_cons_self) hp (by omega) hE2 h2.1 h2.2.1 h3 (by omega) hs
      have hl := yStp_len hs
      have nm : (fun k => zgI M1 68 0 k) = fun k => zgI M 68 0 k := funext fun k => yFm_gI f1 (by omega)
      obtain ⟨M', u8, e2, f2, g2⟩ := L226 d p E x2 hp hE2 r (i + 1) s1 st' u7 M1 (fun o' ho' => ho o' (List.mem_cons_of_mem _ ho')) (by omega) (yMg_fr h2.2.2 (fun k s k1 _ _ => yFm_gI f1 (by omega))) g1 (by omega) (by rw [nm]; exact h5)
      exact ⟨M', u8, e1.trans e2, zFo_trans f1 f2, g2⟩
/-- 'worked' -/
theorem W226 (d p f : Nat) (l : List yOp) (u4 u5 u6 : zV) (M : zM) (hp : p < 5) (hE : f + l.length ≤ 130) (hl : yEx l) (hg : yMg M p f l) : ∃ M', zgo false (d + 1) 226 0 [zr 13 0, zi (nI p), zi (nI f), zi (nI (f + l.length)), u4, u5, u6] [] M = some (some (zi (yVal (fun k => zgI M 68 0 k) l)), M') ∧ zFo yFm M M' := by
  obtain ⟨M', u6', e, f1, g⟩ := L226 d p (f + l.length) (nI f) hp hE l f [] [yVal (fun k => zgI M 68 0 k) l] u6 M hl.1 rfl hg trivial (by simp; omega) (yEx_val hl _)
  refine ⟨M', ?_, f1⟩
  have e1 : (130 : Int32) * nI p + nI f = nI (130 * p + f) := by rw [show (130 : Int32) = nI 130 from rfl, pk_mul, nI_add]
  have eE : (130 : Int32) * nI p + nI (f + l.length) = nI (130 * p + (f + l.length)) := by rw [show (130 : Int32) = nI 130 from rfl, pk_mul, nI_add]
  have z0 : zin 0 130 = true := rfl
  have h0 : zgI M' 69 0 0 = yVal (fun k => zgI M 68 0 k) l := g.1
  rw [B226_0, e1]
  refine e.trans ?_
  rw [B226_12, eE, if_pos (nI_le (Nat.le_refl _) (by omega)), if_pos z0, show (0 : Int32).toNatClampNeg = 0 from rfl, h0]
/-- 'gives' -/
theorem L227 (d p N : Nat) (hp : p < 4) (hN : N ≤ 61) : ∀ (T : List (List yOp × List yOp)) (li f : Nat) (M : zM), yWT T → zgI M 65 0 p = nI N → li + T.length = N → f + yTl T ≤ 130 → yMl M p li f T → ∃ M', zgo false (d + 2) 227 7 [zr 13 0, zi (nI p), zi (nI f), zi (nI (61 * p + li))] [] M = some (some (zi (yTx (fun k => zgI M 68 0 k) T)), M') ∧ zFo yFm M M'
  | [], li, f, M, hw, h1, h2, h3, h4 => by
    have h2 : li = N := by simpa using h2
    subst h2
    refine ⟨M, ?_, zFo_refl _ M⟩
    have e : (61 : Int32) * nI p + nI li = nI (61 * p + li) := by rw [show (61 : Int32) = nI 61 from rfl, pk_mul, nI_add]
    rw [B227_7, if_pos (zin_nI (show p < 5 by omega) (by omega)), nI_clamp (by omega), h1, e, if_pos (nI_le (Nat.le_refl _) (by omega))]
    rfl
  | q :: r, li, f, M, hw, h1, h2, h3, h4 => by
    obtain ⟨w1, w2⟩ := hw q List.mem_cons_self
    rw [List.length_cons] at h2
    have h3 : f + (q.1.length + q.2.length + yTl r) ≤ 130 := h3
    obtain ⟨g1, g2, g3, g4⟩ := h4
    obtain ⟨g5, g6⟩ := yMg_app.mp g3
    have e : (61 : Int32) * nI p + nI N = nI (61 * p + N) := by rw [show (61 : Int32) = nI 61 from rfl, pk_mul, nI_add]
    have z1 : zin (nI (61 * p + li)) 305 = true := zin_nI (by omega) (by omega)
    have k1 : (nI (61 * p + li)).toNatClampNeg = 61 * p + li := nI_clamp (by omega)
    have fin : ∀ (M1 : zM), zFo yFm M M1 → ∃ M', zgo false (d + 2) 227 47 [zr 13 0, zi (nI p), zi (nI f), zi (nI (61 * p + li))] [] M1 = some (some (zi (yVal (fun k => zgI M 68 0 k) q.2)), M') ∧ zFo yFm M M' := fun M1 f1 => by
      have nm : (fun k => zgI M1 68 0 k) = fun k => zgI M 68 0 k := funext fun k => yFm_gI f1 (by omega)
      obtain ⟨M', e2, f2⟩ := W226 d p (f + q.1.length) q.2 zu zu zu M1 (by omega) (by omega) w2 (yMg_fr g6 (fun k s k1 _ _ => yFm_gI f1 (by omega)))
      rw [nm] at e2
      refine ⟨M', ?_, zFo_trans f1 f2⟩
      rw [B227_47, if_pos z1, if_pos z1, k1, yFm_gI f1 (by omega), yFm_gI f1 (by omega), g1, g2]
      refine zbind_of e2 ?_
      exact B227_64 (d + 2) _ _ _ _ M'
    rw [B227_7, if_pos (zin_nI (show p < 5 by omega) (by omega)), nI_clamp (by omega), h1, e, if_neg (nI_ge (by omega) (by omega)), if_pos z1, k1, g1]
    by_cases c : q.1 = []
    · have c0 : q.1.length = 0 := by rw [c]; rfl
      obtain ⟨M', e2, f2⟩ := fin M (zFo_refl _ M)
      refine ⟨M', ?_, f2⟩
      rw [if_pos (by rw [c0]; rfl)]
      have hx : yTx (fun k => zgI M 68 0 k) (q :: r) = yVal (fun k => zgI M 68 0 k) q.2 := by
        show (if q.1 = [] then _ else if _ = 0 then _ else _) = _
        rw [if_pos c]
      rw [hx]
      exact e2
    · have c0 : 0 < q.1.length := List.length_pos_iff.mpr c
      obtain ⟨M1, e1, f1⟩ := W226 d p f q.1 zu zu zu M (by omega) (by omega) (w1.resolve_left c) g5
      rw [if_neg (by rw [nI_eq (by omega) (by omega)]; omega), if_pos z1]
      by_cases v0 : yVal (fun k => zgI M 68 0 k) q.1 = 0
      · have nm : (fun k => zgI M1 68 0 k) = fun k => zgI M 68 0 k := funext fun k => yFm_gI f1 (by omega)
        obtain ⟨M', e2, f2⟩ := L227 d p N hp hN r (li + 1) (f + q.1.length + q.2.length) M1 (fun q' hq' => hw q' (List.mem_cons_of_mem _ hq')) ((yFm_gI f1 (by omega)).trans h1) (by omega) (by omega) (yMl_fr hp (fun k s hk => yFm_gI f1 (by omega)) g4 (by omega) (by omega))
        rw [nm] at e2
        refine ⟨M', ?_, zFo_trans f1 f2⟩
        have hx : yTx (fun k => zgI M 68 0 k) (q :: r) = yTx (fun k => zgI M 68 0 k) r := by
          show (if q.1 = [] then _ else if _ = 0 then _ else _) = _
          rw [if_neg c, if_pos v0]
        rw [hx]
        refine zbind_of e1 ?_
        refine (B227_44 (d + 2) _ _ _ _ M1).trans ?_
        rw [if_pos v0, if_pos z1, k1, yFm_gI f1 (by omega), g2, nI_1]
        exact e2
      · obtain ⟨M', e2, f2⟩ := fin M1 f1
        refine ⟨M', ?_, f2⟩
        have hx : yTx (fun k => zgI M 68 0 k) (q :: r) = yVal (fun k => zgI M 68 0 k) q.2 := by
          show (if q.1 = [] then _ else if _ = 0 then _ else _) = _
          rw [if_neg c, if_neg v0]
        rw [hx]
        refine zbind_of e1 ?_
        refine (B227_44 (d + 2) _ _ _ _ M1).trans ?_
        rw [if_neg v0]
        exact e2
theorem S227 (d p : Nat) (u2 u3 : zV) (T : List (List yOp × List yOp)) (M : zM) (hp : p < 4) (hw : yWT T) (h : yMt M p T) : ∃ M', zgo false (d + 2) 227 0 [zr 13 0, zi (nI p), u2, u3] [] M = some (some (zi (yTx (fun k => zgI M 68 0 k) T)), M') ∧ zFo yFm M M' := by
  obtain ⟨M', e, f⟩ := L227 d p T.length hp h.2.1 T 0 0 M hw h.1 (by omega) (by have := h.2.2.1; omega) h.2.2.2
  refine ⟨M', ?_, f⟩
  have e1 : (61 : Int32) * nI p = nI (61 * p) := by rw [show (61 : Int32) = nI 61 from rfl, pk_mul]
  rw [B227_0, e1]
  exact e
/-- the facts, cleared -/
theorem L228 (d : Nat) : ∀ (j k : Nat) (M : zM), k + j = 12 → ∃ M', zgo false d 228 2 [zr 13 0, zi (nI k)] [] M = some (none, M') ∧ zFo (fun a b _ => a = 68 ∧ b = 0) M M' ∧ ∀ t, t < 12 → zgI M' 68 0 t = if k ≤ t then 0 else zgI M 68 0 t
  | 0, k, M, hk => by
    have hk : k = 12 := by omega
    subst hk
    refine ⟨M, ?_, zFo_refl _ M, fun t ht => by rw [if_neg (by omega)]⟩
    rw [B228_2, if_pos (by decide)]
  | j + 1, k, M, hk => by
    obtain ⟨M', e, f, v⟩ := L228 d j (k + 1) (zsI M 68 0 k 0) (by omega)
    refine ⟨M', ?_, zFo_trans (zFo_sI (zFo_refl _ M) ⟨rfl, rfl⟩) f, fun t ht => ?_⟩
    · rw [B228_2, if_neg (show ¬ (12 : Int32) ≤ nI k from nI_ge (b := 12) (by omega) (by omega)), if_pos (zin_nI (by omega) (by omega)), nI_clamp (by omega), nI_1]
      exact e
    · rw [v t ht, zgI_sI]
      grind
theorem S228 (d : Nat) (u : zV) (M : zM) : ∃ M', zgo false d 228 0 [zr 13 0, u] [] M = some (none, M') ∧ zFo (fun a b _ => a = 68 ∧ b = 0) M M' ∧ ∀ t, t < 12 → zgI M' 68 0 t = 0 := by
  obtain ⟨M', e, f, v⟩ := L228 d 12 0 M (by omega)
  exact ⟨M', by rw [B228_0]; exact e, f, fun t ht => by rw [v t ht, if_pos (by omega)]⟩
/-- the class's names, cleared -/
theorem L121 (d : Nat) : ∀ (j k : Nat) (M : zM), k + j = 12 → ∃ M', zgo false (d + 1) 121 2 [zr 31 0, zi (nI k)] [] M = some (none, M') ∧ zFo (fun a b _ => a = 31 ∧ b = 0) M M' ∧ ∀ t, t < 12 → zgI M' 31 0 t = if k ≤ t then 0 else zgI M 31 0 t
  | 0, k, M, hk => by
    have hk : k = 12 := by omega
    subst hk
    refine ⟨M, ?_, zFo_refl _ M, fun t ht => by rw [if_neg (by omega)]⟩
    rw [B121_2, if_pos (by decide)]
  | j + 1, k, M, hk => by
    obtain ⟨M', e, f, v⟩ := L121 d j (k + 1) (zsI M 31 0 k 0) (by omega)
    refine ⟨M', ?_, zFo_trans (zFo_sI (zFo_refl _ M) ⟨rfl, rfl⟩) f, fun t ht => ?_⟩
    · rw [B121_2, if_neg (show ¬ (12 : Int32) ≤ nI k from nI_ge (b := 12) (by omega) (by omega)), se31n _ _ _ _ _ _ (by omega)]
      simp +decide only [B121_14, nI_1, zbsome, zpu1, zpu0, cond_true, cond_false, zib0, zib1, zib_ite, zq00, zq20, zq22, zq90, zq99, zq40, zq44, zq100, zq1010, Bool.and_true, if_true, if_false, z1ne0, not_true_eq_false, not_false_eq_true, zite10, eq_self, and_true, true_and, and_false, false_and, ↓reduceIte, Int32.reduceLT, Int32.reduceLE, Int32.reduceAdd, Int32.reduceSub, Int32.reduceMul]
      exact e
    · rw [v t ht, zgI_sI]
      grind
theorem S121 (d : Nat) (u : zV) (M : zM) : ∃ M', zgo false (d + 1) 121 0 [zr 31 0, u] [] M = some (none, M') ∧ zFo (fun a b _ => a = 31 ∧ b = 0) M M' ∧ ∀ t, t < 12 → zgI M' 31 0 t = 0 := by
  obtain ⟨M', e, f, v⟩ := L121 d 12 0 M (by omega)
  exact ⟨M', by rw [B121_0]; exact e, f, fun t ht => by rw [v t ht, if_pos (by omega)]⟩
