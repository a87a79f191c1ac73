/-! ===== texts worked out, by the class ===== -/
def yIf : Int32 := -1063
def yEnd : Int32 := -1059
def yFl1 (q : List yOp × List yOp) : List Int32 := (q.1.map yCc ++ if q.1 = [] then [] else [yIf]) ++ (q.2.map yCc ++ [yEnd])
def yFl : List (List yOp × List yOp) → List Int32
  | [] => []
  | q :: r => yFl1 q ++ yFl r
/-- the class's text u is T -/
def yCl (M : zM) (u : Nat) (T : List (List yOp × List yOp)) : Prop := zgI M 11 u 2 = nI (yFl T).length ∧ (yFl T).length ≤ 128 ∧ ySg M 48 u 0 (yFl T)
theorem yCc_ne {o : yOp} (h : yOk o) : ¬ yCc o = yEnd ∧ ¬ yCc o = yIf := by
  unfold yEnd yIf
  obtain n | k | s := o
  · have h : n ≤ 9999 := h
    have h1 : 0 ≤ nI n := nI_pos' (by omega)
    show ¬ nI n = -1059 ∧ ¬ nI n = -1063
    grind
  · have h : k < 12 := h
    have h1 : 0 ≤ nI k := nI_pos' (by omega)
    have h2 : nI k ≤ 11 := nI_le (b := 11) (by omega) (by omega)
    show ¬ (-1 - nI k) = -1059 ∧ ¬ (-1 - nI k) = -1063
    grind
  · have h : s = 1 ∨ s = 2 ∨ ySgn s := h
    show ¬ (-1000 - nI s) = -1059 ∧ ¬ (-1000 - nI s) = -1063
    rcases h with rfl | rfl | rfl | rfl | rfl | rfl | rfl | rfl | rfl | rfl | rfl | rfl <;> decide
theorem yStp_len {nm : Nat → Int32} {o : yOp} {st st' : List Int32} (h : yStp nm o st = some st') : st'.length ≤ st.length + 1 := by
  obtain n | k | s := o
  · cases h; simp
  · cases h; simp
  · by_cases s1 : s = 1
    · subst s1
      obtain _ | ⟨x, r⟩ := st
      · cases h
      · cases h; simp
    by_cases s2 : s = 2
    · subst s2
      obtain _ | ⟨x, r⟩ := st
      · cases h
      · cases h; simp
    obtain _ | ⟨b, _ | ⟨a, r⟩⟩ := st
    · simp only [yStp, if_neg s1, if_neg s2] at h; cases h
    · simp only [yStp, if_neg s1, if_neg s2] at h; cases h
    · simp only [yStp, if_neg s1, if_neg s2] at h; cases h; simp
def yTop (M : zM) (u : Nat) (st : List Int32) : Prop := zgI M 11 u 3 = nI st.length ∧ ySk M 49 u st
def yFu (u : Nat) (a b c : Nat) : Prop := b = u ∧ (a = 49 ∨ (a = 11 ∧ c = 3))
theorem yFu_gI {M M' : zM} {u k i s : Nat} (h : zFo (yFu u) M M') (hk : k ≠ 49 ∧ (k ≠ 11 ∨ s ≠ 3)) : zgI M' k i s = zgI M k i s := (h k i s (fun q => by unfold yFu at q; omega)).1
/-- operations one by one -/
theorem L124a (d u N : Nat) (hN : N ≤ 128) : ∀ (l : List yOp) (i : Nat) (st st' : List Int32) (u4 : zV) (M : zM), (∀ o, o ∈ l → yOk o) → zgI M 11 u 2 = nI N → i + l.length ≤ N → ySg M 48 u i (l.map yCc) → yTop M u st → st.length + l.length ≤ 120 → yEv (fun k => zgI M 31 0 k) l st = some st' → ∃ M' u4', zgo false (d + 3) 124 9 [zr 11 u, zr 31 0, zi 0, zi (nI i), u4] [] M = zgo false (d + 3) 124 9 [zr 11 u, zr 31 0, zi 0, zi (nI (i + l.length)), u4'] [] M' ∧ zFo (yFu u) M M' ∧ yTop M' u st'
  | [], i, st, st', u4, M, ho, h1, h2, h3, h4, h5, h6 => by
    cases h6
    exact ⟨M, u4, rfl, zFo_refl _ M, h4⟩
  | o :: r, i, st, st', u4, M, ho, h1, h2, h3, h4, h5, h6 => by
    have h6 : (yStp (fun k => zgI M 31 0 k) o st).bind (yEv (fun k => zgI M 31 0 k) r) = some st' := h6
    rw [List.length_cons] at h2 h5
    cases hs : yStp (fun k => zgI M 31 0 k) o st with
    | none => rw [hs] at h6; cases h6
    | some s1 =>
      rw [hs] at h6
      have h6 : yEv (fun k => zgI M 31 0 k) r s1 = some st' := h6
      have hok := ho o List.mem_cons_self
      obtain ⟨c1, c2⟩ := yCc_ne hok
      obtain ⟨M1, e1, f1, g1, g2⟩ := S125 d u o st s1 zu M hok h4.1 h4.2 (by omega) hs
      have f1 : zFo (yFu u) M M1 := f1
      have hl := yStp_len hs
      have nm : (fun k => zgI M1 31 0 k) = fun k => zgI M 31 0 k := funext fun k => yFu_gI f1 (by omega)
      obtain ⟨M', u4', e2, f2, t2⟩ := L124a d u N hN r (i + 1) s1 st' (zi (yCc o)) M1 (fun o' ho' => ho o' (List.mem_cons_of_mem _ ho')) ((yFu_gI f1 (by omega)).trans h1) (by omega) (ySg_fr h3.2 (fun s _ _ => yFu_gI f1 (by omega))) ⟨g1, g2⟩ (by omega) (by rw [nm]; exact h6)
      refine ⟨M', u4', ?_, zFo_trans f1 f2, t2⟩
      have h31 : zgI M 48 u i = yCc o := h3.1
      rw [B124_9, h1, if_neg (nI_ge (by omega) (by omega)), at48n _ _ _ _ _ (by omega), h31]
      have c1' : ¬ yCc o = -1059 := c1
      have c2' : ¬ yCc o = -1063 := c2
      simp +decide only [B124_25, B124_84, c1', c2', e1, nI_1, zbsome, zpu1, zpu0, cond_true, cond_false, zib0, zib1, zib_ite, zq00, zq20, zq22, zq90, zq99, zq40, zq44, zq100, zq1010, Bool.and_true, if_true, if_false, z1ne0, not_true_eq_false, not_false_eq_true, zite10, eq_self, and_true, true_and, and_false, false_and, ↓reduceIte, Int32.reduceLT, Int32.reduceLE, Int32.reduceAdd, Int32.reduceSub, Int32.reduceMul]
      rw [e2, List.length_cons, show i + 1 + r.length = i + (r.length + 1) by omega]
/-- operations passed over -/
theorem L124p (d u N : Nat) (hN : N ≤ 128) : ∀ (l : List yOp) (i : Nat) (u4 : zV) (M : zM), (∀ o, o ∈ l → yOk o) → zgI M 11 u 2 = nI N → i + l.length ≤ N → ySg M 48 u i (l.map yCc) → ∃ u4', zgo false (d + 3) 124 9 [zr 11 u, zr 31 0, zi 1, zi (nI i), u4] [] M = zgo false (d + 3) 124 9 [zr 11 u, zr 31 0, zi 1, zi (nI (i + l.length)), u4'] [] M
  | [], i, u4, M, ho, h1, h2, h3 => ⟨u4, rfl⟩
  | o :: r, i, u4, M, ho, h1, h2, h3 => by
    rw [List.length_cons] at h2
    obtain ⟨c1, c2⟩ := yCc_ne (ho o List.mem_cons_self)
    obtain ⟨u4', e2⟩ := L124p d u N hN r (i + 1) (zi (yCc o)) M (fun o' ho' => ho o' (List.mem_cons_of_mem _ ho')) h1 (by omega) h3.2
    refine ⟨u4', ?_⟩
    have h31 : zgI M 48 u i = yCc o := h3.1
    rw [B124_9, h1, if_neg (nI_ge (by omega) (by omega)), at48n _ _ _ _ _ (by omega), h31]
    have c1' : ¬ yCc o = -1059 := c1
    have c2' : ¬ yCc o = -1063 := c2
    simp +decide only [B124_25, B124_84, c1', c2', nI_1, zbsome, zpu1, zpu0, cond_true, cond_false, zib0, zib1, zib_ite, zq00, zq20, zq22, zq90, zq99, zq40, zq44, zq100, zq1010, Bool.and_true, if_true, if_false, z1ne0, not_true_eq_false, not_false_eq_true, zite10, eq_self, and_true, true_and, and_false, false_and, ↓reduceIte, Int32.reduceLT, Int32.reduceLE, Int32.reduceAdd, Int32.reduceSub, Int32.reduceMul]
    rw [e2, List.length_cons, show i + 1 + r.length = i + (r.length + 1) by omega]
theorem yFl1_len (q : List yOp × List yOp) : (yFl1 q).length = q.1.length + (if q.1 = [] then 0 else 1) + q.2.length + 1 := by
  unfold yFl1
  by_cases h : q.1 = []
  · simp [h]
  · simp [h]
    omega
/-- line by line -/
theorem L124 (d u N : Nat) (hN : N ≤ 128) : ∀ (T : List (List yOp × List yOp)) (i : Nat) (u4 : zV) (M : zM), yWT T → (∀ q, q ∈ T → q.1.length ≤ 120 ∧ q.2.length ≤ 120) → zgI M 11 u 2 = nI N → i + (yFl T).length = N → ySg M 48 u i (yFl T) → yTop M u [] → ∃ M', zgo false (d + 3) 124 9 [zr 11 u, zr 31 0, zi 0, zi (nI i), u4] [] M = some (some (zi (yTx (fun k => zgI M 31 0 k) T)), M') ∧ zFo (yFu u) M M'
  | [], i, u4, M, hw, hl, h1, h2, h3, h4 => by
    refine ⟨M, ?_, zFo_refl _ M⟩
    have : i = N := by simpa [yFl] using h2
    subst this
    rw [B124_9, h1, if_pos (nI_le (by omega) (by omega))]
    rfl
  | q :: r, i, u4, M, hw, hl, h1, h2, h3, h4 => by
    obtain ⟨w1, w2⟩ := hw q List.mem_cons_self
    obtain ⟨l1, l2⟩ := hl q List.mem_cons_self
    have hlen := yFl1_len q
    have h2 : i + (yFl1 q ++ yFl r).length = N := h2
    rw [List.length_append] at h2
    have h3 : ySg M 48 u i (yFl1 q ++ yFl r) := h3
    obtain ⟨s1, s2⟩ := ySg_app.mp h3
    have s1' : ySg M 48 u i ((q.1.map yCc ++ if q.1 = [] then [] else [yIf]) ++ (q.2.map yCc ++ [yEnd])) := s1
    obtain ⟨s3, s4⟩ := ySg_app.mp s1'
    obtain ⟨s5, s6⟩ := ySg_app.mp s4
    -- a value's line is worked out from j on, with an empty pile
    have fin : ∀ (j : Nat) (u4 : zV) (M1 : zM), zFo (yFu u) M M1 → yTop M1 u [] → j = i + (q.1.map yCc ++ if q.1 = [] then [] else [yIf]).length → ∃ M', zgo false (d + 3) 124 9 [zr 11 u, zr 31 0, zi 0, zi (nI j), u4] [] M1 = some (some (zi (yVal (fun k => zgI M 31 0 k) q.2)), M') ∧ zFo (yFu u) M M' := fun j u4 M1 f t hj => by
      subst hj
      have nm : (fun k => zgI M1 31 0 k) = fun k => zgI M 31 0 k := funext fun k => yFu_gI f (by omega)
      have hjl : (q.1.map yCc ++ if q.1 = [] then [] else [yIf]).length = q.1.length + (if q.1 = [] then 0 else 1) := by
        by_cases h : q.1 = []
        · simp [h]
        · simp [h]
      have hg : ySg M1 48 u (i + (q.1.map yCc ++ if q.1 = [] then [] else [yIf]).length) (q.2.map yCc) := ySg_fr s5 (fun s _ _ => yFu_gI f (by omega))
      obtain ⟨M2, u5, e2, f2, t2⟩ := L124a d u N hN q.2 (i + (q.1.map yCc ++ if q.1 = [] then [] else [yIf]).length) [] [yVal (fun k => zgI M 31 0 k) q.2] u4 M1 w2.1 ((yFu_gI f (by omega)).trans h1) (by omega) hg t (by simpa using l2) (by rw [nm]; exact yEx_val w2 _)
      have f3 := zFo_trans f f2
      have hE : zgI M2 48 u (i + (q.1.map yCc ++ if q.1 = [] then [] else [yIf]).length + q.2.length) = -1059 := by
        rw [yFu_gI f3 (by omega)]
        have := s6.1
        rw [List.length_map] at this
        exact this
      have hP := S127 (d + 2) u (yVal (fun k => zgI M 31 0 k) q.2) [] M2 t2.1 t2.2 (by simp)
      refine ⟨zsI M2 11 u 3 (nI 0), ?_, zFo_trans f3 (zFo_sI (zFo_refl _ M2) ⟨rfl, Or.inr ⟨rfl, rfl⟩⟩)⟩
      rw [e2, B124_9, yFu_gI f3 (by omega), h1, if_neg (nI_ge (by omega) (by omega)), at48n _ _ _ _ _ (by omega), hE]
      simp +decide only [B124_25, B124_43, hP, zbsome, zpu1, zpu0, cond_true, cond_false, zib0, zib1, zib_ite, zq00, zq20, zq22, zq90, zq99, zq40, zq44, zq100, zq1010, Bool.and_true, if_true, if_false, z1ne0, not_true_eq_false, not_false_eq_true, zite10, eq_self, and_true, true_and, and_false, false_and, ↓reduceIte, Int32.reduceLT, Int32.reduceLE, Int32.reduceAdd, Int32.reduceSub, Int32.reduceMul]
      rfl
    by_cases c : q.1 = []
    · obtain ⟨M', e, f⟩ := fin i u4 M (zFo_refl _ M) h4 (by simp [c])
      refine ⟨M', ?_, f⟩
      rw [e]
      show _ = some (some (zi (if q.1 = [] then _ else _)), M')
      rw [if_pos c]
    · have hw1 := w1.resolve_left c
      have s3' := s3
      rw [if_neg c] at s3'
      obtain ⟨s7, s8⟩ := ySg_app.mp s3'
      rw [if_neg c] at hlen
      obtain ⟨M1, u5, e1, f1, t1⟩ := L124a d u N hN q.1 i [] [yVal (fun k => zgI M 31 0 k) q.1] u4 M hw1.1 h1 (by omega) s7 h4 (by simpa using l1) (yEx_val hw1 _)
      have hI : zgI M1 48 u (i + q.1.length) = -1063 := by
        rw [yFu_gI f1 (by omega)]
        have := s8.1
        rw [List.length_map] at this
        exact this
      have hP := S127 (d + 2) u (yVal (fun k => zgI M 31 0 k) q.1) [] M1 t1.1 t1.2 (by simp)
      have f2 : zFo (yFu u) M (zsI M1 11 u 3 (nI 0)) := zFo_trans f1 (zFo_sI (zFo_refl _ M1) ⟨rfl, Or.inr ⟨rfl, rfl⟩⟩)
      have t2 : yTop (zsI M1 11 u 3 (nI 0)) u [] := ⟨by simp [zgI_sI], trivial⟩
      have hP' : zgo false (d + 2) 127 0 [zr 11 u] [] M1 = some (some (zi (yVal (fun k => zgI M 31 0 k) q.1)), zsI M1 11 u 3 (nI 0)) := hP
      by_cases v0 : yVal (fun k => zgI M 31 0 k) q.1 = 0
      · -- the rest of the line is passed over
        have g48 : ∀ s, zgI (zsI M1 11 u 3 (nI 0)) 48 u s = zgI M 48 u s := fun s => yFu_gI f2 (by omega)
        have h12 : zgI (zsI M1 11 u 3 (nI 0)) 11 u 2 = nI N := (yFu_gI f2 (by omega)).trans h1
        have hjl : (q.1.map yCc ++ if q.1 = [] then [] else [yIf]).length = q.1.length + 1 := by simp [c]
        rw [hjl] at s5 s6
        obtain ⟨u6, e3⟩ := L124p d u N hN q.2 (i + q.1.length + 1) (zi (-1063)) (zsI M1 11 u 3 (nI 0)) w2.1 h12 (by omega) (ySg_fr (by rw [show i + q.1.length + 1 = i + (q.1.length + 1) by omega]; exact s5) (fun s _ _ => g48 s))
        have hE : zgI (zsI M1 11 u 3 (nI 0)) 48 u (i + q.1.length + 1 + q.2.length) = -1059 := by
          rw [g48]
          have := s6.1
          rw [List.length_map, show i + (q.1.length + 1) + q.2.length = i + q.1.length + 1 + q.2.length by omega] at this
          exact this
        have nm : (fun k => zgI (zsI M1 11 u 3 (nI 0)) 31 0 k) = fun k => zgI M 31 0 k := funext fun k => yFu_gI f2 (by omega)
        obtain ⟨M', e4, f4⟩ := L124 d u N hN r (i + (yFl1 q).length) (zi (-1059)) (zsI M1 11 u 3 (nI 0)) (fun q' hq' => hw q' (List.mem_cons_of_mem _ hq')) (fun q' hq' => hl q' (List.mem_cons_of_mem _ hq')) h12 (by omega) (ySg_fr s2 (fun s _ _ => g48 s)) t2
        rw [nm] at e4
        refine ⟨M', ?_, zFo_trans f2 f4⟩
        have hx : yTx (fun k => zgI M 31 0 k) (q :: r) = yTx (fun k => zgI M 31 0 k) r := by
          show (if q.1 = [] then _ else if _ = 0 then _ else _) = _
          rw [if_neg c, if_pos v0]
        rw [e1, B124_9, yFu_gI f1 (by omega), h1, if_neg (nI_ge (by omega) (by omega)), at48n _ _ _ _ _ (by omega), hI, hx]
        simp +decide only [B124_25, B124_61, B124_69, B124_84, hP', v0, nI_1, zbsome, zpu1, zpu0, cond_true, cond_false, zib0, zib1, zib_ite, zq00, zq20, zq22, zq90, zq99, zq40, zq44, zq100, zq1010, Bool.and_true, if_true, if_false, z1ne0, not_true_eq_false, not_false_eq_true, zite10, eq_self, and_true, true_and, and_false, false_and, ↓reduceIte, Int32.reduceLT, Int32.reduceLE, Int32.reduceAdd, Int32.reduceSub, Int32.reduceMul]
        rw [e3, B124_9, h12, if_neg (nI_ge (by omega) (by omega)), at48n _ _ _ _ _ (by omega), hE]
        simp +decide only [B124_25, B124_84, nI_1, zbsome, zpu1, zpu0, cond_true, cond_false, zib0, zib1, zib_ite, zq00, zq20, zq22, zq90, zq99, zq40, zq44, zq100, zq1010, Bool.and_true, if_true, if_false, z1ne0, not_true_eq_false, not_false_eq_true, zite10, eq_self, and_true, true_and, and_false, false_and, ↓reduceIte, Int32.reduceLT, Int32.reduceLE, Int32.reduceAdd, Int32.reduceSub, Int32.reduceMul]
        rw [show i + q.1.length + 1 + q.2.length + 1 = i + (yFl1 q).length by omega]
        exact e4
      · obtain ⟨M', e, f⟩ := fin (i + q.1.length + 1) (zi (-1063)) _ f2 t2 (by simp [c]; omega)
        refine ⟨M', ?_, f⟩
        have hx : yTx (fun k => zgI M 31 0 k) (q :: r) = yVal (fun k => zgI M 31 0 k) q.2 := by
          show (if q.1 = [] then _ else if _ = 0 then _ else _) = _
          rw [if_neg c, if_neg v0]
        rw [e1, B124_9, yFu_gI f1 (by omega), h1, if_neg (nI_ge (by omega) (by omega)), at48n _ _ _ _ _ (by omega), hI, hx]
        simp +decide only [B124_25, B124_61, B124_69, B124_84, hP', v0, nI_1, zbsome, zpu1, zpu0, cond_true, cond_false, zib0, zib1, zib_ite, zq00, zq20, zq22, zq90, zq99, zq40, zq44, zq100, zq1010, Bool.and_true, if_true, if_false, z1ne0, not_true_eq_false, not_false_eq_true, zite10, eq_self, and_true, true_and, and_false, false_and, ↓reduceIte, Int32.reduceLT, Int32.reduceLE, Int32.reduceAdd, Int32.reduceSub, Int32.reduceMul]
        exact e
/-- lengths that a text has -/
def yLn (T : List (List yOp × List yOp)) : Prop := ∀ q, q ∈ T → q.1.length ≤ 120 ∧ q.2.length ≤ 120
/-- 'valueBy' -/
theorem S124 (d u : Nat) (u2 u3 u4 : zV) (T : List (List yOp × List yOp)) (M : zM) (hw : yWT T) (hl : yLn T) (hc : yCl M u T) : ∃ M', zgo false (d + 3) 124 0 [zr 11 u, zr 31 0, u2, u3, u4] [] M = some (some (zi (yTx (fun k => zgI M 31 0 k) T)), M') ∧ zFo (yFu u) M M' := by
  have f0 : zFo (yFu u) M (zsI M 11 u 3 0) := zFo_sI (zFo_refl _ M) ⟨rfl, Or.inr ⟨rfl, rfl⟩⟩
  have nm : (fun k => zgI (zsI M 11 u 3 0) 31 0 k) = fun k => zgI M 31 0 k := rfl
  obtain ⟨M', e, f⟩ := L124 d u (yFl T).length hc.2.1 T 0 u4 (zsI M 11 u 3 0) hw hl ((yFu_gI f0 (by omega)).trans hc.1) (by omega) (ySg_fr hc.2.2 (fun s _ _ => yFu_gI f0 (by omega))) ⟨by simp [zgI_sI]; rfl, trivial⟩
  rw [nm] at e
  exact ⟨M', by rw [B124_0]; exact e, zFo_trans f0 f⟩
