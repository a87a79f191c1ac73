/-! ===== what a text does not name ===== -/
theorem L123 (d u : Nat) : ∀ (l : List Int32) (j : Nat) (A : zM), ySg A 48 u j l → zgI A 11 u 2 = nI (j + l.length) → j + l.length ≤ 128 → ∃ b : Bool, zgo false (d + 1) 123 2 [zr 11 u, zi 7, zi (nI j)] [] A = some (some (zi (bI b)), A) ∧ (b = false → ∀ x, x ∈ l → ¬ x = -8)
  | [], j, A, _, h2, hl => by
    refine ⟨false, ?_, fun _ x hx => (by cases hx)⟩
    have h2 : zgI A 11 u 2 = nI j := h2
    have hl : j ≤ 128 := hl
    rw [B123_2, h2, if_pos (nI_le (by omega) (by omega))]
    rfl
  | x :: r, j, A, hg, h2, hl => by
    have hl : j + (r.length + 1) ≤ 128 := hl
    have h2 : zgI A 11 u 2 = nI (j + (r.length + 1)) := h2
    obtain ⟨g1, g2⟩ := hg
    have k : zgo false (d + 1) 123 2 [zr 11 u, zi 7, zi (nI j)] [] A = if x = (-1) - 7 then some (some (zi 1), A) else zgo false (d + 1) 123 2 [zr 11 u, zi 7, zi (nI (j + 1))] [] A := by
      rw [B123_2, h2, if_neg (nI_ge (by omega) (by omega)), at48n _ _ _ _ _ (by omega), zbsome, zpu1, g1, B123_18, nI_1]
    by_cases c : x = (-1) - 7
    · refine ⟨true, ?_, fun w => by cases w⟩
      rw [k, if_pos c]
      rfl
    · obtain ⟨b, e, w⟩ := L123 d u r (j + 1) A g2 (by rw [h2]; congr 1; omega) (by omega)
      refine ⟨b, ?_, fun hb y hy => ?_⟩
      · rw [k, if_neg c]
        exact e
      · rcases List.mem_cons.mp hy with z | z
        · rw [z]
          exact c
        · exact w hb y z
theorem yFl_mem {o : yOp} {q : List yOp × List yOp} (ho : o ∈ q.1 ∨ o ∈ q.2) : ∀ {T : List (List yOp × List yOp)}, q ∈ T → yCc o ∈ yFl T
  | [], h => by cases h
  | t :: r, h => by
    show yCc o ∈ yFl1 t ++ yFl r
    rcases List.mem_cons.mp h with z | z
    · refine List.mem_append_left _ ?_
      rw [← z]
      unfold yFl1
      rcases ho with y | y
      · exact List.mem_append_left _ (List.mem_append_left _ (List.mem_map_of_mem y))
      · exact List.mem_append_right _ (List.mem_append_left _ (List.mem_map_of_mem y))
    · exact List.mem_append_right _ (yFl_mem ho z)
theorem yStp_no7 {nm nm' : Nat → Int32} (h : ∀ k, k < 12 → ¬ k = 7 → nm k = nm' k) {o : yOp} (ho : yOk o) (hc : ¬ yCc o = -8) (st : List Int32) : yStp nm o st = yStp nm' o st := by
  obtain n | k | s := o
  · rfl
  · show some (nm k :: st) = some (nm' k :: st)
    rw [h k ho (fun z => hc (by rw [z]; rfl))]
  · rfl
theorem yEv_no7 {nm nm' : Nat → Int32} (h : ∀ k, k < 12 → ¬ k = 7 → nm k = nm' k) : ∀ {l : List yOp} (st : List Int32), (∀ o, o ∈ l → yOk o ∧ ¬ yCc o = -8) → yEv nm l st = yEv nm' l st
  | [], st, _ => rfl
  | o :: r, st, hl => by
    obtain ⟨h1, h2⟩ := hl o List.mem_cons_self
    show (yStp nm o st).bind (yEv nm r) = (yStp nm' o st).bind (yEv nm' r)
    rw [yStp_no7 h h1 h2]
    cases yStp nm' o st with
    | none => rfl
    | some s => exact yEv_no7 h s (fun o' ho' => hl o' (List.mem_cons_of_mem _ ho'))
theorem yVal_no7 {nm nm' : Nat → Int32} (h : ∀ k, k < 12 → ¬ k = 7 → nm k = nm' k) {l : List yOp} (hl : ∀ o, o ∈ l → yOk o ∧ ¬ yCc o = -8) : yVal nm l = yVal nm' l := by
  unfold yVal
  rw [yEv_no7 h [] hl]
theorem yTx_no7 {nm nm' : Nat → Int32} (h : ∀ k, k < 12 → ¬ k = 7 → nm k = nm' k) : ∀ {T : List (List yOp × List yOp)}, yWT T → (∀ q, q ∈ T → ∀ o, o ∈ q.1 ∨ o ∈ q.2 → ¬ yCc o = -8) → yTx nm T = yTx nm' T
  | [], _, _ => rfl
  | q :: r, hw, hn => by
    obtain ⟨w1, w2⟩ := hw q List.mem_cons_self
    have hq := hn q List.mem_cons_self
    have ih := yTx_no7 h (T := r) (fun q' hq' => hw q' (List.mem_cons_of_mem _ hq')) (fun q' hq' => hn q' (List.mem_cons_of_mem _ hq'))
    have e2 := yVal_no7 h (l := q.2) (fun o ho => ⟨w2.1 o ho, hq o (Or.inr ho)⟩)
    show (if q.1 = [] then yVal nm q.2 else if yVal nm q.1 = 0 then yTx nm r else yVal nm q.2) = (if q.1 = [] then yVal nm' q.2 else if yVal nm' q.1 = 0 then yTx nm' r else yVal nm' q.2)
    rw [ih, e2]
    by_cases c : q.1 = []
    · rw [if_pos c, if_pos c]
    · have w1 := w1.resolve_left c
      rw [if_neg c, if_neg c, yVal_no7 h (l := q.1) (fun o ho => ⟨w1.1 o ho, hq o (Or.inl ho)⟩)]
/-- 'mentions' W: what it says no to does not hang on W -/
theorem S123 (d u : Nat) (w : zV) {T : List (List yOp × List yOp)} {A : zM} (hw : yWT T) (hc : yCl A u T) : ∃ b : Bool, zgo false (d + 1) 123 0 [zr 11 u, zi 7, w] [] A = some (some (zi (bI b)), A) ∧ (b = false → ∀ (b' lb w w' rr c t : Int32), yPt T b' lb w rr c t = yPt T b' lb w' rr c t) := by
  obtain ⟨b, e, h⟩ := L123 d u (yFl T) 0 A hc.2.2 (by rw [Nat.zero_add]; exact hc.1) (by have := hc.2.1; omega)
  refine ⟨b, ?_, fun hb b' lb w w' rr c t => ?_⟩
  · rw [B123_0]
    exact e
  · have h := h hb
    unfold yPt
    by_cases c0 : T = []
    · rw [if_pos c0, if_pos c0]
    · rw [if_neg c0, if_neg c0, yTx_no7 (nm := yNq b' lb w rr c t) (nm' := yNq b' lb w' rr c t) (fun k hk h7 => by
        unfold yNq
        rw [if_neg h7, if_neg h7]) hw (fun q hq o ho => h _ (yFl_mem ho hq))]
/-! ===== before a hand ===== -/
/-- the shoe between hands, its seed aside -/
def ySho (i P C : Nat) (A B : zM) : Prop := ∃ (g : Nat) (sn : Nat → Nat), yNm i A B P C g sn ∧ ((zgI A 10 i 9 = 1 ∧ (zgI B 13 0 5 = 0 ∨ zgI B 13 0 59 = 1)) ∨ (zgI A 10 i 9 = 0 ∧ zgI B 13 0 5 = 1 ∧ zgI B 13 0 59 = 0 ∧ ∃ c, yDk i A B P g sn c 0))
theorem H115 (d i : Nat) (x1 x2 : Int32) (u3 u4 : zV) {A B : zM} {P C : Nat} (hs : ySho i P C A B) : ∃ (A1 B1 : zM) (g : Nat) (sn c : Nat → Nat), zgo false (d + 4) 115 0 [zr 10 i] [] A = some (none, A1) ∧ zgo false (d + 5) 271 0 [zr 13 0, zi x1, zi x2, u3, u4] [] B = zgo false (d + 5) 271 37 [zr 13 0, zi x1, zi x2, u3, u4] [] B1 ∧ zFo (yShA i) A A1 ∧ zFo yShB B B1 ∧ yNm i A1 B1 P C g sn ∧ yDk i A1 B1 P g sn c 0 ∧ zgI A1 10 i 9 = 0 ∧ zgI B1 13 0 5 = 1 := by
  obtain ⟨g, sn, hn, hd⟩ := hs
  have shf : ∃ (A1 B1 : zM) (c : Nat → Nat), zgo false (d + 4) 115 26 [zr 10 i] [] A = some (none, A1) ∧ zgo false (d + 5) 271 33 [zr 13 0, zi x1, zi x2, u3, u4] [] B = zgo false (d + 5) 271 37 [zr 13 0, zi x1, zi x2, u3, u4] [] B1 ∧ zFo (yShA i) A A1 ∧ zFo yShB B B1 ∧ yNm i A1 B1 P C 1 (fun _ => 0) ∧ yDk i A1 B1 P 1 (fun _ => 0) c 0 ∧ zgI A1 10 i 9 = 0 ∧ zgI B1 13 0 5 = 1 := by
    obtain ⟨A1, B1, e1, e2, f1, f2, n, ⟨c, k⟩, z1, z2⟩ := H119 (d + 1) (d + 2) i zu zu zu zu zu zu zu zu hn
    have e1 : zgo false (d + 3) 119 0 [zr 10 i, zu, zu, zu, zu] [] A = some (none, A1) := e1
    have e2 : zgo false (d + 4) 199 0 [zr 13 0, zu, zu, zu, zu] [] B = some (none, B1) := e2
    refine ⟨A1, B1, c, ?_, ?_, f1, f2, n, k, z1, z2⟩
    · rw [B115_26, e1, zbsome, zpu0, B115_30]
    · rw [B271_33, e2, zbsome, zpu0]
  obtain ⟨A1, B1, c, s1, s2, s3, s4, s5, s6, s7, s8⟩ := shf
  rcases hd with ⟨h9, h5⟩ | ⟨h9, h5, h59, c', hk⟩
  · refine ⟨A1, B1, 1, _, c, ?_, ?_, s3, s4, s5, s6, s7, s8⟩
    · rw [B115_0, h9, if_neg (by decide), s1]
    · rw [B271_0]
      rcases h5 with h | h
      · rw [if_pos h, s2]
      · by_cases y : zgI B 13 0 5 = 0
        · rw [if_pos y, s2]
        · rw [if_neg y, h, if_neg (by decide), s2]
  · have e108 : zgo false (d + 3) 108 0 [zr 10 i] [] A = some (some (zi (nI (52 * P))), A) := S108 (d + 3) i (yNm_A hn)
    have n100 : ¬ (100 : Int32) = 0 := by decide
    have ka : zgo false (d + 4) 115 0 [zr 10 i] [] A = if nI g < (nI (52 * P) * nI C) / 100 then zgo false (d + 4) 115 30 [zr 10 i] [] A else zgo false (d + 4) 115 26 [zr 10 i] [] A := by
      rw [B115_0, h9, if_pos rfl, e108, zbsome, hn.2.2.2.2.1.1]
      show zgo false (d + 4) 115 15 [zr 10 i] [zi (nI (52 * P)), zi (nI g)] A = _
      rw [B115_15, if_neg n100, hn.2.2.1.1]
    have kb : zgo false (d + 5) 271 0 [zr 13 0, zi x1, zi x2, u3, u4] [] B = if nI g < (nI (52 * P) * nI C) / 100 then zgo false (d + 5) 271 37 [zr 13 0, zi x1, zi x2, u3, u4] [] B else zgo false (d + 5) 271 33 [zr 13 0, zi x1, zi x2, u3, u4] [] B := by
      rw [B271_0, h5, if_neg (by decide), h59, if_pos rfl, B195_0, zbsome, hn.2.1.2, hn.2.2.2.2.1.2, show (52 : Int32) = nI 52 from rfl, pk_mul]
      show zgo false (d + 5) 271 22 [zr 13 0, zi x1, zi x2, u3, u4] [zi (nI (52 * P)), zi (nI g)] B = _
      rw [B271_22, if_neg n100, hn.2.2.1.2]
    by_cases q : nI g < (nI (52 * P) * nI C) / 100
    · rw [if_pos q] at ka kb
      refine ⟨A, B, g, sn, c', ?_, kb, zFo_refl _ A, zFo_refl _ B, hn, hk, h9, h5⟩
      rw [ka, B115_30]
    · rw [if_neg q] at ka kb
      exact ⟨A1, B1, 1, _, c, ka.trans s1, kb.trans s2, s3, s4, s5, s6, s7, s8⟩
/-- 'copyLeft' -/
theorem L113d (d i di : Nat) {B : zM} {P C g : Nat} {sn : Nat → Nat} : ∀ (j n : Nat) (A : zM), n + j = 10 → yNm i A B P C g sn → (∀ v, 1 ≤ v → v ≤ n → zgI A 28 di v = nI (yLf P sn v)) → ∃ A', zgo false (d + 2) 113 2 [zr 10 i, zr 28 di, zi (nI (n + 1))] [] A = some (none, A') ∧ zFo (fun a b _ => a = 28 ∧ b = di) A A' ∧ ∀ v, 1 ≤ v → v ≤ 10 → zgI A' 28 di v = nI (yLf P sn v)
  | 0, n, A, hn, _, h => by
    have hn : n = 10 := hn
    subst hn
    refine ⟨A, ?_, zFo_refl _ A, h⟩
    rw [B113_2, if_pos (by decide)]
  | j + 1, n, A, hn, hN, h => by
    have f1 : zFo (fun a b _ => a = 28 ∧ b = di) A (zsI A 28 di (n + 1) (nI (yLf P sn (n + 1)))) := zFo_sI (zFo_refl _ A) ⟨rfl, rfl⟩
    obtain ⟨A', e, f, w⟩ := L113d d i di j (n + 1) (zsI A 28 di (n + 1) (nI (yLf P sn (n + 1)))) (by omega) (yNm_fr hN (fun s _ _ => (f1 10 i s (by omega)).1) (fun s _ => (f1 47 i s (by omega)).1) (fun _ _ _ _ => rfl) (fun _ _ => rfl)) (fun v v1 v2 => by
      rw [zgI_sI]
      by_cases z : v = n + 1
      · rw [if_pos ⟨rfl, rfl, z⟩, z]
      · rw [if_neg (fun y => z y.2.2)]
        exact h v v1 (by omega))
    refine ⟨A', ?_, zFo_trans f1 f, w⟩
    have e112 : zgo false (d + 1) 112 0 [zr 10 i, zi (nI (n + 1))] [] A = some (some (zi (nI (yLf P sn (n + 1)))), A) := S112 d i (n + 1) (yNm_A hN) (by omega)
    rw [B113_2, if_neg (show ¬ (10 : Int32) < nI (n + 1) from nI_nlt (a := 10) (by omega) (by omega)), e112, zbsome]
    show zgo false (d + 2) 113 15 [zr 10 i, zr 28 di, zi (nI (n + 1))] [zi (nI (yLf P sn (n + 1))), zi (nI (n + 1)), zr 28 di] A = _
    rw [B113_15, se28n _ _ _ _ _ _ (by omega), zbsome, zpu0, B113_18, nI_1]
    exact e
/-- 'begin' -/
theorem K21 (d i di : Nat) {A B : zM} {P C g : Nat} {sn : Nat → Nat} (hn : yNm i A B P C g sn) : ∃ A', zgo false (d + 4) 21 0 [zr 4 di, zr 10 i] [] A = some (none, A') ∧ zFo (fun a b c => b = di ∧ (a = 28 ∨ (a = 4 ∧ ((5 ≤ c ∧ c ≤ 8) ∨ (10 ≤ c ∧ c ≤ 15) ∨ (17 ≤ c ∧ c ≤ 19))))) A A' ∧ (∀ s, (5 ≤ s ∧ s ≤ 8) ∨ (10 ≤ s ∧ s ≤ 13) ∨ (17 ≤ s ∧ s ≤ 19) → zgI A' 4 di s = 0) ∧ zgI A' 4 di 14 = zgI A 10 i 8 ∧ zgI A' 4 di 15 = yTc (zgI A 10 i 8) (yLf P sn 0) ∧ ∀ v, 1 ≤ v → v ≤ 10 → zgI A' 28 di v = nI (yLf P sn v) := by
  obtain ⟨A1, hA1⟩ : ∃ A1, A1 = zsI (zsI (zsI (zsI (zsI (zsI (zsI (zsI (zsI (zsI (zsI A 4 di 5 0) 4 di 6 0) 4 di 7 0) 4 di 8 0) 4 di 10 0) 4 di 11 0) 4 di 12 0) 4 di 13 0) 4 di 17 0) 4 di 18 0) 4 di 19 0 := ⟨_, rfl⟩
  have f1 : zFo (fun a b c => b = di ∧ (a = 28 ∨ (a = 4 ∧ ((5 ≤ c ∧ c ≤ 8) ∨ (10 ≤ c ∧ c ≤ 15) ∨ (17 ≤ c ∧ c ≤ 19))))) A A1 := by
    rw [hA1]
    exact zFo_sI (zFo_sI (zFo_sI (zFo_sI (zFo_sI (zFo_sI (zFo_sI (zFo_sI (zFo_sI (zFo_sI (zFo_sI (zFo_refl _ A) (by omega)) (by omega)) (by omega)) (by omega)) (by omega)) (by omega)) (by omega)) (by omega)) (by omega)) (by omega)) (by omega)
  have v1 : ∀ s, (5 ≤ s ∧ s ≤ 8) ∨ (10 ≤ s ∧ s ≤ 13) ∨ (17 ≤ s ∧ s ≤ 19) → zgI A1 4 di s = 0 := fun s hs => by
    rw [hA1]
    rcases (by omega : s = 5 ∨ s = 6 ∨ s = 7 ∨ s = 8 ∨ s = 10 ∨ s = 11 ∨ s = 12 ∨ s = 13 ∨ s = 17 ∨ s = 18 ∨ s = 19) with rfl | rfl | rfl | rfl | rfl | rfl | rfl | rfl | rfl | rfl | rfl <;> simp +decide only [zgI_sI, and_true, true_and, and_self, if_true, if_false, ↓reduceIte]
  have hn1 : yNm i A1 B P C g sn := yNm_fr hn (fun s _ _ => (f1 10 i s (by omega)).1) (fun s _ => (f1 47 i s (by omega)).1) (fun _ _ _ _ => rfl) (fun _ _ => rfl)
  obtain ⟨A2, e2, f2, w2⟩ := L113d (d + 1) i di 10 0 A1 rfl hn1 (fun v v1 v2 => by omega)
  have e113 : zgo false (d + 3) 113 0 [zr 10 i, zr 28 di, zu] [] A1 = some (none, A2) := by
    rw [B113_0]
    exact e2
  obtain ⟨A3, hA3⟩ : ∃ A3, A3 = zsI A2 4 di 14 (zgI A2 10 i 8) := ⟨_, rfl⟩
  have f3 : zFo (fun a b c => b = di ∧ a = 4 ∧ c = 14) A2 A3 := by
    rw [hA3]
    exact zFo_sI (zFo_refl _ A2) ⟨rfl, rfl, rfl⟩
  have f13 : zFo (fun a b c => b = di ∧ (a = 28 ∨ (a = 4 ∧ c = 14))) A1 A3 := zFo_trans (zFo_mono f2 (fun a b c y => by omega)) (zFo_mono f3 (fun a b c y => by omega))
  have hn3 : yNm i A3 B P C g sn := yNm_fr hn1 (fun s _ _ => (f13 10 i s (by omega)).1) (fun s _ => (f13 47 i s (by omega)).1) (fun _ _ _ _ => rfl) (fun _ _ => rfl)
  have ec : zgI A3 10 i 8 = zgI A 10 i 8 := by rw [(f13 10 i 8 (by omega)).1, (f1 10 i 8 (by omega)).1]
  have e114 : zgo false (d + 3) 114 0 [zr 10 i, zu] [] A3 = some (some (zi (yTc (zgI A 10 i 8) (yLf P sn 0))), A3) := by
    rw [S114 (d + 3) i zu (yNm_A hn3), ec]
  refine ⟨zsI A3 4 di 15 (yTc (zgI A 10 i 8) (yLf P sn 0)), ?_, ?_, fun s hs => ?_, ?_, ?_, fun v v1 v2 => ?_⟩
  · rw [B21_0, B21_20, B21_40, ← hA1, e113, zbsome, zpu0, B21_63, ← hA3, e114, zbsome]
    show zgo false (d + 4) 21 76 [zr 4 di, zr 10 i] [zi (yTc (zgI A 10 i 8) (yLf P sn 0)), zr 4 di] A3 = _
    rw [B21_76]
  · exact zFo_sI (zFo_trans f1 (zFo_mono f13 (fun a b c y => by omega))) (by omega)
  · rw [zgI_sI, if_neg (by omega), (f13 4 di s (by omega)).1, v1 s hs]
  · rw [zgI_sI, if_neg (by omega), hA3, zgI_sI, if_pos ⟨rfl, rfl, rfl⟩, (f2 10 i 8 (by omega)).1, (f1 10 i 8 (by omega)).1]
  · rw [zgI_sI, if_pos ⟨rfl, rfl, rfl⟩]
  · rw [zgI_sI, if_neg (by omega), (f3 28 di v (by omega)).1]
    exact w2 v v1 v2
/-- the same by the model -/
theorem L271 (d i h : Nat) (hh : h < 60) (x1 x3 : Int32) {A : zM} {P C g : Nat} {sn : Nat → Nat} : ∀ (j n : Nat) (B : zM), n + j = 11 → yNm i A B P C g sn → (∀ v, v < n → zgI B 95 0 (11 * h + v) = nI (yLf P sn v)) → ∃ B', zgo false (d + 2) 271 89 [zr 13 0, zi x1, zi (nI h), zi x3, zi (nI n)] [] B = zgo false (d + 2) 271 89 [zr 13 0, zi x1, zi (nI h), zi x3, zi (nI 11)] [] B' ∧ zFo (fun a b c => a = 95 ∧ b = 0 ∧ 11 * h ≤ c ∧ c < 11 * h + 11) B B' ∧ ∀ v, v ≤ 10 → zgI B' 95 0 (11 * h + v) = nI (yLf P sn v)
  | 0, n, B, hn, _, w => by
    have hn : n = 11 := hn
    subst hn
    exact ⟨B, rfl, zFo_refl _ B, fun v v1 => w v (by omega)⟩
  | j + 1, n, B, hn, hN, w => by
    have z1 : zin (nI (11 * h + n)) 660 = true := zin_nI (by omega) (by omega)
    have c1 : (nI (11 * h + n)).toNatClampNeg = 11 * h + n := nI_clamp (by omega)
    have f1 : zFo (fun a b c => a = 95 ∧ b = 0 ∧ 11 * h ≤ c ∧ c < 11 * h + 11) B (zsI B 95 0 (11 * h + n) (nI (yLf P sn n))) := zFo_sI (zFo_refl _ B) (by omega)
    obtain ⟨B', e, f, w'⟩ := L271 d i h hh x1 x3 j (n + 1) (zsI B 95 0 (11 * h + n) (nI (yLf P sn n))) (by omega) (yNm_fr hN (fun _ _ _ => rfl) (fun _ _ => rfl) (fun s _ _ _ => (f1 13 0 s (by omega)).1) (fun s _ => (f1 56 0 s (by omega)).1)) (fun v v1 => by
      rw [zgI_sI]
      by_cases z : v = n
      · rw [if_pos (by omega), z]
      · rw [if_neg (by omega)]
        exact w v (by omega))
    refine ⟨B', ?_, zFo_trans f1 f, w'⟩
    have e197 : zgo false (d + 1) 197 0 [zr 13 0, zi (nI n)] [] B = some (some (zi (nI (yLf P sn n))), B) := S197 d i n (yNm_B hN) (by omega)
    have ei : 11 * nI h + nI n = nI (11 * h + n) := by rw [show (11 : Int32) = nI 11 from rfl, pk_mul, nI_add]
    rw [B271_89, if_neg (show ¬ (10 : Int32) < nI n from nI_nlt (a := 10) (by omega) (by omega)), e197, zbsome, ei]
    show zgo false (d + 2) 271 113 [zr 13 0, zi x1, zi (nI h), zi x3, zi (nI n)] [zi (nI (yLf P sn n)), zi (nI (11 * h + n)), zr 95 0] B = _
    rw [B271_113, if_pos z1, c1, nI_1]
    exact e
