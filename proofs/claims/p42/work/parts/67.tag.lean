/-! ===== tags ===== -/
theorem yStp_congr {nm nm' : Nat → Int32} (h : ∀ k, k < 12 → nm k = nm' k) {o : yOp} (ho : yOk o) (st : List Int32) : yStp nm o st = yStp nm' o st := by
  obtain n | k | s := o
  · rfl
  · show some (nm k :: st) = some (nm' k :: st)
    rw [h k ho]
  · rfl
theorem yEv_congr {nm nm' : Nat → Int32} (h : ∀ k, k < 12 → nm k = nm' k) : ∀ {l : List yOp} (st : List Int32), (∀ o, o ∈ l → yOk o) → yEv nm l st = yEv nm' l st
  | [], st, _ => rfl
  | o :: r, st, ho => by
    show (yStp nm o st).bind (yEv nm r) = (yStp nm' o st).bind (yEv nm' r)
    rw [yStp_congr h (ho o List.mem_cons_self)]
    cases yStp nm' o st with
    | none => rfl
    | some s => exact yEv_congr h s (fun o' ho' => ho o' (List.mem_cons_of_mem _ ho'))
theorem yVal_congr {nm nm' : Nat → Int32} (h : ∀ k, k < 12 → nm k = nm' k) {l : List yOp} (hl : yEx l) : yVal nm l = yVal nm' l := by
  unfold yVal
  rw [yEv_congr h [] hl.1]
theorem yTx_congr {nm nm' : Nat → Int32} (h : ∀ k, k < 12 → nm k = nm' k) : ∀ {T : List (List yOp × List yOp)}, yWT T → yTx nm T = yTx nm' T
  | [], _ => rfl
  | q :: r, hw => by
    obtain ⟨w1, w2⟩ := hw q List.mem_cons_self
    have ih := yTx_congr h (T := r) (fun q' hq' => hw q' (List.mem_cons_of_mem _ hq'))
    show (if q.1 = [] then yVal nm q.2 else if yVal nm q.1 = 0 then yTx nm r else yVal nm q.2) = (if q.1 = [] then yVal nm' q.2 else if yVal nm' q.1 = 0 then yTx nm' r else yVal nm' q.2)
    rw [ih, yVal_congr h w2]
    by_cases c : q.1 = []
    · rw [if_pos c, if_pos c]
    · rw [if_neg c, if_neg c, yVal_congr h (w1.resolve_left c)]
def yHe (x l h : Int32) : Int32 := if x < l then l else if h < x then h else x
theorem S194y (b : Bool) (d : Nat) (v l h : Int32) (M : zM) : zgo b d 194 0 [zi v, zi l, zi h] [] M = some (some (zi (yHe v l h)), M) := S_held b d v l h M
theorem S171y (b : Bool) (d : Nat) (x l h : Int32) (M : zM) (hlh : l ≤ h) : zgo b d 171 0 [zi x, zi l, zi h] [] M = some (some (zi (yHe x l h)), M) := by
  rw [S171]
  unfold yHe
  congr 3
  grind
def yTag (T : List (List yOp × List yOp)) (v : Nat) : Int32 := yHe (yTx (fun k => if k = 4 then nI v else 0) T) (-9) 9
/-- a text of both, u its use -/
def yTxt (A B : zM) (u : Nat) (T : List (List yOp × List yOp)) : Prop := yWT T ∧ yLn T ∧ yCl A u T ∧ yMt B u T
def Rtx (M : zM) : Prop := ∃ T : Nat → List (List yOp × List yOp), (∀ u, u < 4 → yTxt M M u (T u)) ∧ ∀ v, 1 ≤ v → v ≤ 10 → zgI M 30 0 v = yTag (T 1) v
theorem yCl_fr {M M' : zM} {u : Nat} {T : List (List yOp × List yOp)} (h : yCl M u T) (e1 : zgI M' 11 u 2 = zgI M 11 u 2) (e2 : ∀ s, zgI M' 48 u s = zgI M 48 u s) : yCl M' u T := ⟨e1.trans h.1, h.2.1, ySg_fr h.2.2 (fun s _ _ => e2 s)⟩
theorem Rtx_fr {m : Nat → Bool} {M M' : zM} (h : zFr m M M') (hm : m 5 = false) (hm' : m 25 = false) (hR : Rtx M) : Rtx M' := by
  obtain ⟨T, h1, h2⟩ := hR
  refine ⟨T, fun u hu => ?_, fun v v1 v2 => ?_⟩
  · obtain ⟨a, b, c, e⟩ := h1 u hu
    refine ⟨a, b, yCl_fr c (h 11 u 2 hm).1 (fun s => (h 48 u s hm).1), yMt_fr hu (fun k s hk => (h k 0 s ?_).1) e⟩
    rcases hk with ⟨rfl | rfl, hs⟩ | ⟨rfl | rfl, hs⟩ | ⟨rfl, hs⟩
    · rw [show zown 63 0 s = (if s < 520 then 5 else 12) + 20 from rfl, if_pos hs]; exact hm'
    · rw [show zown 64 0 s = (if s < 520 then 5 else 12) + 20 from rfl, if_pos hs]; exact hm'
    · rw [show zown 66 0 s = (if s < 244 then 5 else 12) + 20 from rfl, if_pos hs]; exact hm'
    · rw [show zown 67 0 s = (if s < 244 then 5 else 12) + 20 from rfl, if_pos hs]; exact hm'
    · rw [show zown 65 0 s = (if s < 4 then 5 else 12) + 20 from rfl, if_pos hs]; exact hm'
  · rw [(h 30 0 v hm).1]
    exact h2 v v1 v2
/-- 'tagOf' of the model -/
theorem S229 (d v : Nat) (T : List (List yOp × List yOp)) (M : zM) (hw : yWT T) (h : yMt M 1 T) : ∃ M', zgo false (d + 3) 229 0 [zr 13 0, zi (nI v)] [] M = some (some (zi (yTag T v)), M') ∧ zFo (fun a b _ => (a = 68 ∨ a = 69) ∧ b = 0) M M' := by
  have z1 : zin 1 5 = true := rfl
  have z4 : zin 4 12 = true := rfl
  by_cases c : T = []
  · subst c
    have h0 : zgI M 65 0 1 = 0 := h.1
    refine ⟨M, ?_, zFo_refl _ M⟩
    simp +decide only [B229_0, B229_15, B229_27, B229_34, z1, zcl1, h0, zbsome, zpu1, zpu0, cond_true, cond_false, zib0, zib1, zib_ite, zq00, zq20, zq22, zq90, zq99, zq40, zq44, zq100, zq1010, Bool.and_true, if_true, if_false, z1ne0, not_true_eq_false, not_false_eq_true, zite10, eq_self, and_true, true_and, and_false, false_and, ↓reduceIte, Int32.reduceLT, Int32.reduceLE, Int32.reduceAdd, Int32.reduceSub, Int32.reduceMul]
    rfl
  · have hl : 0 < T.length := List.length_pos_iff.mpr c
    have h0 : ¬ zgI M 65 0 1 = 0 := by
      rw [h.1]
      exact nI_ne0 hl (by have := h.2.1; omega)
    obtain ⟨M1, e1, f1, v1⟩ := S228 (d + 2) zu M
    have f2 : zFo (fun a b _ => a = 68 ∧ b = 0) M (zsI M1 68 0 4 (nI v)) := zFo_trans f1 (zFo_sI (zFo_refl _ M1) ⟨rfl, rfl⟩)
    obtain ⟨M2, e2, f3⟩ := S227 d 1 zu zu T (zsI M1 68 0 4 (nI v)) (by omega) hw (yMt_fr (by omega) (fun k s hk => (f2 k 0 s (by omega)).1) h)
    have nm : yTx (fun k => zgI (zsI M1 68 0 4 (nI v)) 68 0 k) T = yTx (fun k => if k = 4 then nI v else 0) T := yTx_congr (fun k hk => by
      rw [zgI_sI]
      by_cases q : k = 4
      · rw [if_pos ⟨rfl, rfl, q⟩, if_pos q]
      · rw [if_neg (by omega), if_neg q]
        exact v1 k hk) hw
    rw [nm] at e2
    refine ⟨M2, ?_, zFo_trans (zFo_mono f2 (fun a b c q => ⟨Or.inl q.1, q.2⟩)) (zFo_mono f3 (fun a b c q => ⟨Or.inr q.2, q.1⟩))⟩
    have e2' : zgo false (d + 2) 227 0 [zr 13 0, zi 1, zu, zu] [] (zsI M1 68 0 4 (nI v)) = some (some (zi (yTx (fun k => if k = 4 then nI v else 0) T)), M2) := e2
    simp +decide only [B229_0, B229_15, B229_27, B229_34, z1, z4, zcl1, zcl4, h0, e1, e2', S194y, zbsome, zpu1, zpu0, cond_true, cond_false, zib0, zib1, zib_ite, zq00, zq20, zq22, zq90, zq99, zq40, zq44, zq100, zq1010, Bool.and_true, if_true, if_false, z1ne0, not_true_eq_false, not_false_eq_true, zite10, eq_self, and_true, true_and, and_false, false_and, ↓reduceIte, Int32.reduceLT, Int32.reduceLE, Int32.reduceAdd, Int32.reduceSub, Int32.reduceMul]
    rfl
/-- 'tag' -/
theorem Q5 (d : Nat) (x : Int32) (M : zM) (h : Rtx M) : ∃ (y : Int32) (M2 : zM), zgo false (d + 4) 135 0 [zr 12 0, zi x] [] M = some (some (zi y), M) ∧ zgo false (d + 4) 230 0 [zr 13 0, zi x] [] M = some (some (zi y), M2) ∧ zFr (Nat.beq 32) M M2 := by
  obtain ⟨T, h1, h2⟩ := h
  by_cases ok : 1 ≤ x ∧ x ≤ 10
  case neg =>
    refine ⟨-2000000000, M, ?_, ?_, zFr_refl _ M⟩
    · by_cases c : x < 1
      · simp +decide only [B135_0, B135_22, B135_25, B135_27, c, zbsome, zpu1, zpu0, cond_true, cond_false, zib0, zib1, zib_ite, zq00, zq20, zq22, zq90, zq99, zq40, zq44, zq100, zq1010, Bool.and_true, if_true, if_false, z1ne0, not_true_eq_false, not_false_eq_true, zite10, eq_self, and_true, true_and, and_false, false_and, ↓reduceIte, Int32.reduceLT, Int32.reduceLE, Int32.reduceAdd, Int32.reduceSub, Int32.reduceMul]
      · have c2 : 10 < x := by grind
        simp +decide only [B135_0, B135_22, B135_25, B135_27, c, c2, zbsome, zpu1, zpu0, cond_true, cond_false, zib0, zib1, zib_ite, zq00, zq20, zq22, zq90, zq99, zq40, zq44, zq100, zq1010, Bool.and_true, if_true, if_false, z1ne0, not_true_eq_false, not_false_eq_true, zite10, eq_self, and_true, true_and, and_false, false_and, ↓reduceIte, Int32.reduceLT, Int32.reduceLE, Int32.reduceAdd, Int32.reduceSub, Int32.reduceMul]
    · simp +decide only [B230_0, B230_7, B230_15, B230_20, S_in, ok, zbsome, zpu1, zpu0, cond_true, cond_false, zib0, zib1, zib_ite, zq00, zq20, zq22, zq90, zq99, zq40, zq44, zq100, zq1010, Bool.and_true, if_true, if_false, z1ne0, not_true_eq_false, not_false_eq_true, zite10, eq_self, and_true, true_and, and_false, false_and, ↓reduceIte, Int32.reduceLT, Int32.reduceLE, Int32.reduceAdd, Int32.reduceSub, Int32.reduceMul]
  obtain ⟨v, hv, rfl⟩ := zin_of (zin11.mpr ⟨by grind, by grind⟩ : zin x 11 = true)
  have hv1 : 1 ≤ v := by
    have := ok.1
    rw [show (1 : Int32) = nI 1 from rfl, nI_leI (by omega) (by omega)] at this
    exact this
  have c1 : ¬ nI v < 1 := z_le_nlt ok.1
  obtain ⟨a, b, c, e⟩ := h1 1 (by omega)
  obtain ⟨M2, e2, f⟩ := S229 d v (T 1) M a e
  refine ⟨yTag (T 1) v, M2, ?_, ?_, zFr_of f (fun k i s q => by obtain ⟨rfl | rfl, rfl⟩ := q <;> rfl)⟩
  · simp +decide only [B135_0, B135_22, B135_25, B135_27, c1, z_le_nlt ok.2, at30n _ _ _ _ _ hv, h2 v hv1 (show v ≤ 10 by omega), zbsome, zpu1, zpu0, cond_true, cond_false, zib0, zib1, zib_ite, zq00, zq20, zq22, zq90, zq99, zq40, zq44, zq100, zq1010, Bool.and_true, if_true, if_false, z1ne0, not_true_eq_false, not_false_eq_true, zite10, eq_self, and_true, true_and, and_false, false_and, ↓reduceIte, Int32.reduceLT, Int32.reduceLE, Int32.reduceAdd, Int32.reduceSub, Int32.reduceMul]
  · simp +decide only [B230_0, B230_7, B230_15, B230_20, S_in, ok, e2, zbsome, zpu1, zpu0, cond_true, cond_false, zib0, zib1, zib_ite, zq00, zq20, zq22, zq90, zq99, zq40, zq44, zq100, zq1010, Bool.and_true, if_true, if_false, z1ne0, not_true_eq_false, not_false_eq_true, zite10, eq_self, and_true, true_and, and_false, false_and, ↓reduceIte, Int32.reduceLT, Int32.reduceLE, Int32.reduceAdd, Int32.reduceSub, Int32.reduceMul]
