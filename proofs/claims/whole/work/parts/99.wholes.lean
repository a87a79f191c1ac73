/-! ===== odds of a whole shoe, loaded by both ===== -/
def oU (v : Nat) : Nat := if v = 10 then 16 else 4
theorem oU_sum : ysm oU = 52 := rfl
theorem L185 (d : Nat) : ∀ (j n : Nat) (A : zM), n + j = 10 → (∀ v, 1 ≤ v → v ≤ n → zgI A 52 0 v = nI (oU v)) → ∃ A', zgo false (d + 1) 185 2 [zr 12 0, zi (nI (n + 1))] [] A = zgo false (d + 1) 185 2 [zr 12 0, zi (nI 11)] [] A' ∧ zFo (fun a b _ => a = 52 ∧ b = 0) A A' ∧ ∀ v, 1 ≤ v → v ≤ 10 → zgI A' 52 0 v = nI (oU v)
  | 0, n, A, hn, hv => by
    have hn : n = 10 := hn
    subst hn
    exact ⟨A, rfl, zFo_refl _ A, hv⟩
  | j + 1, n, A, hn, hv => by
    have c : ¬ (10 : Int32) < nI (n + 1) := nI_nlt (a := 10) (by omega) (by omega)
    have l10 : nI (n + 1) = 10 ↔ n + 1 = 10 := nI_eq (b := 10) (by omega) (by omega)
    have f1 : zFo (fun a b _ => a = 52 ∧ b = 0) A (zsI A 52 0 (n + 1) (nI (oU (n + 1)))) := zFo_sI (zFo_refl _ A) ⟨rfl, rfl⟩
    obtain ⟨A', e, f, w⟩ := L185 d j (n + 1) (zsI A 52 0 (n + 1) (nI (oU (n + 1)))) (by omega) (fun v v1 v2 => by
      rw [zgI_sI]
      by_cases z : v = n + 1
      · rw [if_pos ⟨rfl, rfl, z⟩, z]
      · rw [if_neg (by omega)]
        exact hv v v1 (by omega))
    refine ⟨A', ?_, zFo_trans f1 f, w⟩
    have k25 : zgo false (d + 1) 185 2 [zr 12 0, zi (nI (n + 1))] [] A = zgo false (d + 1) 185 25 [zr 12 0, zi (nI (n + 1))] [zi (nI (oU (n + 1))), zi (nI (n + 1)), zr 52 0] A := by
      rw [B185_2, if_neg c]
      by_cases z : n + 1 = 10
      · have eu : oU (n + 1) = 16 := if_pos z
        rw [if_pos (l10.mpr z), eu]
        rfl
      · have eu : oU (n + 1) = 4 := if_neg z
        rw [if_neg (mt l10.mp z), eu]
        rfl
    rw [k25, B185_25, se52n _ _ _ _ _ _ (by omega), zbsome, zpu0, B185_28, nI_1]
    exact e
/-- 'oddsAreOfWhole' -/
theorem S185 (d : Nat) (u1 : zV) {A : zM} {q : Nat → Nat} (hA : RafJ A) (hq : (∀ w, w < 4 → zgI A 29 0 w = nI (q w)) ∧ (q 0 ≤ 1 ∧ 100 ≤ q 1 ∧ q 1 ≤ 200 ∧ q 2 ≤ 1 ∧ 15 ≤ q 3 ∧ q 3 ≤ 19)) : ∃ A', zgo false (d + 4) 185 0 [zr 12 0, u1] [] A = some (some (zi 1), A') ∧ zFo (fun a b _ => (a = 52 ∧ b = 0) ∨ (b = 1 ∧ (a = 33 ∨ a = 34 ∨ a = 36 ∨ a = 7))) A A' ∧ RafJ A' ∧ oHJ A' oU ∧ oRJ A' q ∧ oEnJ A' oU q 1 1 := by
  obtain ⟨A1, e1, f1, w1⟩ := L185 (d + 3) 10 0 A rfl (fun v v1 v2 => by omega)
  obtain ⟨A2, e2, f2, r2⟩ := S60J d 52 0 zu (o := oU) (q := q) A1 (by omega) (fun d v A' hv => at52n false d 0 v A' (by omega)) w1 (by rw [oU_sum]; omega) (fun w hw => ((f1 29 0 w (by omega)).1).trans (hq.1 w hw)) hq.2 (Raf_frJ hA f1 (fun v z => by cases z.1))
  refine ⟨A2, ?_, zFo_trans (zFo_mono f1 (fun a b c z => Or.inl z)) (zFo_mono f2 (fun a b c z => Or.inr ⟨z.1, by have := z.2; omega⟩)), r2⟩
  have k : zgo false (d + 4) 185 2 [zr 12 0, zi (nI 11)] [] A1 = some (some (zi 1), A2) := by
    rw [B185_2, if_pos (by decide), e2, zbsome, zpu1, B185_52]
    rfl
  rw [B185_0]
  exact e1.trans k
