/-! ===== 'asWhole' ===== -/
def oX (P v : Nat) : Nat := if v = 0 then 52 * P else P * oU v
theorem L239 (d P : Nat) : ∀ (j n : Nat) (B : zM), n + j = 11 → zgI B 13 0 1 = nI P → (∀ v, v < n → zgI B 76 0 v = nI (oX P v)) → ∃ B', zgo false (d + 1) 239 2 [zr 13 0, zi (nI n)] [] B = some (none, B') ∧ zFo (fun a b _ => a = 76 ∧ b = 0) B B' ∧ ∀ v, v ≤ 10 → zgI B' 76 0 v = nI (oX P v)
  | 0, n, B, hn, hP, hv => by
    have hn : n = 11 := hn
    subst hn
    refine ⟨B, ?_, zFo_refl _ B, fun v v2 => hv v (by omega)⟩
    rw [B239_2, if_pos (by decide)]
  | j + 1, n, B, hn, hP, hv => by
    have c : ¬ (10 : Int32) < nI n := nI_nlt (a := 10) (by omega) (by omega)
    have l0 : nI n = 0 ↔ n = 0 := nI_eq (b := 0) (by omega) (by omega)
    have l10 : nI n = 10 ↔ n = 10 := nI_eq (b := 10) (by omega) (by omega)
    have z1 : zin (nI n) 11 = true := zin_nI (by omega) (by omega)
    have c1 : (nI n).toNatClampNeg = n := nI_clamp (by omega)
    obtain ⟨B', e, f, w⟩ := L239 d P j (n + 1) (zsI B 76 0 n (nI (oX P n))) (by omega) hP (fun v v2 => by
      rw [zgI_sI]
      by_cases z : v = n
      · rw [if_pos ⟨rfl, rfl, z⟩, z]
      · rw [if_neg (by omega)]
        exact hv v (by omega))
    refine ⟨B', ?_, zFo_trans (zFo_sI (zFo_refl _ B) ⟨rfl, rfl⟩) f, w⟩
    have fin : ∀ x : Int32, x = nI (oX P n) → zgo false (d + 1) 239 29 [zr 13 0, zi (nI n)] [zi x, zi (nI n), zr 76 0] B = some (none, B') := by
      intro x hx
      rw [B239_29, if_pos z1, c1, nI_1, hx]
      exact e
    rw [B239_2, if_neg c]
    by_cases z : n = 0
    · rw [if_pos (l0.mpr z), B195_0, zbsome]
      show zgo false (d + 1) 239 21 [zr 13 0, zi (nI n)] [zi (52 * zgI B 13 0 1), zi (nI n), zr 76 0] B = _
      rw [B239_21]
      exact fin _ (by
        have ex : oX P n = 52 * P := if_pos z
        rw [hP, show (52 : Int32) = nI 52 from rfl, pk_mul, ex])
    · have e196 : zgo false d 196 0 [zr 13 0, zi (nI n)] [] B = some (some (zi (nI (oX P n))), B) := by
        have ex : oX P n = P * oU n := if_neg z
        rw [B196_0, hP, ex]
        by_cases y : n = 10
        · have eu : oU n = 16 := if_pos y
          rw [if_pos (l10.mpr y), B196_16, show (16 : Int32) = nI 16 from rfl, pk_mul, eu]
        · have eu : oU n = 4 := if_neg y
          rw [if_neg (mt l10.mp y), B196_16, show (4 : Int32) = nI 4 from rfl, pk_mul, eu]
      rw [if_neg (mt l0.mp z), e196, zbsome]
      exact fin _ rfl
theorem S239 (d P : Nat) (u : zV) {B : zM} (hP : 1 ≤ P ∧ P ≤ 8) (h : zgI B 13 0 1 = nI P) : ∃ B', zgo false (d + 1) 239 0 [zr 13 0, u] [] B = some (none, B') ∧ zFo (fun a b _ => a = 76 ∧ b = 0) B B' ∧ mH B' (oTm P oU) := by
  obtain ⟨B1, e1, f1, w1⟩ := L239 d P 11 0 B rfl h (fun v v2 => by omega)
  have es : ysm (oTm P oU) = 52 * P := by
    rw [ysm_tm, oU_sum, Nat.mul_comm]
  refine ⟨B1, ?_, f1, fun v v1 v2 => ?_, ?_, by omega, by omega⟩
  · rw [B239_0]
    exact e1
  · rw [w1 v v2]
    unfold oX
    rw [if_neg (by omega)]
    rfl
  · rw [es]
    exact w1 0 (by omega)
