/-! ===== odds: loaded, faced ===== -/
def oFl (a b c : Nat) : Prop := b = 0 ∧ (a = 33 ∨ a = 34 ∨ a = 36 ∨ (a = 7 ∧ c = 10))
theorem L60a (d k1 i1 : Nat) {o : Nat → Nat} (hk : ¬ k1 = 7 ∧ ¬ k1 = 33) (hrd : ∀ (d v : Nat) (A' : zM), v ≤ 10 → zgo false d 169 0 [zr k1 i1, zi (nI v)] [] A' = some (some (zi (zgI A' k1 i1 v)), A')) : ∀ (j n : Nat) (A : zM), n + j = 10 → (∀ v, 1 ≤ v → v ≤ 10 → zgI A k1 i1 v = nI (o v)) → (∀ v, 1 ≤ v → v ≤ n → zgI A 33 0 v = nI (o v)) → zgI A 7 0 10 = nI (oSn o n) → ∃ A', zgo false (d + 1) 60 7 [zr 7 0, zr k1 i1, zr 29 0, zi (nI (n + 1))] [] A = zgo false (d + 1) 60 48 [zr 7 0, zr k1 i1, zr 29 0, zi 0] [] A' ∧ zFo oFl A A' ∧ (∀ v, 1 ≤ v → v ≤ 10 → zgI A' 33 0 v = nI (o v)) ∧ zgI A' 7 0 10 = nI (ysm o)
  | 0, n, A, hn, h1, h2, h3 => by
    have hn : n = 10 := hn
    subst hn
    refine ⟨A, ?_, zFo_refl _ A, h2, by rw [h3, oSn_10]⟩
    rw [B60_7, if_pos (by decide)]
  | j + 1, n, A, hn, h1, h2, h3 => by
    let A1 := zsI (zsI A 33 0 (n + 1) (nI (o (n + 1)))) 7 0 10 (nI (oSn o (n + 1)))
    have f1 : zFo oFl A A1 := zFo_sI (zFo_sI (zFo_refl _ A) ⟨rfl, Or.inl rfl⟩) ⟨rfl, Or.inr (Or.inr (Or.inr ⟨rfl, rfl⟩))⟩
    have r1 : ∀ v, zgI A1 k1 i1 v = zgI A k1 i1 v := fun v => by
      rw [zgI_sI, if_neg (by omega), zgI_sI, if_neg (by omega)]
    obtain ⟨A', e, f, w1, w2⟩ := L60a d k1 i1 hk hrd j (n + 1) A1 (by omega) (fun v v1 v2 => (r1 v).trans (h1 v v1 v2)) (fun v v1 v2 => by
      rw [zgI_sI, if_neg (by omega), zgI_sI]
      by_cases z : v = n + 1
      · rw [if_pos ⟨rfl, rfl, z⟩, z]
      · rw [if_neg (by omega)]
        exact h2 v v1 (by omega)) rfl
    refine ⟨A', ?_, zFo_trans f1 f, w1, w2⟩
    have c : ¬ (10 : Int32) < nI (n + 1) := nI_nlt (a := 10) (by omega) (by omega)
    rw [← e, B60_7, if_neg c, hrd _ _ _ (by omega), h1 _ (by omega) (by omega), zbsome]
    show zgo false (d + 1) 60 23 [zr 7 0, zr k1 i1, zr 29 0, zi (nI (n + 1))] [zi (nI (o (n + 1))), zi (nI (n + 1)), zr 33 0] A = _
    rw [B60_23, se33n _ _ _ _ _ _ (by omega), zbsome, zpu0, B60_26, hrd _ _ _ (by omega)]
    have e1 : zgI (zsI A 33 0 (n + 1) (nI (o (n + 1)))) k1 i1 (n + 1) = nI (o (n + 1)) := by
      rw [zgI_sI, if_neg (by omega)]
      exact h1 _ (by omega) (by omega)
    have e2 : zgI (zsI A 33 0 (n + 1) (nI (o (n + 1)))) 7 0 10 = nI (oSn o n) := h3
    rw [e1, e2, zbsome]
    show zgo false (d + 1) 60 36 [zr 7 0, zr k1 i1, zr 29 0, zi (nI (n + 1))] [zi (nI (o (n + 1))), zi (nI (oSn o n)), zr 7 0] (zsI A 33 0 (n + 1) (nI (o (n + 1)))) = _
    rw [B60_36, nI_1, nI_add]
    rfl
theorem L60b (d k1 i1 : Nat) {q : Nat → Nat} : ∀ (j n : Nat) (A : zM), n + j = 4 → (∀ w, w < 4 → zgI A 29 0 w = nI (q w)) → (∀ w, w < n → zgI A 34 0 w = nI (q w)) → ∃ A', zgo false (d + 1) 60 48 [zr 7 0, zr k1 i1, zr 29 0, zi (nI n)] [] A = zgo false (d + 1) 60 75 [zr 7 0, zr k1 i1, zr 29 0, zi 22] [] A' ∧ zFo (fun a b _ => a = 34 ∧ b = 0) A A' ∧ ∀ w, w < 4 → zgI A' 34 0 w = nI (q w)
  | 0, n, A, hn, h1, h2 => by
    have hn : n = 4 := hn
    subst hn
    refine ⟨A, ?_, zFo_refl _ A, h2⟩
    rw [B60_48, if_pos (by decide)]
  | j + 1, n, A, hn, h1, h2 => by
    have f1 : zFo (fun a b _ => a = 34 ∧ b = 0) A (zsI A 34 0 n (nI (q n))) := zFo_sI (zFo_refl _ A) ⟨rfl, rfl⟩
    obtain ⟨A', e, f, w1⟩ := L60b d k1 i1 j (n + 1) (zsI A 34 0 n (nI (q n))) (by omega) (fun w hw => h1 w hw) (fun w hw => by
      rw [zgI_sI]
      by_cases z : w = n
      · rw [if_pos ⟨rfl, rfl, z⟩, z]
      · rw [if_neg (by omega)]
        exact h2 w (by omega))
    refine ⟨A', ?_, zFo_trans f1 f, w1⟩
    have c : ¬ (4 : Int32) ≤ nI n := nI_ge (b := 4) (by omega) (by omega)
    rw [← e, B60_48, if_neg c, at29n _ _ _ _ _ (by omega), h1 n (by omega), zbsome]
    show zgo false (d + 1) 60 63 [zr 7 0, zr k1 i1, zr 29 0, zi (nI n)] [zi (nI (q n)), zi (nI n), zr 34 0] A = _
    rw [B60_63, se34n _ _ _ _ _ _ (by omega), zbsome, zpu0, B60_66, nI_1]
/-- 'load' -/
theorem S60 (d k1 i1 : Nat) (u3 : zV) {o q : Nat → Nat} (A : zM) (hk : ¬ k1 = 7 ∧ ¬ k1 = 33) (hrd : ∀ (d v : Nat) (A' : zM), v ≤ 10 → zgo false d 169 0 [zr k1 i1, zi (nI v)] [] A' = some (some (zi (zgI A' k1 i1 v)), A')) (h1 : ∀ v, 1 ≤ v → v ≤ 10 → zgI A k1 i1 v = nI (o v)) (hN : 0 < ysm o ∧ ysm o ≤ 416) (h2 : ∀ w, w < 4 → zgI A 29 0 w = nI (q w)) (hq : q 0 ≤ 1 ∧ 100 ≤ q 1 ∧ q 1 ≤ 200 ∧ q 2 ≤ 1 ∧ 15 ≤ q 3 ∧ q 3 ≤ 19) (hA : Raf A) : ∃ A', zgo false (d + 3) 60 0 [zr 7 0, zr k1 i1, zr 29 0, u3] [] A = some (some (zi 1), A') ∧ zFo oFl A A' ∧ Raf A' ∧ oH A' o ∧ oR A' q ∧ oEn A' o q 1 1 := by
  obtain ⟨A1, e1, f1, w1, w2⟩ := L60a (d + 2) k1 i1 (o := o) hk hrd 10 0 (zsI A 7 0 10 0) (by omega) (fun v v1 v2 => by rw [zgI_sI, if_neg (by omega)]; exact h1 v v1 v2) (fun v v1 v2 => by omega) rfl
  have f1' : zFo oFl A A1 := zFo_trans (zFo_sI (zFo_refl _ A) ⟨rfl, Or.inr (Or.inr (Or.inr ⟨rfl, rfl⟩))⟩) f1
  obtain ⟨A2, e2, f2, w3⟩ := L60b (d + 2) k1 i1 (q := q) 4 0 A1 (by omega) (fun w hw => ((f1' 29 0 w (by unfold oFl; omega)).1).trans (h2 w hw)) (fun w hw => by omega)
  have hA2 : Raf A2 := Raf_fr (Raf_fr hA f1' (fun v => by unfold oFl; omega)) f2 (fun v => by omega)
  have hO2 : oH A2 o := ⟨fun v v1 v2 => ((f2 33 0 v (by omega)).1).trans (w1 v v1 v2), ((f2 7 0 10 (by omega)).1).trans w2, hN⟩
  have hR2 : oR A2 q := ⟨w3, hq⟩
  have hE0 : oEn A2 o q 23 23 := fun k hk => ⟨fun s s1 s2 => by omega, fun s s1 s2 => by omega⟩
  obtain ⟨A3, e3, f3, w4⟩ := L60 d k1 i1 29 0 22 A2 (by omega) hA2 hO2 hR2 hE0
  refine ⟨A3, ?_, zFo_trans f1' (zFo_trans (zFo_mono f2 (fun a b c z => ⟨z.2, Or.inr (Or.inl z.1)⟩)) (zFo_mono f3 (fun a b c z => ⟨z.2, Or.inr (Or.inr (Or.inl z.1))⟩))), Raf_fr hA2 f3 (fun v => by omega), oH_fr hO2 f3 (fun v => by omega) (by omega), oR_fr hR2 f3 (fun v => by omega), w4⟩
  rw [B60_0]
  exact e1.trans (e2.trans e3)
/-- an open end -/
theorem L77 (d dv k : Nat) (hd : 1 ≤ dv ∧ dv ≤ 10) (hk : k < 8) {A : zM} {o q : Nat → Nat} (hO : oH A o) (hR : oR A q) (hE : oEn A o q 1 1) : ∀ (j n : Nat) (u6 u7 : zV), n + j = 10 → zgo false (d + 1) 77 12 [zr 7 0, zi (nI dv), zi (nI (15 + k)), zi (nI (oHd dv (Nat.beq dv 1))), zi (yI (oSm o (fun v => if oNat dv v then 0 else oEe o q k (dv + v) (oA (Nat.beq dv 1) v)) n)), zi (nI (n + 1)), u6, u7] [] A = some (some (zi (yI (oO o q dv k))), A)
  | 0, n, u6, u7, hn => by
    have hn : n = 10 := hn
    subst hn
    have b := oSm_b (o := o) (n := 10) (m := 1000000) (f := fun v => if oNat dv v then 0 else oEe o q k (dv + v) (oA (Nat.beq dv 1) v)) (by decide) hO.2.2.2 (Nat.le_refl _) (fun v v1 v2 => by
      by_cases c : oNat dv v
      · rw [if_pos c]; decide
      · rw [if_neg c]; exact oE_1 hO.2.2.1 hk _ _)
    have e : oO o q dv k = (oSm o (fun v => if oNat dv v then 0 else oEe o q k (dv + v) (oA (Nat.beq dv 1) v)) 10).tdiv (ysm o) := by
      unfold oO
      rw [if_neg (by omega)]
      rfl
    rw [B77_12, if_pos (by decide), S72y d _ hO ⟨by omega, by omega⟩, zbsome, zpu1, B77_96, e]
  | j + 1, n, u6, u7, hn => by
    have c : ¬ (10 : Int32) < nI (n + 1) := nI_nlt (a := 10) (by omega) (by omega)
    have t : (oTt (dv + (n + 1)) (oA (Nat.beq dv 1) (n + 1)) = 21) ↔ oNat dv (n + 1) := by
      unfold oTt oNat oA
      rcases (by omega : dv = 1 ∨ dv = 2 ∨ dv = 3 ∨ dv = 4 ∨ dv = 5 ∨ dv = 6 ∨ dv = 7 ∨ dv = 8 ∨ dv = 9 ∨ dv = 10) with rfl | rfl | rfl | rfl | rfl | rfl | rfl | rfl | rfl | rfl <;> rcases (by omega : n = 0 ∨ n = 1 ∨ n = 2 ∨ n = 3 ∨ n = 4 ∨ n = 5 ∨ n = 6 ∨ n = 7 ∨ n = 8 ∨ n = 9) with rfl | rfl | rfl | rfl | rfl | rfl | rfl | rfl | rfl | rfl <;> decide
    have tt : oTt (dv + (n + 1)) (oA (Nat.beq dv 1) (n + 1)) ≤ 31 := by
      unfold oTt
      by_cases z : oA (Nat.beq dv 1) (n + 1) = true ∧ dv + (n + 1) ≤ 11
      · rw [if_pos z]; omega
      · rw [if_neg z]; omega
    have e21 : nI (oTt (dv + (n + 1)) (oA (Nat.beq dv 1) (n + 1))) = 21 ↔ oNat dv (n + 1) := by
      rw [show (21 : Int32) = nI 21 from rfl, nI_eq (by omega) (by omega)]
      exact t
    rw [B77_12, if_neg c, S172y _ _ _ _ _ _ _ _ (by omega) (by omega), zbsome, zpu1, B77_25, S173y _ _ _ _ _ (by omega), zbsome, zpu1, B77_32]
    by_cases z : oNat dv (n + 1)
    · have ih := L77 d dv k hd hk hO hR hE j (n + 1) (zi (nI (oHd (dv + (n + 1)) (oA (Nat.beq dv 1) (n + 1))))) (zi 1) (by omega)
      have e : oSm o (fun v => if oNat dv v then 0 else oEe o q k (dv + v) (oA (Nat.beq dv 1) v)) (n + 1) = oSm o (fun v => if oNat dv v then 0 else oEe o q k (dv + v) (oA (Nat.beq dv 1) v)) n := by
        show _ + _ * (if oNat dv (n + 1) then 0 else _) = _
        rw [if_pos z, Int.mul_zero, Int.add_zero]
      rw [e] at ih
      rw [if_pos (e21.mpr z), B77_42, if_neg (by decide), B77_84, nI_1]
      exact ih
    · have ih := L77 d dv k hd hk hO hR hE j (n + 1) (zi (nI (oHd (dv + (n + 1)) (oA (Nat.beq dv 1) (n + 1))))) (zi 0) (by omega)
      have e : oSm o (fun v => if oNat dv v then 0 else oEe o q k (dv + v) (oA (Nat.beq dv 1) v)) (n + 1) = oSm o (fun v => if oNat dv v then 0 else oEe o q k (dv + v) (oA (Nat.beq dv 1) v)) n + (o (n + 1) : Int) * oEe o q k (dv + (n + 1)) (oA (Nat.beq dv 1) (n + 1)) := by
        show _ + _ * (if oNat dv (n + 1) then 0 else _) = _
        rw [if_neg z]
      rw [e] at ih
      have a1 : ∀ d, zgo false d 169 0 [zr 33 0, zi (nI (n + 1))] [] A = some (some (zi (nI (o (n + 1)))), A) := fun d => (at33n false d 0 (n + 1) A (by omega)).trans (by rw [hO.1 (n + 1) (by omega) (by omega)])
      have l2 : oPl (dv + (n + 1)) (oA (Nat.beq dv 1) (n + 1)) ≤ 53 := oPl_lt
      have e1 : (nI (15 + k) - 15) * 64 = nI (64 * k) := by
        rw [show (15 : Int32) = nI 15 from rfl, show (64 : Int32) = nI 64 from rfl, pk_sub (by omega), show 15 + k - 15 = k by omega, pk_mul, Nat.mul_comm]
      have a2 : ∀ d, zgo false d 169 0 [zr 36 0, zi (nI (64 * k + oPl (dv + (n + 1)) (oA (Nat.beq dv 1) (n + 1))))] [] A = some (some (zi (yI (oEe o q k (dv + (n + 1)) (oA (Nat.beq dv 1) (n + 1))))), A) := fun d => (at36n false d 0 _ A (by omega)).trans (by rw [oEn_at hE hR.2.2.2.2.2.2 hk (fun _ => by omega) (fun _ => by omega) (by omega)])
      rw [if_neg (mt e21.mp z), B77_42, if_pos rfl, a1, zbsome]
      show zgo false (d + 1) 77 60 [zr 7 0, zi (nI dv), zi (nI (15 + k)), zi (nI (oHd dv (Nat.beq dv 1))), _, zi (nI (n + 1)), _, zi 0] [zi (nI (o (n + 1))), _] A = _
      rw [B77_60, S74y _ _ _ _ _ (by omega), zbsome, e1]
      show zgo false (d + 1) 77 76 [zr 7 0, zi (nI dv), zi (nI (15 + k)), zi (nI (oHd dv (Nat.beq dv 1))), _, zi (nI (n + 1)), _, zi 0] [zi (nI (oPl (dv + (n + 1)) (oA (Nat.beq dv 1) (n + 1)))), zi (nI (64 * k)), zr 36 0, zi (nI (o (n + 1))), _] A = _
      rw [B77_76, nI_add, a2, zbsome]
      show zgo false (d + 1) 77 80 [zr 7 0, zi (nI dv), zi (nI (15 + k)), zi (nI (oHd dv (Nat.beq dv 1))), _, zi (nI (n + 1)), _, zi 0] [zi (yI (oEe o q k (dv + (n + 1)) (oA (Nat.beq dv 1) (n + 1)))), zi (nI (o (n + 1))), _] A = _
      rw [B77_80, B77_84, nI_1, yI_nat (o (n + 1)), yI_mul, yI_add]
      exact ih
theorem S77 (d dv k : Nat) (hd : 1 ≤ dv ∧ dv ≤ 10) (hk : k < 8) (u3 u4 u5 u6 u7 : zV) {A : zM} {o q : Nat → Nat} (hO : oH A o) (hR : oR A q) (hE : oEn A o q 1 1) : zgo false (d + 1) 77 0 [zr 7 0, zi (nI dv), zi (nI (15 + k)), u3, u4, u5, u6, u7] [] A = some (some (zi (yI (oO o q dv k))), A) := by
  have e := S172y false d 0 dv false zu zu A (by omega) hd
  have e : zgo false d 172 0 [zi 0, zi (nI dv), zu, zu] [] A = some (some (zi (nI (oHd dv (Nat.beq dv 1)))), A) := by
    rw [show oHd dv (Nat.beq dv 1) = oHd (0 + dv) (oA false dv) by rw [Nat.zero_add]; rfl]
    exact e
  rw [B77_0, e, zbsome, zpu1, B77_5]
  exact L77 d dv k hd hk hO hR hE 10 0 u6 u7 rfl
