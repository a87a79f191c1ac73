/-! ===== odds: the worth of a hand, by the class ===== -/
def oBw (o q : Nat → Nat) (dv s : Nat) (a : Bool) : Int := oW o (oO o q dv) s a (oBst o (oO o q dv) s a (Nat.beq (q 2) 1))
def oFg (a b _c : Nat) : Prop := b = 0 ∧ 37 ≤ a ∧ a ≤ 42
/-- the table of the best: by open value, then place -/
def oBt (A : zM) (o q : Nat → Nat) (dv : Nat) : Prop := (∀ s, 4 ≤ s → s ≤ 20 → zgI A 41 0 (64 * dv + s) = yI (oBw o q dv s false)) ∧ (∀ s, 2 ≤ s → s ≤ 10 → zgI A 41 0 (64 * dv + (42 + s)) = yI (oBw o q dv s true)) ∧ zgI A 42 0 dv = yI (oO o q dv 8)
theorem S71 (d dv s : Nat) (a : Bool) (hd : dv ≤ 10) (hs : 1 ≤ s ∧ s ≤ 21) {A : zM} {o q : Nat → Nat} (hR : oR A q) (h : oFc A o (oO o q dv)) : zgo false (d + 2) 71 0 [zr 7 0, zi (nI dv), zi (nI (oHd s a))] [] A = some (none, zsI A 41 0 (64 * dv + oPl s a) (yI (oBw o q dv s a))) := by
  have hl : oPl s a ≤ 53 := oPl_lt
  have e1 : nI dv * 64 = nI (64 * dv) := by rw [show (64 : Int32) = nI 64 from rfl, pk_mul, Nat.mul_comm]
  have e64 : zgo false (d + 1) 64 0 [zr 7 0, zi (nI (oHd s a)), zi 1, zu, zu, zu] [] A = some (some (zi (nI (oBst o (oO o q dv) s a (Nat.beq (q 2) 1)))), A) := S64 d s a true hs zu zu zu hR h
  rw [B71_0, S74y _ _ _ _ _ (by omega), zbsome, e1]
  show zgo false (d + 2) 71 12 [zr 7 0, zi (nI dv), zi (nI (oHd s a))] [zi (nI (oPl s a)), zi (nI (64 * dv)), zr 41 0] A = _
  rw [B71_12, e64, zbsome, nI_add]
  show zgo false (d + 2) 71 21 [zr 7 0, zi (nI dv), zi (nI (oHd s a))] [zi (nI (oBst o (oO o q dv) s a (Nat.beq (q 2) 1))), zi (nI (oHd s a)), zr 7 0, zi (nI (64 * dv + oPl s a)), zr 41 0] A = _
  rw [B71_21, S63 d s _ a hs (oBst_le _ _ _ _ _) zu h, zbsome]
  show zgo false (d + 2) 71 24 [zr 7 0, zi (nI dv), zi (nI (oHd s a))] [zi (yI (oBw o q dv s a)), zi (nI (64 * dv + oPl s a)), zr 41 0] A = _
  rw [B71_24, se41n _ _ _ _ _ _ (by omega), zbsome, zpu0, B71_27]
theorem oFc_fr {A A' : zM} {o : Nat → Nat} {O : Nat → Int} {P : Nat → Nat → Nat → Prop} (h : oFc A o O) (f : zFo P A A') (hp : ∀ k v, 37 ≤ k → k ≤ 40 → ¬ P k 0 v) : oFc A' o O := by
  obtain ⟨h1, h2, h3, h4⟩ := h
  refine ⟨fun k hk => ((f 37 0 k (hp _ _ (by omega) (by omega))).1).trans (h1 k hk), oSd_fr h2 f (fun v => hp _ _ (by omega) (by omega)), ⟨fun s s1 s2 => ?_, fun s s1 s2 => ?_⟩, h4⟩
  · rw [(f 39 0 s (hp _ _ (by omega) (by omega))).1, (f 40 0 s (hp _ _ (by omega) (by omega))).1]
    exact h3.1 s s1 s2
  · rw [(f 39 0 _ (hp _ _ (by omega) (by omega))).1, (f 40 0 _ (hp _ _ (by omega) (by omega))).1]
    exact h3.2 s s1 s2
theorem L70 (d dv : Nat) (hd : dv ≤ 10) {o q : Nat → Nat} : ∀ (j t : Nat) (A : zM), t + j = 21 → 4 ≤ t → oR A q → oFc A o (oO o q dv) → (∀ s, 4 ≤ s → s < t → zgI A 41 0 (64 * dv + s) = yI (oBw o q dv s false)) → (∀ s, 2 ≤ s → s + 10 < t → zgI A 41 0 (64 * dv + (42 + s)) = yI (oBw o q dv s true)) → ∃ A', zgo false (d + 3) 70 21 [zr 7 0, zi (nI dv), zi (nI t)] [] A = some (none, A') ∧ zFo (fun a b c => a = 41 ∧ b = 0 ∧ 64 * dv ≤ c ∧ c < 64 * dv + 64) A A' ∧ (∀ s, 4 ≤ s → s ≤ 20 → zgI A' 41 0 (64 * dv + s) = yI (oBw o q dv s false)) ∧ ∀ s, 2 ≤ s → s ≤ 10 → zgI A' 41 0 (64 * dv + (42 + s)) = yI (oBw o q dv s true)
  | 0, t, A, ht, h4, hR, hF, h1, h2 => by
    have ht : t = 21 := ht
    subst ht
    refine ⟨A, ?_, zFo_refl _ A, fun s s1 s2 => h1 s s1 (by omega), fun s s1 s2 => h2 s s1 (by omega)⟩
    rw [B70_21, if_pos (by decide)]
  | j + 1, t, A, ht, h4, hR, hF, h1, h2 => by
    have c20 : ¬ (20 : Int32) < nI t := nI_nlt (a := 20) (by omega) (by omega)
    have hh : oHd t false = t := if_neg (fun z => by cases z.1)
    have hp : oPl t false = t := by
      unfold oPl
      rw [if_neg (fun z => by cases z.1), if_pos (by omega)]
    have e1 := S71 d dv t false hd ⟨by omega, by omega⟩ hR hF
    rw [hh, hp] at e1
    have f1 : zFo (fun a b c => a = 41 ∧ b = 0 ∧ 64 * dv ≤ c ∧ c < 64 * dv + 64) A (zsI A 41 0 (64 * dv + t) (yI (oBw o q dv t false))) := zFo_sI (zFo_refl _ A) ⟨rfl, rfl, by omega, by omega⟩
    have g1 : ∀ s, 4 ≤ s → s < t + 1 → zgI (zsI A 41 0 (64 * dv + t) (yI (oBw o q dv t false))) 41 0 (64 * dv + s) = yI (oBw o q dv s false) := fun s s1 s2 => by
      rw [zgI_sI]
      by_cases z : s = t
      · rw [if_pos ⟨rfl, rfl, by omega⟩, z]
      · rw [if_neg (by omega)]
        exact h1 s s1 (by omega)
    have g2 : ∀ s, 2 ≤ s → s + 10 < t → zgI (zsI A 41 0 (64 * dv + t) (yI (oBw o q dv t false))) 41 0 (64 * dv + (42 + s)) = yI (oBw o q dv s true) := fun s s1 s2 => by
      rw [zgI_sI, if_neg (by omega)]
      exact h2 s s1 s2
    have hR1 := oR_fr hR f1 (fun v z => by cases z.1)
    have hF1 := oFc_fr hF f1 (fun k v k1 k2 z => by have := z.1; omega)
    have l12 : nI t < 12 ↔ t < 12 := nI_ltI (b := 12) (by omega) (by omega)
    rw [B70_21, if_neg c20, e1, zbsome, zpu0, B70_33]
    by_cases c : t < 12
    · obtain ⟨A', e, f, w1, w2⟩ := L70 d dv hd j (t + 1) _ (by omega) (by omega) hR1 hF1 g1 (fun s s1 s2 => by omega)
      refine ⟨A', ?_, zFo_trans f1 f, w1, w2⟩
      rw [if_pos (l12.mpr c), B70_49, nI_1]
      exact e
    · have hh2 : oHd (t - 10) true = 1000 + t := by
        unfold oHd
        rw [if_pos ⟨rfl, by omega⟩]
        omega
      have hp2 : oPl (t - 10) true = 42 + (t - 10) := by
        unfold oPl
        rw [if_pos ⟨rfl, by omega⟩]
      have e2 := S71 d dv (t - 10) true hd ⟨by omega, by omega⟩ hR1 hF1
      rw [hh2, hp2] at e2
      have ek : (1000 : Int32) + nI t = nI (1000 + t) := by rw [show (1000 : Int32) = nI 1000 from rfl, nI_add]
      generalize hA1 : zsI A 41 0 (64 * dv + t) (yI (oBw o q dv t false)) = A1 at *
      have f2 : zFo (fun a b c => a = 41 ∧ b = 0 ∧ 64 * dv ≤ c ∧ c < 64 * dv + 64) A1 (zsI A1 41 0 (64 * dv + (42 + (t - 10))) (yI (oBw o q dv (t - 10) true))) := zFo_sI (zFo_refl _ A1) ⟨rfl, rfl, by omega, by omega⟩
      obtain ⟨A', e, f, w1, w2⟩ := L70 d dv hd j (t + 1) _ (by omega) (by omega) (oR_fr hR1 f2 (fun v z => by cases z.1)) (oFc_fr hF1 f2 (fun k v k1 k2 z => by have := z.1; omega)) (fun s s1 s2 => by
        rw [zgI_sI, if_neg (by omega)]
        exact g1 s s1 s2) (fun s s1 s2 => by
        rw [zgI_sI]
        by_cases z : s = t - 10
        · rw [if_pos ⟨rfl, rfl, by omega⟩, z]
        · rw [if_neg (by omega)]
          exact g2 s s1 (by omega))
      refine ⟨A', ?_, zFo_trans f1 (zFo_trans f2 f), w1, w2⟩
      rw [if_neg (mt l12.mp c), ek, e2, zbsome, zpu0, B70_49, nI_1]
      exact e
theorem S70 (d dv : Nat) (hd : 1 ≤ dv ∧ dv ≤ 10) (u2 : zV) {A : zM} {o q : Nat → Nat} (hA : Raf A) (hH : oH A o) (hR : oR A q) (hE : oEn A o q 1 1) : ∃ A', zgo false (d + 4) 70 0 [zr 7 0, zi (nI dv), u2] [] A = some (none, A') ∧ zFo oFg A A' ∧ zFo (fun a b c => (b = 0 ∧ 37 ≤ a ∧ a ≤ 40) ∨ (a = 41 ∧ b = 0 ∧ 64 * dv ≤ c ∧ c < 64 * dv + 64) ∨ (a = 42 ∧ b = 0 ∧ c = dv)) A A' ∧ oBt A' o q dv := by
  obtain ⟨A1, e1, f1, o1, o2, o3⟩ := S61 d dv hd zu zu hA hH hR hE
  let A2 := zsI A1 42 0 dv (yI (oO o q dv 8))
  have f2 : zFo (fun a b c => a = 42 ∧ b = 0 ∧ c = dv) A1 A2 := zFo_sI (zFo_refl _ A1) ⟨rfl, rfl, rfl⟩
  have hF1 : oFc A1 o (oO o q dv) := ⟨o1, o2, o3, fun k => oO_nn dv k, oO_q hH.2.2.1 dv, hH.2.2.1⟩
  have hF2 : oFc A2 o (oO o q dv) := oFc_fr hF1 f2 (fun k v k1 k2 z => by have := z.1; omega)
  have hR2 : oR A2 q := oR_fr (oR_fr hR f1 (fun v z => by have := z.2; omega)) f2 (fun v z => by cases z.1)
  obtain ⟨A3, e3, f3, w1, w2⟩ := L70 (d + 1) dv hd.2 17 4 A2 rfl (by omega) hR2 hF2 (fun s s1 s2 => by omega) (fun s s1 s2 => by omega)
  have ff : zFo (fun a b c => (b = 0 ∧ 37 ≤ a ∧ a ≤ 40) ∨ (a = 41 ∧ b = 0 ∧ 64 * dv ≤ c ∧ c < 64 * dv + 64) ∨ (a = 42 ∧ b = 0 ∧ c = dv)) A A3 := zFo_trans (zFo_mono f1 (fun a b c z => Or.inl z)) (zFo_trans (zFo_mono f2 (fun a b c z => Or.inr (Or.inr z))) (zFo_mono f3 (fun a b c z => Or.inr (Or.inl z))))
  refine ⟨A3, ?_, zFo_mono ff (fun a b c z => by unfold oFg; omega), ff, w1, w2, ?_⟩
  · have e62 : zgo false (d + 3) 62 0 [zr 7 0, zi 23] [] A1 = some (some (zi (yI (oO o q dv 8))), A1) := by
      have a8 : zgo false (d + 2) 169 0 [zr 37 0, zi 8] [] A1 = some (some (zi (zgI A1 37 0 8)), A1) := at37n false _ 0 8 A1 (by omega)
      rw [B62_0]
      show ((zgo false (d + 2) 169 0 [zr 37 0, zi 8] [] A1).bind fun q => zgo false (d + 3) 62 11 [zr 7 0, zi 23] (zpush q.1 []) q.2) = _
      rw [a8, o1 8 (by omega), zbsome, zpu1, B62_11]
    have k1 : zgo false (d + 4) 70 0 [zr 7 0, zi (nI dv), u2] [] A = zgo false (d + 4) 70 5 [zr 7 0, zi (nI dv), u2] [] A1 := by
      rw [B70_0, e1]
      rfl
    rw [k1, B70_5, e62, zbsome]
    show zgo false (d + 4) 70 16 [zr 7 0, zi (nI dv), u2] [zi (yI (oO o q dv 8)), zi (nI dv), zr 42 0] A1 = _
    rw [B70_16, se42n _ _ _ _ _ _ (by omega), zbsome, zpu0, B70_19]
    exact e3
  · rw [(f3 42 0 dv (fun z => by cases z.1)).1]
    show zgI (zsI A1 42 0 dv (yI (oO o q dv 8))) 42 0 dv = _
    rw [zgI_sI, if_pos ⟨rfl, rfl, rfl⟩]
theorem oBt_fr {A A' : zM} {o q : Nat → Nat} {dv dv' : Nat} (h : oBt A o q dv) (f : zFo (fun a b c => (b = 0 ∧ 37 ≤ a ∧ a ≤ 40) ∨ (a = 41 ∧ b = 0 ∧ 64 * dv' ≤ c ∧ c < 64 * dv' + 64) ∨ (a = 42 ∧ b = 0 ∧ c = dv')) A A') (hne : ¬ dv = dv') : oBt A' o q dv := by
  refine ⟨fun s s1 s2 => ?_, fun s s1 s2 => ?_, ?_⟩
  · rw [(f 41 0 _ (by omega)).1]
    exact h.1 s s1 s2
  · rw [(f 41 0 _ (by omega)).1]
    exact h.2.1 s s1 s2
  · rw [(f 42 0 _ (by omega)).1]
    exact h.2.2
theorem L66 (d : Nat) (u2 u3 : zV) {o q : Nat → Nat} : ∀ (j n : Nat) (A : zM), n + j = 10 → Raf A → oH A o → oR A q → oEn A o q 1 1 → (∀ dv, 1 ≤ dv → dv ≤ n → oBt A o q dv) → ∃ A', zgo false (d + 5) 66 2 [zr 7 0, zi (nI (n + 1)), u2, u3] [] A = zgo false (d + 5) 66 23 [zr 7 0, zl 0, zu, zi 1] [] A' ∧ zFo oFg A A' ∧ Raf A' ∧ oH A' o ∧ oR A' q ∧ ∀ dv, 1 ≤ dv → dv ≤ 10 → oBt A' o q dv
  | 0, n, A, hn, hA, hH, hR, hE, hB => by
    have hn : n = 10 := hn
    subst hn
    refine ⟨A, ?_, zFo_refl _ A, hA, hH, hR, hB⟩
    rw [B66_2, if_pos (by decide)]
  | j + 1, n, A, hn, hA, hH, hR, hE, hB => by
    obtain ⟨A1, e1, f1, f1', w⟩ := S70 d (n + 1) ⟨by omega, by omega⟩ zu hA hH hR hE
    have p33 : ∀ k v, k ≤ 36 → ¬ oFg k 0 v := fun k v hk z => by have := z.2.1; omega
    obtain ⟨A', e, f, r⟩ := L66 d u2 u3 j (n + 1) A1 (by omega) (Raf_fr hA f1 (fun v => p33 _ _ (by omega))) (oH_fr hH f1 (fun v => p33 _ _ (by omega)) (p33 _ _ (by omega))) (oR_fr hR f1 (fun v => p33 _ _ (by omega))) (oEn_fr hE f1 (fun v => p33 _ _ (by omega))) (fun dv d1 d2 => by
      by_cases z : dv = n + 1
      · rw [z]
        exact w
      · exact oBt_fr (hB dv d1 (by omega)) f1' z)
    refine ⟨A', ?_, zFo_trans f1 f, r⟩
    have c : ¬ (10 : Int32) < nI (n + 1) := nI_nlt (a := 10) (by omega) (by omega)
    rw [B66_2, if_neg c, e1, zbsome, zpu0, B66_13, nI_1]
    exact e
/-! sums over both cards and the open value -/
def oPw (o q : Nat → Nat) (x y dv : Nat) : Int := if oNat x y then ((q 1 : Int) * (1000000 - oO o q dv 8)).tdiv 100 else oBw o q dv (x + y) (oA (Nat.beq x 1) y) - oO o q dv 8
def oWh (o q : Nat → Nat) : Int := oAv o (fun x => oAv o (fun y => oAv o (fun dv => oPw o q x y dv)))
theorem oPw_b {o q : Nat → Nat} (hN : 0 < ysm o) (hq : q 1 ≤ 200) (x y dv : Nat) : -3000000 ≤ oPw o q x y dv ∧ oPw o q x y dv ≤ 3000000 := by
  have b0 := oO_nn (o := o) (q := q) dv 8
  have b1 := oO_8 (q := q) hN dv
  unfold oPw
  by_cases c : oNat x y
  · rw [if_pos c]
    have w1 : 0 ≤ (q 1 : Int) * (1000000 - oO o q dv 8) := Int.mul_nonneg (by omega) (by omega)
    have w2 : (q 1 : Int) * (1000000 - oO o q dv 8) ≤ 200 * 1000000 := Int.mul_le_mul (by omega) (by omega) (by omega) (by omega)
    rw [Int.tdiv_eq_ediv_of_nonneg w1]
    omega
  · rw [if_neg c]
    have := oW_b (O := oO o q dv) hN (fun k => oO_nn dv k) (oO_q (q := q) hN dv) (x + y) (oA (Nat.beq x 1) y) (oBst o (oO o q dv) (x + y) (oA (Nat.beq x 1) y) (Nat.beq (q 2) 1))
    unfold oBw
    omega
theorem oW2_b {o q : Nat → Nat} (hN : 0 < ysm o) (hq : q 1 ≤ 200) (x y : Nat) : -3000000 ≤ oAv o (fun dv => oPw o q x y dv) ∧ oAv o (fun dv => oPw o q x y dv) ≤ 3000000 := oAv_b (by decide) hN (fun v _ _ => oPw_b hN hq x y v)
theorem oW1_b {o q : Nat → Nat} (hN : 0 < ysm o) (hq : q 1 ≤ 200) (x : Nat) : -3000000 ≤ oAv o (fun y => oAv o (fun dv => oPw o q x y dv)) ∧ oAv o (fun y => oAv o (fun dv => oPw o q x y dv)) ≤ 3000000 := oAv_b (by decide) hN (fun v _ _ => oW2_b hN hq x v)
theorem oWh_b {o q : Nat → Nat} (hN : 0 < ysm o) (hq : q 1 ≤ 200) : -3000000 ≤ oWh o q ∧ oWh o q ≤ 3000000 := oAv_b (by decide) hN (fun v _ _ => oW1_b hN hq v)
theorem S73 (d : Nat) (x : Int) (u2 : zV) {A : zM} {o : Nat → Nat} (h : oH A o) (hx : yW x) : zgo false d 73 0 [zr 7 0, zl (yJ x), u2] [] A = some (some (zl (yJ (x.tdiv (ysm o)))), A) := by
  obtain ⟨-, h1, h2, h3⟩ := h
  have b : yB (ysm o : Nat) := ⟨by omega, by omega⟩
  have n := yI_ne0 b (by omega)
  have w : yW (ysm o : Nat) := ⟨by omega, by omega⟩
  rw [B73_0, h1, yI_nat, if_neg n.1, yIJ b, if_neg (yJ_ne0 w (by omega)), B73_18, yJ_div hx w (by omega)]
theorem S69 (d x y dv : Nat) (hx : 1 ≤ x ∧ x ≤ 10) (hy : 1 ≤ y ∧ y ≤ 10) (hd : 1 ≤ dv ∧ dv ≤ 10) (u3 : zV) {A : zM} {o q : Nat → Nat} (hH : oH A o) (hR : oR A q) (hB : oBt A o q dv) : zgo false (d + 1) 69 0 [zr 7 0, zi (nI (oHd (x + y) (oA (Nat.beq x 1) y))), zi (nI dv), u3] [] A = some (some (zl (yJ (oPw o q x y dv))), A) := by
  have hN := hH.2.2.1
  have b0 := oO_nn (o := o) (q := q) dv 8
  have b1 := oO_8 (q := q) hN dv
  have a42 : ∀ d, zgo false d 169 0 [zr 42 0, zi (nI dv)] [] A = some (some (zi (yI (oO o q dv 8))), A) := fun d => (at42n false d 0 dv A (by omega)).trans (by rw [hB.2.2])
  have t : (oTt (x + y) (oA (Nat.beq x 1) y) = 21) ↔ oNat x y := by
    unfold oTt oNat oA
    rcases (by omega : x = 1 ∨ x = 2 ∨ x = 3 ∨ x = 4 ∨ x = 5 ∨ x = 6 ∨ x = 7 ∨ x = 8 ∨ x = 9 ∨ x = 10) with rfl | rfl | rfl | rfl | rfl | rfl | rfl | rfl | rfl | rfl <;> rcases (by omega : y = 1 ∨ y = 2 ∨ y = 3 ∨ y = 4 ∨ y = 5 ∨ y = 6 ∨ y = 7 ∨ y = 8 ∨ y = 9 ∨ y = 10) with rfl | rfl | rfl | rfl | rfl | rfl | rfl | rfl | rfl | rfl <;> decide
  have tt : oTt (x + y) (oA (Nat.beq x 1) y) ≤ 31 := by
    unfold oTt
    by_cases z : oA (Nat.beq x 1) y = true ∧ x + y ≤ 11
    · rw [if_pos z]; omega
    · rw [if_neg z]; omega
  have e21 : nI (oTt (x + y) (oA (Nat.beq x 1) y)) = 21 ↔ oNat x y := by
    rw [show (21 : Int32) = nI 21 from rfl, nI_eq (by omega) (by omega)]
    exact t
  rw [B69_0, a42, zbsome, zpu1, B69_8, S173y _ _ _ _ _ (by omega), zbsome, zpu1, B69_13]
  unfold oPw
  by_cases c : oNat x y
  · have r1 : ∀ d, zgo false d 169 0 [zr 34 0, zi 1] [] A = some (some (zi (nI (q 1))), A) := fun d => (at34n false d 0 1 A (by omega)).trans (by rw [hR.1 1 (by omega)])
    have hq := hR.2.2.2.1
    have w1 : 0 ≤ (q 1 : Int) * (1000000 - oO o q dv 8) := Int.mul_nonneg (by omega) (by omega)
    have w2 : (q 1 : Int) * (1000000 - oO o q dv 8) ≤ 200 * 1000000 := Int.mul_le_mul (by omega) (by omega) (by omega) (by omega)
    rw [if_pos (e21.mpr c), if_pos c, r1, zbsome, zpu1, B69_26, if_neg (by decide), yI_nat, show (1000000 : Int32) = yI 1000000 from rfl, yI_sub, yIJ ⟨by omega, by omega⟩, yIJ ⟨by omega, by omega⟩, yJ_mul, show (100 : Int64) = yJ 100 from rfl, yJ_div ⟨by omega, by omega⟩ ⟨by decide, by decide⟩ (by decide)]
  · have nt := mt t.mp c
    have hl : oPl (x + y) (oA (Nat.beq x 1) y) ≤ 53 := oPl_lt
    have e1 : nI dv * 64 = nI (64 * dv) := by rw [show (64 : Int32) = nI 64 from rfl, pk_mul, Nat.mul_comm]
    have row : zgI A 41 0 (64 * dv + oPl (x + y) (oA (Nat.beq x 1) y)) = yI (oBw o q dv (x + y) (oA (Nat.beq x 1) y)) := by
      unfold oPl
      by_cases z : oA (Nat.beq x 1) y = true ∧ x + y ≤ 11
      · have : ¬ x + y = 11 := fun z2 => nt (by unfold oTt; rw [if_pos z, z2])
        rw [if_pos z, hB.2.1 _ (by omega) (by omega), z.1]
      · have ha : oA (Nat.beq x 1) y = false := by
          cases hb : oA (Nat.beq x 1) y with
          | false => rfl
          | true =>
            exfalso
            apply z
            refine ⟨hb, ?_⟩
            unfold oA at hb
            rcases Bool.or_eq_true_iff.mp hb with h1 | h1
            · have := Nat.eq_of_beq_eq_true h1
              omega
            · have := Nat.eq_of_beq_eq_true h1
              omega
        have hs : 4 ≤ x + y := by
          have h1 : ¬ x = 1 := by
            rintro rfl
            cases ha
          have h2 : ¬ y = 1 := by
            rintro rfl
            unfold oA at ha
            rcases Bool.or_eq_false_iff.mp ha with ⟨-, h⟩
            cases h
          omega
        rw [if_neg z, if_pos (by omega), hB.1 _ hs (by omega), ha]
    have a41 : ∀ d, zgo false d 169 0 [zr 41 0, zi (nI (64 * dv + oPl (x + y) (oA (Nat.beq x 1) y)))] [] A = some (some (zi (yI (oBw o q dv (x + y) (oA (Nat.beq x 1) y)))), A) := fun d => (at41n false d 0 _ A (by omega)).trans (by rw [row])
    have bw := oW_b (O := oO o q dv) hN (fun k => oO_nn dv k) (oO_q (q := q) hN dv) (x + y) (oA (Nat.beq x 1) y) (oBst o (oO o q dv) (x + y) (oA (Nat.beq x 1) y) (Nat.beq (q 2) 1))
    rw [if_neg (mt e21.mp c), if_neg c, S74y _ _ _ _ _ (by omega), zbsome, e1]
    show zgo false (d + 1) 69 50 [zr 7 0, _, zi (nI dv), zi (yI (oO o q dv 8))] [zi (nI (oPl (x + y) (oA (Nat.beq x 1) y))), zi (nI (64 * dv)), zr 41 0] A = _
    have bw : -2000000 ≤ oBw o q dv (x + y) (oA (Nat.beq x 1) y) ∧ oBw o q dv (x + y) (oA (Nat.beq x 1) y) ≤ 2000000 := bw
    rw [B69_50, nI_add, a41, zbsome, zpu1, B69_54, yI_sub, yIJ ⟨by omega, by omega⟩]
theorem L68 (d x y : Nat) (hx : 1 ≤ x ∧ x ≤ 10) (hy : 1 ≤ y ∧ y ≤ 10) {A : zM} {o q : Nat → Nat} (hH : oH A o) (hR : oR A q) (hB : ∀ dv, 1 ≤ dv → dv ≤ 10 → oBt A o q dv) : ∀ (j n : Nat) (u3 : zV), n + j = 10 → zgo false (d + 2) 68 5 [zr 7 0, zi (nI (oHd (x + y) (oA (Nat.beq x 1) y))), zl (yJ (oSm o (fun dv => oPw o q x y dv) n)), u3, zi (nI (n + 1))] [] A = some (some (zl (yJ (oAv o (fun dv => oPw o q x y dv)))), A)
  | 0, n, u3, hn => by
    have hn : n = 10 := hn
    subst hn
    have b := oSm_b (o := o) (n := 10) (m := 3000000) (f := fun dv => oPw o q x y dv) (by decide) hH.2.2.2 (Nat.le_refl _) (fun v _ _ => oPw_b hH.2.2.1 hR.2.2.2.1 x y v)
    rw [B68_5, if_pos (by decide), S73 _ _ _ hH ⟨by omega, by omega⟩, zbsome]
    show zgo false (d + 2) 68 44 _ [zl _] A = _
    rw [B68_44]
    rfl
  | j + 1, n, u3, hn => by
    have ih := L68 d x y hx hy hH hR hB j (n + 1) zu (by omega)
    have c : ¬ (10 : Int32) < nI (n + 1) := nI_nlt (a := 10) (by omega) (by omega)
    have a1 : ∀ d, zgo false d 169 0 [zr 33 0, zi (nI (n + 1))] [] A = some (some (zi (nI (o (n + 1)))), A) := fun d => (at33n false d 0 (n + 1) A (by omega)).trans (by rw [hH.1 (n + 1) (by omega) (by omega)])
    have ob : o (n + 1) ≤ 416 := by
      have := hH.2.2.2
      unfold ysm at this
      rcases (by omega : n = 0 ∨ n = 1 ∨ n = 2 ∨ n = 3 ∨ n = 4 ∨ n = 5 ∨ n = 6 ∨ n = 7 ∨ n = 8 ∨ n = 9) with rfl | rfl | rfl | rfl | rfl | rfl | rfl | rfl | rfl | rfl <;> (simp only [Nat.zero_add, Nat.reduceAdd]; omega)
    rw [B68_5, if_neg c, a1, zbsome]
    show zgo false (d + 2) 68 22 [zr 7 0, _, zl _, u3, zi (nI (n + 1))] [zi (nI (o (n + 1))), zl _] A = _
    rw [B68_22, S69 d x y (n + 1) hx hy ⟨by omega, by omega⟩ zu hH hR (hB _ (by omega) (by omega)), zbsome, yI_nat (o (n + 1)), yIJ ⟨by omega, by omega⟩]
    show zgo false (d + 2) 68 30 [zr 7 0, _, zl _, u3, zi (nI (n + 1))] [zl (yJ (oPw o q x y (n + 1))), zl (yJ (o (n + 1))), zl _] A = _
    rw [B68_30, nI_1, yJ_mul, yJ_add]
    exact ih
theorem oLe {o : Nat → Nat} (h : ysm o ≤ 416) {n : Nat} (hn : n < 10) : o (n + 1) ≤ 416 := by
  unfold ysm at h
  rcases (by omega : n = 0 ∨ n = 1 ∨ n = 2 ∨ n = 3 ∨ n = 4 ∨ n = 5 ∨ n = 6 ∨ n = 7 ∨ n = 8 ∨ n = 9) with rfl | rfl | rfl | rfl | rfl | rfl | rfl | rfl | rfl | rfl <;> (simp only [Nat.zero_add, Nat.reduceAdd]; omega)
theorem L67 (d x : Nat) (hx : 1 ≤ x ∧ x ≤ 10) {A : zM} {o q : Nat → Nat} (hH : oH A o) (hR : oR A q) (hB : ∀ dv, 1 ≤ dv → dv ≤ 10 → oBt A o q dv) : ∀ (j n : Nat) (u3 : zV), n + j = 10 → zgo false (d + 3) 67 5 [zr 7 0, zi (nI x), zl (yJ (oSm o (fun y => oAv o (fun dv => oPw o q x y dv)) n)), u3, zi (nI (n + 1))] [] A = some (some (zl (yJ (oAv o (fun y => oAv o (fun dv => oPw o q x y dv))))), A)
  | 0, n, u3, hn => by
    have hn : n = 10 := hn
    subst hn
    have b := oSm_b (o := o) (n := 10) (m := 3000000) (f := fun y => oAv o (fun dv => oPw o q x y dv)) (by decide) hH.2.2.2 (Nat.le_refl _) (fun v _ _ => oW2_b hH.2.2.1 hR.2.2.2.1 x v)
    rw [B67_5, if_pos (by decide), S73 _ _ _ hH ⟨by omega, by omega⟩, zbsome]
    show zgo false (d + 3) 67 51 _ [zl _] A = _
    rw [B67_51]
    rfl
  | j + 1, n, u3, hn => by
    have ih := L67 d x hx hH hR hB j (n + 1) zu (by omega)
    have c : ¬ (10 : Int32) < nI (n + 1) := nI_nlt (a := 10) (by omega) (by omega)
    have a1 : ∀ d, zgo false d 169 0 [zr 33 0, zi (nI (n + 1))] [] A = some (some (zi (nI (o (n + 1)))), A) := fun d => (at33n false d 0 (n + 1) A (by omega)).trans (by rw [hH.1 (n + 1) (by omega) (by omega)])
    have ob := oLe hH.2.2.2 (show n < 10 by omega)
    have c1 : zgo false (d + 2) 172 0 [zi 0, zi (nI x), zu, zu] [] A = some (some (zi (nI (oHd x (Nat.beq x 1)))), A) := by
      have e := S172y false (d + 2) 0 x false zu zu A (by omega) hx
      rw [show oHd x (Nat.beq x 1) = oHd (0 + x) (oA false x) by rw [Nat.zero_add]; rfl]
      exact e
    have c2 := S172y false (d + 2) x (n + 1) (Nat.beq x 1) zu zu A (by omega) ⟨by omega, by omega⟩
    have s68 : zgo false (d + 2) 68 0 [zr 7 0, zi (nI (oHd (x + (n + 1)) (oA (Nat.beq x 1) (n + 1)))), zu, zu, zu] [] A = some (some (zl (yJ (oAv o (fun dv => oPw o q x (n + 1) dv)))), A) := by
      rw [B68_0]
      exact L68 d x (n + 1) hx ⟨by omega, by omega⟩ hH hR hB 10 0 zu rfl
    rw [B67_5, if_neg c, a1, zbsome]
    show zgo false (d + 3) 67 22 [zr 7 0, zi (nI x), zl _, u3, zi (nI (n + 1))] [zi (nI (o (n + 1))), zl _] A = _
    rw [B67_22, c1, zbsome, yI_nat (o (n + 1)), yIJ ⟨by omega, by omega⟩]
    show zgo false (d + 3) 67 29 [zr 7 0, zi (nI x), zl _, u3, zi (nI (n + 1))] [zi (nI (oHd x (Nat.beq x 1))), zr 7 0, zl (yJ (o (n + 1))), zl _] A = _
    rw [B67_29, c2, zbsome]
    show zgo false (d + 3) 67 34 [zr 7 0, zi (nI x), zl _, u3, zi (nI (n + 1))] [zi (nI (oHd (x + (n + 1)) (oA (Nat.beq x 1) (n + 1)))), zr 7 0, zl (yJ (o (n + 1))), zl _] A = _
    rw [B67_34, s68, zbsome]
    show zgo false (d + 3) 67 37 [zr 7 0, zi (nI x), zl _, u3, zi (nI (n + 1))] [zl (yJ (oAv o (fun dv => oPw o q x (n + 1) dv))), zl (yJ (o (n + 1))), zl _] A = _
    rw [B67_37, nI_1, yJ_mul, yJ_add]
    exact ih
theorem L66b (d : Nat) {A : zM} {o q : Nat → Nat} (hH : oH A o) (hR : oR A q) (hB : ∀ dv, 1 ≤ dv → dv ≤ 10 → oBt A o q dv) : ∀ (j n : Nat) (u3 : zV), n + j = 10 → zgo false (d + 4) 66 23 [zr 7 0, zl (yJ (oSm o (fun x => oAv o (fun y => oAv o (fun dv => oPw o q x y dv))) n)), u3, zi (nI (n + 1))] [] A = some (some (zi (yI (oWh o q))), A)
  | 0, n, u3, hn => by
    have hn : n = 10 := hn
    subst hn
    have b := oSm_b (o := o) (n := 10) (m := 3000000) (f := fun x => oAv o (fun y => oAv o (fun dv => oPw o q x y dv))) (by decide) hH.2.2.2 (Nat.le_refl _) (fun v _ _ => oW1_b hH.2.2.1 hR.2.2.2.1 v)
    rw [B66_23, if_pos (by decide), S73 _ _ _ hH ⟨by omega, by omega⟩, zbsome]
    show zgo false (d + 4) 66 58 _ [zl _] A = _
    rw [B66_58, yJI]
    rfl
  | j + 1, n, u3, hn => by
    have ih := L66b d hH hR hB j (n + 1) zu (by omega)
    have c : ¬ (10 : Int32) < nI (n + 1) := nI_nlt (a := 10) (by omega) (by omega)
    have a1 : ∀ d, zgo false d 169 0 [zr 33 0, zi (nI (n + 1))] [] A = some (some (zi (nI (o (n + 1)))), A) := fun d => (at33n false d 0 (n + 1) A (by omega)).trans (by rw [hH.1 (n + 1) (by omega) (by omega)])
    have ob := oLe hH.2.2.2 (show n < 10 by omega)
    have s67 : zgo false (d + 3) 67 0 [zr 7 0, zi (nI (n + 1)), zu, zu, zu] [] A = some (some (zl (yJ (oAv o (fun y => oAv o (fun dv => oPw o q (n + 1) y dv))))), A) := by
      rw [B67_0]
      exact L67 d (n + 1) ⟨by omega, by omega⟩ hH hR hB 10 0 zu rfl
    rw [B66_23, if_neg c, a1, zbsome]
    show zgo false (d + 4) 66 38 [zr 7 0, zl _, u3, zi (nI (n + 1))] [zi (nI (o (n + 1))), zl _] A = _
    rw [B66_38, s67, zbsome, yI_nat (o (n + 1)), yIJ ⟨by omega, by omega⟩]
    show zgo false (d + 4) 66 44 [zr 7 0, zl _, u3, zi (nI (n + 1))] [zl (yJ (oAv o (fun y => oAv o (fun dv => oPw o q (n + 1) y dv)))), zl (yJ (o (n + 1))), zl _] A = _
    rw [B66_44, nI_1, yJ_mul, yJ_add]
    exact ih
/-- 'handWorth' -/
theorem S66 (d : Nat) (u1 u2 u3 : zV) {A : zM} {o q : Nat → Nat} (hA : Raf A) (hH : oH A o) (hR : oR A q) (hE : oEn A o q 1 1) : ∃ A', zgo false (d + 5) 66 0 [zr 7 0, u1, u2, u3] [] A = some (some (zi (yI (oWh o q))), A') ∧ zFo oFg A A' := by
  obtain ⟨A', e, f, r1, r2, r3, r4⟩ := L66 d u2 u3 10 0 A rfl hA hH hR hE (fun dv d1 d2 => by omega)
  refine ⟨A', ?_, f⟩
  rw [B66_0]
  exact e.trans (L66b (d + 1) r2 r3 r4 10 0 zu rfl)
