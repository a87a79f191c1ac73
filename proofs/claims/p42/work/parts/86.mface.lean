/-! ===== odds: 'endsFrom', 'standAt' ===== -/
def mO (B : zM) (O : Nat → Int) : Prop := ∀ k, k < 9 → zgL B 79 0 k = yJ (O k)
def mFo (a b c : Nat) : Prop := b = 0 ∧ (a = 77 ∨ a = 78 ∨ a = 79 ∨ a = 81)
theorem L245b (d dv : Nat) (hd : 1 ≤ dv ∧ dv ≤ 10) {o q : Nat → Nat} : ∀ (j k : Nat) (B : zM) (u3 u4 u5 u6 : zV), k + j = 9 → mH B o → mR B q → mE B o q 1 → (∀ k', k' < k → zgL B 79 0 k' = yJ (oO o q dv k')) → ∃ (B' : zM) (v3 v4 v5 v6 : zV), zgo false (d + 24) 245 2 [zr 13 0, zi (nI dv), zi (nI k), u3, u4, u5, u6] [] B = zgo false (d + 24) 245 201 [zr 13 0, zi (nI dv), zi 0, v3, v4, v5, v6] [] B' ∧ zFo mFo B B' ∧ mE B' o q 1 ∧ mO B' (oO o q dv)
  | 0, k, B, u3, u4, u5, u6, hk, hH, hR, hE, hO => by
    have hk : k = 9 := hk
    subst hk
    refine ⟨B, u3, u4, u5, u6, ?_, zFo_refl _ B, hE, hO⟩
    rw [B245_2, if_pos (by decide)]
  | j + 1, k, B, u3, u4, u5, u6, hk, hH, hR, hE, hO => by
    have c : ¬ (9 : Int32) ≤ nI k := nI_ge (b := 9) (by omega) (by omega)
    obtain ⟨B1, v3, v4, v5, v6, e1, f1, m1⟩ := L245a d dv k hd (by omega) (o := o) (q := q) 10 0 B zu u6 rfl hH hR hE
    let B2 := zsL B1 79 0 k (yJ (oO o q dv k))
    have f2 : zFo (fun a b c => a = 79 ∧ b = 0 ∧ c = k) B1 B2 := zFo_sL (zFo_refl _ B1) ⟨rfl, rfl, rfl⟩
    have hH2 : mH B2 o := mH_fr (mH_fr hH f1 (fun v r => by unfold mFe at r; omega)) f2 (fun v r => by omega)
    have hR2 : mR B2 q := mR_fr (mR_fr hR f1 (fun v r => by unfold mFe at r; omega)) f2 (fun v r => by omega)
    have hE2 : mE B2 o q 1 := fun s a s1 s2 => mE_same (m1 s a s1 s2) ((f2 78 0 _ (by omega)).1) (fun k hk => (f2 77 0 _ (by omega)).2.1)
    obtain ⟨B', w3, w4, w5, w6, e, f, m, r⟩ := L245b d dv hd j (k + 1) B2 v3 v4 v5 v6 (by omega) hH2 hR2 hE2 (fun k' h' => by
      rw [zgL_sL]
      by_cases z : k' = k
      · rw [if_pos ⟨rfl, rfl, z⟩, z]
      · rw [if_neg (by omega), (f1 79 0 k' (by unfold mFe; omega)).2.1]
        exact hO k' (by omega))
    refine ⟨B', w3, w4, w5, w6, ?_, zFo_trans (zFo_mono f1 (fun a b c z => by unfold mFe at z; unfold mFo; omega)) (zFo_trans (zFo_mono f2 (fun a b c z => by unfold mFo; omega)) f), m, r⟩
    rw [B245_2, if_neg c]
    exact e1.trans e
theorem L245c (d : Nat) (x1 : Int32) (u3 u4 u5 u6 : zV) : ∀ (j n : Nat) (B : zM), n + j = 64 → (∀ x, x < n → zgI B 81 0 x = 0) → ∃ B', zgo false d 245 201 [zr 13 0, zi x1, zi (nI n), u3, u4, u5, u6] [] B = some (none, B') ∧ zFo (fun a b _ => a = 81 ∧ b = 0) B B' ∧ ∀ x, x < 64 → zgI B' 81 0 x = 0
  | 0, n, B, hn, h => by
    have hn : n = 64 := hn
    subst hn
    refine ⟨B, ?_, zFo_refl _ B, h⟩
    rw [B245_201, if_pos (by decide)]
  | j + 1, n, B, hn, h => by
    have c : ¬ (64 : Int32) ≤ nI n := nI_ge (b := 64) (by omega) (by omega)
    have z1 : zin (nI n) 64 = true := zin_nI (by omega) (by omega)
    have c1 : (nI n).toNatClampNeg = n := nI_clamp (by omega)
    obtain ⟨B', e, f, w⟩ := L245c d x1 u3 u4 u5 u6 j (n + 1) (zsI B 81 0 n 0) (by omega) (fun x hx => by
      rw [zgI_sI]
      by_cases z : x = n
      · rw [if_pos ⟨rfl, rfl, z⟩]
      · rw [if_neg (by omega)]
        exact h x (by omega))
    refine ⟨B', ?_, zFo_trans (zFo_sI (zFo_refl _ B) ⟨rfl, rfl⟩) f, w⟩
    rw [B245_201, if_neg c, if_pos z1, c1, nI_1]
    exact e
/-- what the model has against an open value -/
def mFc (B : zM) (o q : Nat → Nat) (dv : Nat) : Prop := mO B (oO o q dv) ∧ mE B o q 1
def mD (B : zM) (o : Nat → Nat) (O : Nat → Int) : Prop := ∀ s a, s ≤ 31 → zgI B 81 0 (mA s a) = 0 ∨ (zgI B 81 0 (mA s a) = 1 ∧ zgL B 80 0 (mA s a) = yJ (oDe o O s a))
theorem S245 (d dv : Nat) (hd : 1 ≤ dv ∧ dv ≤ 10) (u2 u3 u4 u5 u6 : zV) {o q : Nat → Nat} {B : zM} (hH : mH B o) (hR : mR B q) (hE : mE B o q 1) : ∃ B', zgo false (d + 24) 245 0 [zr 13 0, zi (nI dv), u2, u3, u4, u5, u6] [] B = some (none, B') ∧ zFo mFo B B' ∧ mE B' o q 1 ∧ mO B' (oO o q dv) ∧ mD B' o (oO o q dv) := by
  obtain ⟨B1, v3, v4, v5, v6, e1, f1, m1, r1⟩ := L245b d dv hd (o := o) (q := q) 9 0 B u3 u4 u5 u6 rfl hH hR hE (fun k' h' => by omega)
  obtain ⟨B2, e2, f2, w2⟩ := L245c (d + 24) (nI dv) v3 v4 v5 v6 64 0 B1 rfl (fun x hx => by omega)
  refine ⟨B2, ?_, zFo_trans f1 (zFo_mono f2 (fun a b c z => by unfold mFo; omega)), fun s a s1 s2 => mE_same (m1 s a s1 s2) ((f2 78 0 _ (by omega)).1) (fun k hk => (f2 77 0 _ (by omega)).2.1), fun k hk => ((f2 79 0 k (by omega)).2.1).trans (r1 k hk), fun s a hs => Or.inl (w2 _ (by unfold mA; have := bN_le a; omega))⟩
  rw [B245_0]
  exact e1.trans e2
theorem L246 (d t : Nat) (ht : t ≤ 41) {O : Nat → Int} {B : zM} (h : mO B O) : ∀ (j n : Nat) (u3 : zV), n + j = 7 → zgo false d 246 28 [zr 13 0, zi (nI t), zl (yJ (oStk O t 7 + oPs (oStk O t) n)), u3, zi (nI n)] [] B = some (some (zl (yJ (oSt O t))), B)
  | 0, n, u3, hn => by
    have hn : n = 7 := hn
    subst hn
    have e : oStk O t 7 + oPs (oStk O t) 7 = oSt O t := by
      unfold oSt oQ
      simp only [oPs]
      omega
    rw [B246_28, if_pos (by decide), e]
  | j + 1, n, u3, hn => by
    have c : ¬ (7 : Int32) ≤ nI n := nI_ge (b := 7) (by omega) (by omega)
    have z1 : zin (nI n) 9 = true := zin_nI (by omega) (by omega)
    have c1 : (nI n).toNatClampNeg = n := nI_clamp (by omega)
    have e15 : nI n + 15 = nI (n + 15) := by rw [show (15 : Int32) = nI 15 from rfl, nI_add]
    have l1 : 21 < nI t ↔ 21 < t := nI_ltI (a := 21) (by omega) (by omega)
    have l2 : nI (n + 15) ≤ nI t ↔ n + 15 ≤ t := nI_leI (by omega) (by omega)
    have l3 : nI t ≤ nI (n + 15) ↔ t ≤ n + 15 := nI_leI (by omega) (by omega)
    have hn' := h n (by omega)
    have st : ∀ x u3, x = oStk O t 7 + oPs (oStk O t) (n + 1) → zgo false d 246 82 [zr 13 0, zi (nI t), zl (yJ x), u3, zi (nI n)] [] B = some (some (zl (yJ (oSt O t))), B) := by
      intro x u3 hx
      rw [B246_82, nI_1, hx]
      exact L246 d t ht h j (n + 1) (zkl u3) (by omega)
    have ep : oPs (oStk O t) (n + 1) = oPs (oStk O t) n + oStk O t n := rfl
    have neg : oStk O t n = -O n → zgo false d 246 50 [zr 13 0, zi (nI t), zl (yJ (oStk O t 7 + oPs (oStk O t) n)), u3, zi (nI n)] [] B = some (some (zl (yJ (oSt O t))), B) := by
      intro hx
      rw [B246_50, if_pos z1, c1, hn', yJ_sub]
      exact st _ _ (by rw [ep, hx]; omega)
    rw [B246_28, if_neg c, e15]
    by_cases h1 : 21 < t
    · rw [if_pos (l1.mpr h1)]
      exact neg (if_pos h1)
    · rw [if_neg (mt l1.mp h1)]
      by_cases h2 : n + 15 ≤ t
      · rw [if_pos (l2.mpr h2)]
        by_cases h3 : t ≤ n + 15
        · rw [if_pos (l3.mpr h3)]
          refine st _ _ ?_
          have : oStk O t n = 0 := by
            unfold oStk
            rw [if_neg h1, if_neg (by omega), if_neg (by omega)]
          rw [ep, this]
          omega
        · rw [if_neg (mt l3.mp h3), if_pos z1, c1, hn', yJ_add]
          refine st _ _ ?_
          have : oStk O t n = O n := by
            unfold oStk
            rw [if_neg h1, if_pos (by omega)]
          rw [ep, this]
          omega
      · rw [if_neg (mt l2.mp h2)]
        refine neg ?_
        unfold oStk
        rw [if_neg h1, if_neg (by omega), if_pos (by omega)]
theorem S246 (d t : Nat) (ht : t ≤ 41) (u2 u3 u4 : zV) {O : Nat → Int} {B : zM} (h : mO B O) : zgo false d 246 0 [zr 13 0, zi (nI t), u2, u3, u4] [] B = some (some (zl (yJ (oSt O t))), B) := by
  have z7 : zin 7 9 = true := rfl
  have l : nI t ≤ 21 ↔ t ≤ 21 := nI_leI (b := 21) (by omega) (by omega)
  have e7 : zgL B 79 0 (7 : Int32).toNatClampNeg = yJ (O 7) := h 7 (by omega)
  have k : zgo false d 246 0 [zr 13 0, zi (nI t), u2, u3, u4] [] B = zgo false d 246 24 [zr 13 0, zi (nI t), u2, u3, u4] [zl (yJ (oStk O t 7))] B := by
    rw [B246_0]
    by_cases c : t ≤ 21
    · have e : oStk O t 7 = O 7 := by
        unfold oStk
        rw [if_neg (by omega), if_pos (Or.inl rfl)]
      rw [if_pos (l.mpr c), if_pos z7, e7, e]
    · have e : oStk O t 7 = -O 7 := if_pos (by omega)
      rw [if_neg (mt l.mp c), if_pos z7, e7, yJ_neg, e]
  have i := L246 d t ht h 7 0 zu rfl
  have ep : oStk O t 7 + oPs (oStk O t) 0 = oStk O t 7 := Int.add_zero _
  rw [ep] at i
  rw [k, B246_24]
  exact i
theorem mO_fr {B B' : zM} {O : Nat → Int} {P : Nat → Nat → Nat → Prop} (h : mO B O) (f : zFo P B B') (hp : ∀ v, ¬ P 79 0 v) : mO B' O := fun k hk => ((f 79 0 k (hp k)).2.1).trans (h k hk)
