/-! ===== odds: 'wholeBy', its loops ===== -/
def mT (B : zM) (o q : Nat → Nat) (P : Nat → Nat → Nat → Prop) : Prop := ∀ x y dv, 1 ≤ x → x ≤ 10 → 1 ≤ y → y ≤ 10 → 1 ≤ dv → dv ≤ 10 → P x y dv → zgL B 82 0 (121 * x + 11 * y + dv) = yJ (oPw o q x y dv)
def mFq (a b _c : Nat) : Prop := b = 0 ∧ (a = 80 ∨ a = 81 ∨ a = 82)
def mFw (a b _c : Nat) : Prop := b = 0 ∧ 77 ≤ a ∧ a ≤ 82
theorem mE_fr {B B' : zM} {o q : Nat → Nat} {lo : Nat} {P : Nat → Nat → Nat → Prop} (h : mE B o q lo) (f : zFo P B B') (h1 : ∀ v, ¬ P 77 0 v) (h2 : ∀ v, ¬ P 78 0 v) : mE B' o q lo := fun s a s1 s2 => mE_same (h s a s1 s2) ((f 78 0 _ (h2 _)).1) (fun k hk => (f 77 0 _ (h1 _)).2.1)
theorem L256y (d dv x : Nat) (hd : 1 ≤ dv ∧ dv ≤ 10) (hx : 1 ≤ x ∧ x ≤ 10) (u6 u7 u8 u9 : zV) {o q : Nat → Nat} : ∀ (j n : Nat) (B : zM) (u4 u5 : zV), n + j = 10 → mH B o → mR B q → mO B (oO o q dv) → mD B o (oO o q dv) → mT B o q (fun x' y' d' => d' < dv ∨ (d' = dv ∧ (x' < x ∨ (x' = x ∧ y' ≤ n)))) → ∃ (B' : zM) (v3 v4 v5 : zV), zgo false (d + 26) 256 27 [zr 13 0, zi (nI dv), zi (nI x), zi (nI (n + 1)), u4, u5, u6, u7, u8, u9] [] B = zgo false (d + 26) 256 19 [zr 13 0, zi (nI dv), zi (nI (x + 1)), v3, v4, v5, u6, u7, u8, u9] [] B' ∧ zFo mFq B B' ∧ mD B' o (oO o q dv) ∧ mT B' o q (fun x' _ d' => d' < dv ∨ (d' = dv ∧ x' < x + 1))
  | 0, n, B, u4, u5, hn, hH, hR, hM, hD, hT => by
    have hn : n = 10 := hn
    subst hn
    refine ⟨B, zi (nI 11), u4, u5, ?_, zFo_refl _ B, hD, fun x' y' d' a1 a2 a3 a4 a5 a6 a7 => hT x' y' d' a1 a2 a3 a4 a5 a6 (by omega)⟩
    rw [B256_27, if_pos (by decide), nI_1]
  | j + 1, n, B, u4, u5, hn, hH, hR, hM, hD, hT => by
    obtain ⟨B1, v4, v5, e1, f1, m1, t1⟩ := S256s d dv x (n + 1) hd hx ⟨by omega, by omega⟩ u4 u5 u6 u7 u8 u9 hH hR hM hD
    obtain ⟨B', w3, w4, w5, e, f, r⟩ := L256y d dv x hd hx u6 u7 u8 u9 j (n + 1) B1 v4 v5 (by omega) (mH_fr hH f1 (fun v z => by unfold mFp at z; omega)) (mR_fr hR f1 (fun v z => by unfold mFp at z; omega)) (mO_fr hM f1 (fun v z => by unfold mFp at z; omega)) m1 (fun x' y' d' a1 a2 a3 a4 a5 a6 a7 => by
      by_cases z : 121 * x' + 11 * y' + d' = 121 * x + 11 * (n + 1) + dv
      · have z1 : x' = x ∧ y' = n + 1 ∧ d' = dv := by omega
        rw [z1.1, z1.2.1, z1.2.2]
        exact t1
      · rw [(f1 82 0 _ (by unfold mFp; omega)).2.1]
        exact hT x' y' d' a1 a2 a3 a4 a5 a6 (by omega))
    exact ⟨B', w3, w4, w5, e1.trans e, zFo_trans (zFo_mono f1 (fun a b c z => by unfold mFp at z; unfold mFq; omega)) f, r⟩
theorem L256x (d dv : Nat) (hd : 1 ≤ dv ∧ dv ≤ 10) (u6 u7 u8 u9 : zV) {o q : Nat → Nat} : ∀ (j n : Nat) (B : zM) (u3 u4 u5 : zV), n + j = 10 → mH B o → mR B q → mO B (oO o q dv) → mD B o (oO o q dv) → mT B o q (fun x' _ d' => d' < dv ∨ (d' = dv ∧ x' ≤ n)) → ∃ (B' : zM) (v2 v3 v4 v5 : zV), zgo false (d + 26) 256 19 [zr 13 0, zi (nI dv), zi (nI (n + 1)), u3, u4, u5, u6, u7, u8, u9] [] B = zgo false (d + 26) 256 6 [zr 13 0, zi (nI (dv + 1)), v2, v3, v4, v5, u6, u7, u8, u9] [] B' ∧ zFo mFq B B' ∧ mT B' o q (fun _ _ d' => d' < dv + 1)
  | 0, n, B, u3, u4, u5, hn, hH, hR, hM, hD, hT => by
    have hn : n = 10 := hn
    subst hn
    refine ⟨B, zi (nI 11), u3, u4, u5, ?_, zFo_refl _ B, fun x' y' d' a1 a2 a3 a4 a5 a6 a7 => hT x' y' d' a1 a2 a3 a4 a5 a6 (by omega)⟩
    rw [B256_19, if_pos (by decide), nI_1]
  | j + 1, n, B, u3, u4, u5, hn, hH, hR, hM, hD, hT => by
    have c : ¬ (10 : Int32) < nI (n + 1) := nI_nlt (a := 10) (by omega) (by omega)
    obtain ⟨B1, v3, v4, v5, e1, f1, m1, t1⟩ := L256y d dv (n + 1) hd ⟨by omega, by omega⟩ u6 u7 u8 u9 10 0 B u4 u5 rfl hH hR hM hD (fun x' y' d' a1 a2 a3 a4 a5 a6 a7 => hT x' y' d' a1 a2 a3 a4 a5 a6 (by omega))
    obtain ⟨B', w2, w3, w4, w5, e, f, r⟩ := L256x d dv hd u6 u7 u8 u9 j (n + 1) B1 v3 v4 v5 (by omega) (mH_fr hH f1 (fun v z => by unfold mFq at z; omega)) (mR_fr hR f1 (fun v z => by unfold mFq at z; omega)) (mO_fr hM f1 (fun v z => by unfold mFq at z; omega)) m1 (fun x' y' d' a1 a2 a3 a4 a5 a6 a7 => t1 x' y' d' a1 a2 a3 a4 a5 a6 (by omega))
    refine ⟨B', w2, w3, w4, w5, ?_, zFo_trans f1 f, r⟩
    rw [B256_19, if_neg c]
    exact e1.trans e
theorem L256d (d : Nat) (u6 u7 u8 u9 : zV) {o q : Nat → Nat} : ∀ (j n : Nat) (B : zM) (u2 u3 u4 u5 : zV), n + j = 10 → mH B o → mR B q → mE B o q 1 → mT B o q (fun _ _ d' => d' ≤ n) → ∃ (B' : zM) (v4 v5 : zV), zgo false (d + 26) 256 6 [zr 13 0, zi (nI (n + 1)), u2, u3, u4, u5, u6, u7, u8, u9] [] B = zgo false (d + 26) 256 179 [zr 13 0, zl 0, zu, zi 1, v4, v5, u6, u7, u8, u9] [] B' ∧ zFo mFw B B' ∧ mT B' o q (fun _ _ _ => True)
  | 0, n, B, u2, u3, u4, u5, hn, hH, hR, hE, hT => by
    have hn : n = 10 := hn
    subst hn
    refine ⟨B, u4, u5, ?_, zFo_refl _ B, fun x' y' d' a1 a2 a3 a4 a5 a6 a7 => hT x' y' d' a1 a2 a3 a4 a5 a6 (by omega)⟩
    rw [B256_6, if_pos (by decide)]
  | j + 1, n, B, u2, u3, u4, u5, hn, hH, hR, hE, hT => by
    have c : ¬ (10 : Int32) < nI (n + 1) := nI_nlt (a := 10) (by omega) (by omega)
    obtain ⟨B1, e1, f1, mE1, mO1, mD1⟩ := S245 (d + 1) (n + 1) ⟨by omega, by omega⟩ zu zu zu zu zu hH hR hE
    have hH1 : mH B1 o := mH_fr hH f1 (fun v z => by unfold mFo at z; omega)
    have hR1 : mR B1 q := mR_fr hR f1 (fun v z => by unfold mFo at z; omega)
    obtain ⟨B2, v2, v3, v4, v5, e2, f2, t2⟩ := L256x d (n + 1) ⟨by omega, by omega⟩ u6 u7 u8 u9 10 0 B1 u3 u4 u5 rfl hH1 hR1 mO1 mD1 (fun x' y' d' a1 a2 a3 a4 a5 a6 a7 => by
      rw [(f1 82 0 _ (by unfold mFo; omega)).2.1]
      exact hT x' y' d' a1 a2 a3 a4 a5 a6 (by omega))
    obtain ⟨B', w4, w5, e, f, r⟩ := L256d d u6 u7 u8 u9 j (n + 1) B2 v2 v3 v4 v5 (by omega) (mH_fr hH1 f2 (fun v z => by unfold mFq at z; omega)) (mR_fr hR1 f2 (fun v z => by unfold mFq at z; omega)) (mE_fr mE1 f2 (fun v z => by unfold mFq at z; omega) (fun v z => by unfold mFq at z; omega)) (fun x' y' d' a1 a2 a3 a4 a5 a6 a7 => t2 x' y' d' a1 a2 a3 a4 a5 a6 (by omega))
    refine ⟨B', w4, w5, ?_, zFo_trans (zFo_mono f1 (fun a b c z => by unfold mFo at z; unfold mFw; omega)) (zFo_trans (zFo_mono f2 (fun a b c z => by unfold mFq at z; unfold mFw; omega)) f), r⟩
    have e1' : zgo false (d + 25) 245 0 [zr 13 0, zi (nI (n + 1)), zu, zu, zu, zu, zu] [] B = some (none, B1) := e1
    rw [B256_6, if_neg c, e1', zbsome, zpu0, B256_17]
    exact e2.trans e
theorem L244 (d : Nat) : ∀ (j n : Nat) (B : zM), n + j = 64 → (∀ x, x < n → zgI B 78 0 x = 0) → ∃ B', zgo false d 244 2 [zr 13 0, zi (nI n)] [] B = some (none, B') ∧ zFo (fun a b _ => a = 78 ∧ b = 0) B B' ∧ ∀ x, x < 64 → zgI B' 78 0 x = 0
  | 0, n, B, hn, h => by
    have hn : n = 64 := hn
    subst hn
    refine ⟨B, ?_, zFo_refl _ B, h⟩
    rw [B244_2, if_pos (by decide)]
  | j + 1, n, B, hn, h => by
    have c : ¬ (64 : Int32) ≤ nI n := nI_ge (b := 64) (by omega) (by omega)
    have z1 : zin (nI n) 64 = true := zin_nI (by omega) (by omega)
    have c1 : (nI n).toNatClampNeg = n := nI_clamp (by omega)
    obtain ⟨B', e, f, w⟩ := L244 d j (n + 1) (zsI B 78 0 n 0) (by omega) (fun x hx => by
      rw [zgI_sI]
      by_cases z : x = n
      · rw [if_pos ⟨rfl, rfl, z⟩]
      · rw [if_neg (by omega)]
        exact h x (by omega))
    refine ⟨B', ?_, zFo_trans (zFo_sI (zFo_refl _ B) ⟨rfl, rfl⟩) f, w⟩
    rw [B244_2, if_neg c, if_pos z1, c1, nI_1]
    exact e
/-- 'forgetEnds' -/
theorem S244 (d : Nat) (u : zV) (o q : Nat → Nat) (B : zM) : ∃ B', zgo false d 244 0 [zr 13 0, u] [] B = some (none, B') ∧ zFo (fun a b _ => a = 78 ∧ b = 0) B B' ∧ mE B' o q 1 := by
  obtain ⟨B', e, f, w⟩ := L244 d 64 0 B rfl (fun x hx => by omega)
  refine ⟨B', ?_, f, fun s a s1 s2 => Or.inl (w _ (by unfold mA; have := bN_le a; omega))⟩
  rw [B244_0]
  exact e
