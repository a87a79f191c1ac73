/-! ===== odds: 'wholeBy', its sums ===== -/
theorem mN_div {B : zM} {o : Nat → Nat} (hH : mH B o) {x : Int} (hx : -2000000000 ≤ x ∧ x ≤ 2000000000) : ¬ (zgI B 76 0 (0 : Int32).toNatClampNeg).toInt64 = 0 ∧ yJ x / (zgI B 76 0 (0 : Int32).toNatClampNeg).toInt64 = yJ (x.tdiv (ysm o)) := by
  have bb : yB (ysm o : Nat) := ⟨by omega, by have := hH.2.2.2; omega⟩
  have w : yW (ysm o : Nat) := ⟨by omega, by have := hH.2.2.2; omega⟩
  have e0 : zgI B 76 0 (0 : Int32).toNatClampNeg = nI (ysm o) := hH.2.1
  rw [e0, yI_nat, yIJ bb]
  exact ⟨yJ_ne0 w (by have := hH.2.2.1; omega), yJ_div ⟨by omega, by omega⟩ w (by have := hH.2.2.1; omega)⟩
theorem L256dd (d x y : Nat) (hx : 1 ≤ x ∧ x ≤ 10) (hy : 1 ≤ y ∧ y ≤ 10) (X1 X4 : Int) (u2 u5 : zV) {o q : Nat → Nat} {B : zM} (hH : mH B o) (hR : mR B q) (hT : mT B o q (fun _ _ _ => True)) : ∀ (j n : Nat) (u8 : zV), n + j = 10 → ∃ v5 v7 v8 v9 : zV, zgo false d 256 204 [zr 13 0, zl (yJ X1), u2, zi (nI x), zl (yJ X4), u5, zi (nI y), zl (yJ (oSm o (fun dv => oPw o q x y dv) n)), u8, zi (nI (n + 1))] [] B = zgo false d 256 191 [zr 13 0, zl (yJ X1), u2, zi (nI x), zl (yJ (X4 + (o y : Int) * oAv o (fun dv => oPw o q x y dv))), v5, zi (nI (y + 1)), v7, v8, v9] [] B
  | 0, n, u8, hn => by
    have hn : n = 10 := hn
    subst hn
    have b := oSm_b (o := o) (n := 10) (m := 3000000) (f := fun dv => oPw o q x y dv) (by decide) hH.2.2.2 (Nat.le_refl _) (fun v _ _ => oPw_b hH.2.2.1 hR.2.2.2.1 x y v)
    have dv := mN_div hH (x := oSm o (fun dv => oPw o q x y dv) 10) ⟨by omega, by omega⟩
    have zy : zin (nI y) 11 = true := zin_nI (by omega) (by omega)
    have cy : (nI y).toNatClampNeg = y := nI_clamp (by omega)
    have z0 : zin 0 11 = true := rfl
    have e76 := hH.1 y hy.1 hy.2
    have ob : o y ≤ 416 := by
      have := oLe hH.2.2.2 (show y - 1 < 10 by omega)
      rw [show y - 1 + 1 = y by omega] at this
      exact this
    refine ⟨zkl zu, zl (yJ (oSm o (fun dv => oPw o q x y dv) 10)), u8, zi 11, ?_⟩
    rw [B256_204, if_pos (by decide), if_pos zy, if_pos z0, if_neg dv.1, dv.2, cy, e76, yI_nat (o y), yIJ ⟨by omega, by omega⟩, yJ_mul, yJ_add, B256_273, nI_1]
    rfl
  | j + 1, n, u8, hn => by
    obtain ⟨v5, v7, v8, v9, ih⟩ := L256dd d x y hx hy X1 X4 u2 u5 hH hR hT j (n + 1) (zkl zu) (by omega)
    have c : ¬ (10 : Int32) < nI (n + 1) := nI_nlt (a := 10) (by omega) (by omega)
    have z11 : zin (nI (n + 1)) 11 = true := zin_nI (by omega) (by omega)
    have c11 : (nI (n + 1)).toNatClampNeg = n + 1 := nI_clamp (by omega)
    have ob := oLe hH.2.2.2 (show n < 10 by omega)
    have e76 := hH.1 (n + 1) (by omega) (by omega)
    have ei : 121 * nI x + 11 * nI y + nI (n + 1) = nI (121 * x + 11 * y + (n + 1)) := by
      rw [show (121 : Int32) = nI 121 from rfl, show (11 : Int32) = nI 11 from rfl, pk_mul, pk_mul, nI_add, nI_add]
    have zx : zin (nI (121 * x + 11 * y + (n + 1))) 1331 = true := zin_nI (by omega) (by omega)
    have cx : (nI (121 * x + 11 * y + (n + 1))).toNatClampNeg = 121 * x + 11 * y + (n + 1) := nI_clamp (by omega)
    have e82 := hT x y (n + 1) hx.1 hx.2 hy.1 hy.2 (by omega) (by omega) trivial
    refine ⟨v5, v7, v8, v9, ?_⟩
    rw [B256_204, if_neg c, if_pos z11, ei, if_pos zx, c11, cx, e76, e82, yI_nat (o (n + 1)), yIJ ⟨by omega, by omega⟩, yJ_mul, yJ_add, B256_243, nI_1]
    exact ih
theorem L256yy (d x : Nat) (hx : 1 ≤ x ∧ x ≤ 10) (X1 : Int) (u2 : zV) {o q : Nat → Nat} {B : zM} (hH : mH B o) (hR : mR B q) (hT : mT B o q (fun _ _ _ => True)) : ∀ (j n : Nat) (u5 u7 u8 u9 : zV), n + j = 10 → ∃ v2 v4 v5 v6 v7 v8 v9 : zV, zgo false d 256 191 [zr 13 0, zl (yJ X1), u2, zi (nI x), zl (yJ (oSm o (fun y => oAv o (fun dv => oPw o q x y dv)) n)), u5, zi (nI (n + 1)), u7, u8, u9] [] B = zgo false d 256 179 [zr 13 0, zl (yJ (X1 + (o x : Int) * oAv o (fun y => oAv o (fun dv => oPw o q x y dv)))), v2, zi (nI (x + 1)), v4, v5, v6, v7, v8, v9] [] B
  | 0, n, u5, u7, u8, u9, hn => by
    have hn : n = 10 := hn
    subst hn
    have b := oSm_b (o := o) (n := 10) (m := 3000000) (f := fun y => oAv o (fun dv => oPw o q x y dv)) (by decide) hH.2.2.2 (Nat.le_refl _) (fun v _ _ => oW2_b hH.2.2.1 hR.2.2.2.1 x v)
    have dv := mN_div hH (x := oSm o (fun y => oAv o (fun dv => oPw o q x y dv)) 10) ⟨by omega, by omega⟩
    have zy : zin (nI x) 11 = true := zin_nI (by omega) (by omega)
    have cy : (nI x).toNatClampNeg = x := nI_clamp (by omega)
    have z0 : zin 0 11 = true := rfl
    have e76 := hH.1 x hx.1 hx.2
    have ob : o x ≤ 416 := by
      have := oLe hH.2.2.2 (show x - 1 < 10 by omega)
      rw [show x - 1 + 1 = x by omega] at this
      exact this
    refine ⟨zkl zu, zl (yJ (oSm o (fun y => oAv o (fun dv => oPw o q x y dv)) 10)), u5, zi 11, u7, u8, u9, ?_⟩
    rw [B256_191, if_pos (by decide), if_pos zy, if_pos z0, if_neg dv.1, dv.2, cy, e76, yI_nat (o x), yIJ ⟨by omega, by omega⟩, yJ_mul, yJ_add, B256_300, nI_1]
    rfl
  | j + 1, n, u5, u7, u8, u9, hn => by
    have c : ¬ (10 : Int32) < nI (n + 1) := nI_nlt (a := 10) (by omega) (by omega)
    obtain ⟨v5, v7, v8, v9, e⟩ := L256dd d x (n + 1) hx ⟨by omega, by omega⟩ X1 (oSm o (fun y => oAv o (fun dv => oPw o q x y dv)) n) u2 u5 hH hR hT 10 0 zu rfl
    obtain ⟨w2, w4, w5, w6, w7, w8, w9, ih⟩ := L256yy d x hx X1 u2 hH hR hT j (n + 1) v5 v7 v8 v9 (by omega)
    refine ⟨w2, w4, w5, w6, w7, w8, w9, ?_⟩
    rw [B256_191, if_neg c]
    exact e.trans ih
theorem L256xx (d : Nat) {o q : Nat → Nat} {B : zM} (hH : mH B o) (hR : mR B q) (hT : mT B o q (fun _ _ _ => True)) : ∀ (j n : Nat) (u2 u4 u5 u6 u7 u8 u9 : zV), n + j = 10 → zgo false d 256 179 [zr 13 0, zl (yJ (oSm o (fun x => oAv o (fun y => oAv o (fun dv => oPw o q x y dv))) n)), u2, zi (nI (n + 1)), u4, u5, u6, u7, u8, u9] [] B = some (some (zl (yJ (oWh o q))), B)
  | 0, n, u2, u4, u5, u6, u7, u8, u9, hn => by
    have hn : n = 10 := hn
    subst hn
    have b := oSm_b (o := o) (n := 10) (m := 3000000) (f := fun x => oAv o (fun y => oAv o (fun dv => oPw o q x y dv))) (by decide) hH.2.2.2 (Nat.le_refl _) (fun v _ _ => oW1_b hH.2.2.1 hR.2.2.2.1 v)
    have dv := mN_div hH (x := oSm o (fun x => oAv o (fun y => oAv o (fun dv => oPw o q x y dv))) 10) ⟨by omega, by omega⟩
    have z0 : zin 0 11 = true := rfl
    rw [B256_179, if_pos (by decide), if_pos z0, if_neg dv.1, dv.2]
    rfl
  | j + 1, n, u2, u4, u5, u6, u7, u8, u9, hn => by
    have c : ¬ (10 : Int32) < nI (n + 1) := nI_nlt (a := 10) (by omega) (by omega)
    obtain ⟨w2, w4, w5, w6, w7, w8, w9, e⟩ := L256yy d (n + 1) ⟨by omega, by omega⟩ (oSm o (fun x => oAv o (fun y => oAv o (fun dv => oPw o q x y dv))) n) u2 hH hR hT 10 0 zu u7 u8 u9 rfl
    rw [B256_179, if_neg c]
    exact e.trans (L256xx d hH hR hT j (n + 1) w2 w4 w5 w6 w7 w8 w9 (by omega))
/-- 'wholeBy' -/
theorem S256 (d : Nat) (u1 u2 u3 u4 u5 u6 u7 u8 u9 : zV) {o q : Nat → Nat} {B : zM} (hH : mH B o) (hR : mR B q) : ∃ B', zgo false (d + 26) 256 0 [zr 13 0, u1, u2, u3, u4, u5, u6, u7, u8, u9] [] B = some (some (zl (yJ (oWh o q))), B') ∧ zFo mFw B B' := by
  obtain ⟨B1, e1, f1, m1⟩ := S244 (d + 25) zu o q B
  have hH1 : mH B1 o := mH_fr hH f1 (fun v z => by cases z.1)
  have hR1 : mR B1 q := mR_fr hR f1 (fun v z => by cases z.1)
  obtain ⟨B2, v4, v5, e2, f2, t2⟩ := L256d d u6 u7 u8 u9 10 0 B1 u2 u3 u4 u5 rfl hH1 hR1 m1 (fun x y dv a1 a2 a3 a4 a5 a6 a7 => by omega)
  have hH2 : mH B2 o := mH_fr hH1 f2 (fun v z => by unfold mFw at z; omega)
  have hR2 : mR B2 q := mR_fr hR1 f2 (fun v z => by unfold mFw at z; omega)
  refine ⟨B2, ?_, zFo_trans (zFo_mono f1 (fun a b c z => by unfold mFw; omega)) f2⟩
  rw [B256_0, e1, zbsome, zpu0, B256_4]
  exact e2.trans (L256xx (d + 26) hH2 hR2 t2 10 0 zu v4 v5 u6 u7 u8 u9 rfl)
