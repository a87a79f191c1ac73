/-! ===== odds: the model against an open value ===== -/
def oG (o q : Nat → Nat) (dv k v : Nat) : Int := if k = 8 then (if oNat dv v then 1000000 else 0) else (if oNat dv v then 0 else oEe o q k (dv + v) (oA (Nat.beq dv 1) v))
theorem oO_G (o q : Nat → Nat) (dv k : Nat) : oO o q dv k = oAv o (oG o q dv k) := by
  unfold oO
  by_cases c : k = 8
  · rw [if_pos c]
    refine oAv_congr (fun v _ _ => ?_)
    unfold oG
    rw [if_pos c]
  · rw [if_neg c]
    refine oAv_congr (fun v _ _ => ?_)
    unfold oG
    rw [if_neg c]
theorem oG_b {o q : Nat → Nat} (hN : 0 < ysm o) (dv k v : Nat) (hk : k ≤ 8) : -1000000 ≤ oG o q dv k v ∧ oG o q dv k v ≤ 1000000 := by
  unfold oG
  by_cases c : k = 8
  · rw [if_pos c]
    by_cases z : oNat dv v
    · rw [if_pos z]; decide
    · rw [if_neg z]; decide
  · rw [if_neg c]
    by_cases z : oNat dv v
    · rw [if_pos z]; decide
    · rw [if_neg z]; exact oE_1 hN (by omega) _ _
theorem L245a (d dv k : Nat) (hd : 1 ≤ dv ∧ dv ≤ 10) (hk : k ≤ 8) {o q : Nat → Nat} : ∀ (j n : Nat) (B : zM) (u4 u6 : zV), n + j = 10 → mH B o → mR B q → mE B o q 1 → ∃ (B' : zM) (v3 v4 v5 v6 : zV), zgo false (d + 24) 245 13 [zr 13 0, zi (nI dv), zi (nI k), zl (yJ (oSm o (oG o q dv k) n)), u4, zi (nI (n + 1)), u6] [] B = zgo false (d + 24) 245 2 [zr 13 0, zi (nI dv), zi (nI (k + 1)), v3, v4, v5, v6] [] (zsL B' 79 0 k (yJ (oO o q dv k))) ∧ zFo (mFe 1) B B' ∧ mE B' o q 1
  | 0, n, B, u4, u6, hn, hH, hR, hE => by
    have hn : n = 10 := hn
    subst hn
    have b := oSm_b (o := o) (n := 10) (m := 1000000) (f := oG o q dv k) (by decide) hH.2.2.2 (Nat.le_refl _) (fun v _ _ => oG_b hH.2.2.1 dv k v hk)
    have bb : yB (ysm o : Nat) := ⟨by omega, by have := hH.2.2.2; omega⟩
    have w : yW (ysm o : Nat) := ⟨by omega, by have := hH.2.2.2; omega⟩
    have e0 : zgI B 76 0 (0 : Int32).toNatClampNeg = nI (ysm o) := hH.2.1
    have z1 : zin (nI k) 9 = true := zin_nI (by omega) (by omega)
    have c1 : (nI k).toNatClampNeg = k := nI_clamp (by omega)
    refine ⟨B, zl (yJ (oSm o (oG o q dv k) 10)), u4, zi 11, u6, ?_, zFo_refl _ B, hE⟩
    rw [B245_13, if_pos (by decide), if_pos (by decide), e0, yI_nat, yIJ bb, if_neg (yJ_ne0 w (by have := hH.2.2.1; omega)), if_pos z1, c1, B245_193, nI_1, yJ_div ⟨by omega, by omega⟩ w (by have := hH.2.2.1; omega), oO_G]
    rfl
  | j + 1, n, B, u4, u6, hn, hH, hR, hE => by
    have c : ¬ (10 : Int32) < nI (n + 1) := nI_nlt (a := 10) (by omega) (by omega)
    have z11 : zin (nI (n + 1)) 11 = true := zin_nI (by omega) (by omega)
    have c11 : (nI (n + 1)).toNatClampNeg = n + 1 := nI_clamp (by omega)
    have ob := oLe hH.2.2.2 (show n < 10 by omega)
    have e76 := hH.1 (n + 1) (by omega) (by omega)
    have ld1 : nI dv = 1 ↔ dv = 1 := nI_eq (b := 1) (by omega) (by omega)
    have ld10 : nI dv = 10 ↔ dv = 10 := nI_eq (b := 10) (by omega) (by omega)
    have lv1 : nI (n + 1) = 1 ↔ n + 1 = 1 := nI_eq (b := 1) (by omega) (by omega)
    have lv10 : nI (n + 1) = 10 ↔ n + 1 = 10 := nI_eq (b := 10) (by omega) (by omega)
    have lk8 : nI k = 8 ↔ k = 8 := nI_eq (b := 8) (by omega) (by omega)
    have lk8' : (8 : Int32) ≤ nI k ↔ 8 ≤ k := nI_leI (a := 8) (by omega) (by omega)
    have l0 : nI (o (n + 1)) = 0 ↔ o (n + 1) = 0 := nI_eq (b := 0) (by omega) (by omega)
    by_cases zo : o (n + 1) = 0
    · obtain ⟨B', v3, v4, v5, v6, ih, r⟩ := L245a d dv k hd hk j (n + 1) B (zkl u4) u6 (by omega) hH hR hE
      have e : oSm o (oG o q dv k) (n + 1) = oSm o (oG o q dv k) n := by
        show _ + ((o (n + 1) : Nat) : Int) * _ = _
        rw [zo]
        simp
      rw [e] at ih
      refine ⟨B', v3, v4, v5, v6, ?_, r⟩
      rw [B245_13, if_neg c, if_pos z11, c11, e76, if_pos (l0.mpr zo), B245_172, nI_1]
      exact ih
    · have k62 : zgo false (d + 24) 245 13 [zr 13 0, zi (nI dv), zi (nI k), zl (yJ (oSm o (oG o q dv k) n)), u4, zi (nI (n + 1)), u6] [] B = zgo false (d + 24) 245 62 [zr 13 0, zi (nI dv), zi (nI k), zl (yJ (oSm o (oG o q dv k) n)), u4, zi (nI (n + 1)), u6] [zi (if oNat dv (n + 1) then 1 else 0)] B := by
        rw [B245_13, if_neg c, if_pos z11, c11, e76, if_neg (mt l0.mp zo)]
        have k45 : ¬ (dv = 1 ∧ n + 1 = 10) → zgo false (d + 24) 245 45 [zr 13 0, zi (nI dv), zi (nI k), zl (yJ (oSm o (oG o q dv k) n)), u4, zi (nI (n + 1)), u6] [] B = zgo false (d + 24) 245 62 [zr 13 0, zi (nI dv), zi (nI k), zl (yJ (oSm o (oG o q dv k) n)), u4, zi (nI (n + 1)), u6] [zi (if oNat dv (n + 1) then 1 else 0)] B := by
          intro y
          rw [B245_45]
          by_cases h1 : dv = 10
          · rw [if_pos (ld10.mpr h1)]
            by_cases h2 : n + 1 = 1
            · rw [if_pos (lv1.mpr h2), B245_57, if_pos (Or.inr ⟨h1, h2⟩)]
            · rw [if_neg (mt lv1.mp h2), B245_61, if_neg (by unfold oNat; omega)]
          · rw [if_neg (mt ld10.mp h1), B245_61, if_neg (by unfold oNat; omega)]
        by_cases h1 : dv = 1
        · rw [if_pos (ld1.mpr h1)]
          by_cases h2 : n + 1 = 10
          · rw [if_pos (lv10.mpr h2), B245_57, if_pos (Or.inl ⟨h1, h2⟩)]
          · rw [if_neg (mt lv10.mp h2), k45 (by omega)]
        · rw [if_neg (mt ld1.mp h1), k45 (by omega)]
      have es : oSm o (oG o q dv k) (n + 1) = oSm o (oG o q dv k) n + (o (n + 1) : Int) * oG o q dv k (n + 1) := rfl
      by_cases zn : oNat dv (n + 1)
      · obtain ⟨B', v3, v4, v5, v6, ih, r⟩ := L245a d dv k hd hk j (n + 1) B (zkl zu) (zi 1) (by omega) hH hR hE
        rw [es] at ih
        refine ⟨B', v3, v4, v5, v6, ?_, r⟩
        rw [k62, if_pos zn, B245_62, if_neg (by decide)]
        by_cases k8 : k = 8
        · have eg : oG o q dv k (n + 1) = 1000000 := by
            unfold oG
            rw [if_pos k8, if_pos zn]
          rw [eg] at ih
          rw [if_pos (lk8.mpr k8), if_pos z11, c11, e76, yI_nat (o (n + 1)), yIJ ⟨by omega, by omega⟩, show (1000000 : Int64) = yJ 1000000 from rfl, yJ_mul, B245_92, yJ_add, B245_172, nI_1]
          exact ih
        · have eg : oG o q dv k (n + 1) = 0 := by
            unfold oG
            rw [if_neg k8, if_pos zn]
          rw [eg, Int.mul_zero] at ih
          rw [if_neg (mt lk8.mp k8), B245_92, show (0 : Int64) = yJ 0 from rfl, yJ_add, B245_172, nI_1]
          exact ih
      · by_cases k8 : k = 8
        · obtain ⟨B', v3, v4, v5, v6, ih, r⟩ := L245a d dv k hd hk j (n + 1) B (zkl u4) (zi 0) (by omega) hH hR hE
          have eg : oG o q dv k (n + 1) = 0 := by
            unfold oG
            rw [if_pos k8, if_neg zn]
          rw [es, eg, Int.mul_zero, Int.add_zero] at ih
          refine ⟨B', v3, v4, v5, v6, ?_, r⟩
          rw [k62, if_neg zn, B245_62, if_pos rfl, if_pos (lk8'.mpr (by omega)), B245_172, nI_1]
          exact ih
        · have eg : oG o q dv k (n + 1) = oEe o q k (dv + (n + 1)) (oA (Nat.beq dv 1) (n + 1)) := by
            unfold oG
            rw [if_neg k8, if_neg zn]
          obtain ⟨B1, e1, f1, m1, o1, -⟩ := S243 (o := o) (q := q) 21 d (dv + (n + 1)) (oA (Nat.beq dv 1) (n + 1)) zu zu zu zu zu B (by omega) (by omega) hH hR (fun s' a' s1 s2 => hE s' a' (by omega) s2)
          have hH1 : mH B1 o := mH_fr hH f1 (fun v r => by unfold mFe at r; omega)
          have hE1 : mE B1 o q 1 := mE_up hE (by omega) f1 m1
          obtain ⟨B', v3, v4, v5, v6, ih, g, r⟩ := L245a d dv k hd hk j (n + 1) B1 (zkl zu) (zi 0) (by omega) hH1 (mR_fr hR f1 (fun v r => by unfold mFe at r; omega)) hE1
          rw [es, eg] at ih
          refine ⟨B', v3, v4, v5, v6, ?_, zFo_trans (mFe_mono f1 (by omega)) g, r⟩
          have ev : zgL B1 77 0 (8 * mA (dv + (n + 1)) (oA (Nat.beq dv 1) (n + 1)) + k) = yJ (oEe o q k (dv + (n + 1)) (oA (Nat.beq dv 1) (n + 1))) := by
            rcases m1 _ (oA (Nat.beq dv 1) (n + 1)) (Nat.le_refl _) (by omega) with y | ⟨y, w⟩
            · rw [o1] at y
              exact absurd y (by decide)
            · exact w k (by omega)
          have hm : mA (dv + (n + 1)) (oA (Nat.beq dv 1) (n + 1)) ≤ 63 := by
            unfold mA
            have := bN_le (oA (Nat.beq dv 1) (n + 1))
            omega
          have e761 := hH1.1 (n + 1) (by omega) (by omega)
          have ex : 2 * (nI dv + nI (n + 1)) = nI (2 * (dv + (n + 1))) := by rw [nI_add, show (2 : Int32) = nI 2 from rfl, pk_mul]
          have e164 : ∀ x : Int32, x = nI (bN (oA (Nat.beq dv 1) (n + 1))) → zgo false (d + 24) 245 164 [zr 13 0, zi (nI dv), zi (nI k), zl (yJ (oSm o (oG o q dv k) n)), u4, zi (nI (n + 1)), zi 0] [zi x, zi (nI (2 * (dv + (n + 1)))), zi 8, zr 77 0, zl (yJ (o (n + 1))), zl (yJ (oSm o (oG o q dv k) n))] B1 = zgo false (d + 24) 245 2 [zr 13 0, zi (nI dv), zi (nI (k + 1)), v3, v4, v5, v6] [] (zsL B' 79 0 k (yJ (oO o q dv k))) := by
            intro x hx
            have i1 : 8 * (nI (2 * (dv + (n + 1))) + x) + nI k = nI (8 * mA (dv + (n + 1)) (oA (Nat.beq dv 1) (n + 1)) + k) := by
              rw [hx, nI_add, show (8 : Int32) = nI 8 from rfl, pk_mul, nI_add]
              rfl
            have z1 : zin (nI (8 * mA (dv + (n + 1)) (oA (Nat.beq dv 1) (n + 1)) + k)) 512 = true := zin_nI (by omega) (by omega)
            have c1 : (nI (8 * mA (dv + (n + 1)) (oA (Nat.beq dv 1) (n + 1)) + k)).toNatClampNeg = 8 * mA (dv + (n + 1)) (oA (Nat.beq dv 1) (n + 1)) + k := nI_clamp (by omega)
            rw [B245_164, i1, if_pos z1, c1, ev, yJ_mul, yJ_add, B245_172, nI_1]
            exact ih
          have e127 : zgo false (d + 24) 245 127 [zr 13 0, zi (nI dv), zi (nI k), zl (yJ (oSm o (oG o q dv k) n)), u4, zi (nI (n + 1)), zi 0] [] B1 = zgo false (d + 24) 245 2 [zr 13 0, zi (nI dv), zi (nI (k + 1)), v3, v4, v5, v6] [] (zsL B' 79 0 k (yJ (oO o q dv k))) := by
            rw [B245_127, if_pos z11, c11, e761, yI_nat (o (n + 1)), yIJ ⟨by omega, by omega⟩, ex]
            by_cases h1 : dv = 1
            · have hb : nI (bN (oA (Nat.beq dv 1) (n + 1))) = 1 := by rw [h1]; rfl
              rw [if_pos (ld1.mpr h1), B245_159]
              exact e164 1 hb.symm
            · rw [if_neg (mt ld1.mp h1)]
              have hb0 : Nat.beq dv 1 = false := by
                cases hb : Nat.beq dv 1 with
                | false => rfl
                | true => exact absurd (Nat.eq_of_beq_eq_true hb) h1
              by_cases h2 : n + 1 = 1
              · have hb : nI (bN (oA (Nat.beq dv 1) (n + 1))) = 1 := by rw [h2, hb0]; rfl
                rw [if_pos (lv1.mpr h2), B245_159]
                exact e164 1 hb.symm
              · have hb : nI (bN (oA (Nat.beq dv 1) (n + 1))) = 0 := by
                  rw [bI_or _ _ ⟨by omega, by omega⟩, hb0, if_neg (fun z => by cases z), if_neg h2]
                  rfl
                rw [if_neg (mt lv1.mp h2)]
                exact e164 0 hb.symm
          have e124 : ∀ x : Int32, x = bI (oA (Nat.beq dv 1) (n + 1)) → zgo false (d + 24) 245 124 [zr 13 0, zi (nI dv), zi (nI k), zl (yJ (oSm o (oG o q dv k) n)), u4, zi (nI (n + 1)), zi 0] [zi x, zi (nI (dv + (n + 1))), zr 13 0] B = zgo false (d + 24) 245 2 [zr 13 0, zi (nI dv), zi (nI (k + 1)), v3, v4, v5, v6] [] (zsL B' 79 0 k (yJ (oO o q dv k))) := by
            intro x hx
            rw [hx, B245_124, e1, zbsome, zpu0]
            exact e127
          rw [k62, if_neg zn, B245_62, if_pos rfl, if_neg (mt lk8'.mp (by omega)), nI_add]
          by_cases h1 : dv = 1
          · have hb : bI (oA (Nat.beq dv 1) (n + 1)) = 1 := by rw [h1]; rfl
            rw [if_pos (ld1.mpr h1), B245_119]
            exact e124 1 hb.symm
          · rw [if_neg (mt ld1.mp h1)]
            have hb0 : Nat.beq dv 1 = false := by
              cases hb : Nat.beq dv 1 with
              | false => rfl
              | true => exact absurd (Nat.eq_of_beq_eq_true hb) h1
            by_cases h2 : n + 1 = 1
            · have hb : bI (oA (Nat.beq dv 1) (n + 1)) = 1 := by rw [h2, hb0]; rfl
              rw [if_pos (lv1.mpr h2), B245_119]
              exact e124 1 hb.symm
            · have hb : bI (oA (Nat.beq dv 1) (n + 1)) = 0 := by
                rw [bI_n, bI_or _ _ ⟨by omega, by omega⟩, hb0, if_neg (fun z => by cases z), if_neg h2]
                rfl
              rw [if_neg (mt lv1.mp h2)]
              exact e124 0 hb.symm
