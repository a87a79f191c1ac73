/-! ===== odds: 'wholeBy' ===== -/
def mFp (x y dv a b c : Nat) : Prop := b = 0 ∧ (a = 80 ∨ a = 81 ∨ (a = 82 ∧ c = 121 * x + 11 * y + dv))
theorem S256s (d dv x y : Nat) (hd : 1 ≤ dv ∧ dv ≤ 10) (hx : 1 ≤ x ∧ x ≤ 10) (hy : 1 ≤ y ∧ y ≤ 10) (u4 u5 u6 u7 u8 u9 : zV) {o q : Nat → Nat} {B : zM} (hH : mH B o) (hR : mR B q) (hM : mO B (oO o q dv)) (hD : mD B o (oO o q dv)) : ∃ (B' : zM) (v4 v5 : zV), zgo false (d + 26) 256 27 [zr 13 0, zi (nI dv), zi (nI x), zi (nI y), u4, u5, u6, u7, u8, u9] [] B = zgo false (d + 26) 256 27 [zr 13 0, zi (nI dv), zi (nI x), zi (nI (y + 1)), v4, v5, u6, u7, u8, u9] [] B' ∧ zFo (mFp x y dv) B B' ∧ mD B' o (oO o q dv) ∧ zgL B' 82 0 (121 * x + 11 * y + dv) = yJ (oPw o q x y dv) := by
  have hO : ∀ k, 0 ≤ oO o q dv k := fun k => oO_nn dv k
  have hQ := oO_q (q := q) hH.2.2.1 dv
  have h8 := oO_8 (q := q) hH.2.2.1 dv
  have h8' := hO 8
  have c10 : ¬ (10 : Int32) < nI y := nI_nlt (a := 10) (by omega) (by omega)
  have lx1 : nI x = 1 ↔ x = 1 := nI_eq (b := 1) (by omega) (by omega)
  have lx10 : nI x = 10 ↔ x = 10 := nI_eq (b := 10) (by omega) (by omega)
  have ly1 : nI y = 1 ↔ y = 1 := nI_eq (b := 1) (by omega) (by omega)
  have ly10 : nI y = 10 ↔ y = 10 := nI_eq (b := 10) (by omega) (by omega)
  let a := oA (Nat.beq x 1) y
  have ha : a = true ↔ (x = 1 ∨ y = 1) := by
    show oA (Nat.beq x 1) y = true ↔ _
    unfold oA
    rw [Bool.or_eq_true_iff]
    exact ⟨fun z => z.imp Nat.eq_of_beq_eq_true Nat.eq_of_beq_eq_true, fun z => by
      rcases z with rfl | rfl
      · exact Or.inl rfl
      · exact Or.inr rfl⟩
  have k60 : zgo false (d + 26) 256 27 [zr 13 0, zi (nI dv), zi (nI x), zi (nI y), u4, u5, u6, u7, u8, u9] [] B = zgo false (d + 26) 256 60 [zr 13 0, zi (nI dv), zi (nI x), zi (nI y), u4, u5, u6, u7, u8, u9] [zi (if oNat x y then 1 else 0)] B := by
    have k44 : ¬ (x = 1 ∧ y = 10) → zgo false (d + 26) 256 44 [zr 13 0, zi (nI dv), zi (nI x), zi (nI y), u4, u5, u6, u7, u8, u9] [] B = zgo false (d + 26) 256 60 [zr 13 0, zi (nI dv), zi (nI x), zi (nI y), u4, u5, u6, u7, u8, u9] [zi (if oNat x y then 1 else 0)] B := by
      intro z
      rw [B256_44]
      by_cases h1 : x = 10
      · rw [if_pos (lx10.mpr h1)]
        by_cases h2 : y = 1
        · rw [if_pos (ly1.mpr h2), B256_55, if_pos (Or.inr ⟨h1, h2⟩)]
        · rw [if_neg (mt ly1.mp h2), B256_59, if_neg (by unfold oNat; omega)]
      · rw [if_neg (mt lx10.mp h1), B256_59, if_neg (by unfold oNat; omega)]
    rw [B256_27, if_neg c10]
    by_cases h1 : x = 1
    · rw [if_pos (lx1.mpr h1)]
      by_cases h2 : y = 10
      · rw [if_pos (ly10.mpr h2), B256_55, if_pos (Or.inl ⟨h1, h2⟩)]
      · rw [if_neg (mt ly10.mp h2), k44 (by omega)]
    · rw [if_neg (mt lx1.mp h1), k44 (by omega)]
  have k77 : ∀ n : Int32, zgo false (d + 26) 256 60 [zr 13 0, zi (nI dv), zi (nI x), zi (nI y), u4, u5, u6, u7, u8, u9] [zi n] B = zgo false (d + 26) 256 77 [zr 13 0, zi (nI dv), zi (nI x), zi (nI y), zi n, u5, u6, u7, u8, u9] [zi (bI a)] B := by
    intro n
    rw [B256_60]
    by_cases h1 : x = 1
    · have e : bI a = 1 := if_pos (ha.mpr (Or.inl h1))
      rw [if_pos (lx1.mpr h1), B256_72, e]
    · rw [if_neg (mt lx1.mp h1)]
      by_cases h2 : y = 1
      · have e : bI a = 1 := if_pos (ha.mpr (Or.inr h2))
        rw [if_pos (ly1.mpr h2), B256_72, e]
      · have e : bI a = 0 := if_neg (fun z => (ha.mp z).elim h1 h2)
        rw [if_neg (mt ly1.mp h2), e]
  have ei : 121 * nI x + 11 * nI y + nI dv = nI (121 * x + 11 * y + dv) := by
    rw [show (121 : Int32) = nI 121 from rfl, show (11 : Int32) = nI 11 from rfl, pk_mul, pk_mul, nI_add, nI_add]
  have zx : zin (nI (121 * x + 11 * y + dv)) 1331 = true := zin_nI (by omega) (by omega)
  have cx : (nI (121 * x + 11 * y + dv)).toNatClampNeg = 121 * x + 11 * y + dv := nI_clamp (by omega)
  have z89 : zin 8 9 = true := rfl
  have z14 : zin 1 4 = true := rfl
  have c1 : (1 : Int32).toNatClampNeg = 1 := rfl
  have c8 : (8 : Int32).toNatClampNeg = 8 := rfl
  have fin : ∀ (C : zM) (n m : Int32), zgo false (d + 26) 256 156 [zr 13 0, zi (nI dv), zi (nI x), zi (nI y), zi n, zi m, u6, u7, u8, u9] [zl (yJ (oPw o q x y dv)), zi (nI (121 * x + 11 * y + dv)), zr 82 0] C = zgo false (d + 26) 256 27 [zr 13 0, zi (nI dv), zi (nI x), zi (nI (y + 1)), zi n, zi m, u6, u7, u8, u9] [] (zsL C 82 0 (121 * x + 11 * y + dv) (yJ (oPw o q x y dv))) := by
    intro C n m
    rw [B256_156, if_pos zx, cx, nI_1]
  have mDs : ∀ (C : zM) (v : Int64) (O : Nat → Int), mD C o O → mD (zsL C 82 0 (121 * x + 11 * y + dv) v) o O := fun C v O h s' a' hs' => by
    have e : zgL (zsL C 82 0 (121 * x + 11 * y + dv) v) 80 0 (mA s' a') = zgL C 80 0 (mA s' a') := by rw [zgL_sL, if_neg (by omega)]
    rw [e]
    exact h s' a' hs'
  rw [k60, k77]
  by_cases c : oNat x y
  · refine ⟨zsL B 82 0 (121 * x + 11 * y + dv) (yJ (oPw o q x y dv)), zi 1, zi (bI a), ?_, zFo_sL (zFo_refl _ B) ⟨rfl, Or.inr (Or.inr ⟨rfl, rfl⟩)⟩, mDs _ _ _ hD, by rw [zgL_sL, if_pos ⟨rfl, rfl, rfl⟩]⟩
    have e79 : zgL B 79 0 8 = yJ (oO o q dv 8) := hM 8 (by omega)
    have e57 := hR.1 1 (by omega)
    have hq := hR.2.2.2.1
    have w1 : 0 ≤ (q 1 : Int) * (1000000 - oO o q dv 8) := Int.mul_nonneg (by omega) (by omega)
    have w2 : (q 1 : Int) * (1000000 - oO o q dv 8) ≤ 200 * 1000000 := Int.mul_le_mul (by omega) (by omega) (by omega) (by omega)
    have em : (q 1 : Int) * 10000 * (1000000 - oO o q dv 8) = 10000 * ((q 1 : Int) * (1000000 - oO o q dv 8)) := by
      rw [Int.mul_comm (q 1 : Int) 10000, Int.mul_assoc]
    have ev : ((nI (q 1)).toInt64 * 10000 * (1000000 - yJ (oO o q dv 8))) / 1000000 = yJ (oPw o q x y dv) := by
      rw [yI_nat, yIJ ⟨by omega, by omega⟩, show (10000 : Int64) = yJ 10000 from rfl, show (1000000 : Int64) = yJ 1000000 from rfl, yJ_mul, yJ_sub, yJ_mul, em, yJ_div ⟨by omega, by omega⟩ ⟨by decide, by decide⟩ (by decide)]
      unfold oPw
      rw [if_pos c, show (1000000 : Int) = 10000 * 100 from rfl, Int.mul_tdiv_mul_of_pos _ _ (by decide)]
    rw [if_pos c, B256_77, if_neg (by decide), if_pos z14, if_pos z89, if_neg (by decide), c1, c8, e57, e79, ev, ei]
    exact fin B 1 (bI a)
  · have hs : 1 ≤ x + y ∧ x + y ≤ 21 := by omega
    obtain ⟨B1, e1, f1, m1⟩ := S250 d (x + y) a true hs zu zu zu hO hQ hH hR hM hD
    have hH1 : mH B1 o := mH_fr hH f1 (fun v r => by unfold mFd at r; omega)
    have hM1 : mO B1 (oO o q dv) := mO_fr hM f1 (fun v r => by unfold mFd at r; omega)
    obtain ⟨B2, e2, f2, m2⟩ := S249 (d + 1) (x + y) (oBst o (oO o q dv) (x + y) a (Nat.beq (q 2) 1)) a hs (oBst_le _ _ _ _ _) hO hQ hH1 hM1 m1
    have hM2 : mO B2 (oO o q dv) := mO_fr hM1 f2 (fun v r => by unfold mFd at r; omega)
    have e79 : zgL B2 79 0 8 = yJ (oO o q dv 8) := hM2 8 (by omega)
    have e1 : zgo false (d + 25) 250 0 [zr 13 0, zi (nI (x + y)), zi (bI a), zi 1, zu, zu, zu] [] B = some (some (zi (nI (oBst o (oO o q dv) (x + y) a (Nat.beq (q 2) 1)))), B1) := e1
    have e2 : zgo false (d + 25) 249 0 [zr 13 0, zi (nI (x + y)), zi (bI a), zi (nI (oBst o (oO o q dv) (x + y) a (Nat.beq (q 2) 1)))] [] B1 = some (some (zl (yJ (oBw o q dv (x + y) a))), B2) := e2
    have ep : oPw o q x y dv = oBw o q dv (x + y) a - oO o q dv 8 := if_neg c
    refine ⟨zsL B2 82 0 (121 * x + 11 * y + dv) (yJ (oPw o q x y dv)), zi 0, zi (bI a), ?_, zFo_sL (zFo_trans (zFo_mono f1 (fun a b c z => ⟨z.1, by have := z.2; omega⟩)) (zFo_mono f2 (fun a b c z => ⟨z.1, by have := z.2; omega⟩))) ⟨rfl, Or.inr (Or.inr ⟨rfl, rfl⟩)⟩, mDs _ _ _ m2, by rw [zgL_sL, if_pos ⟨rfl, rfl, rfl⟩]⟩
    rw [if_neg c, B256_77, if_pos rfl, nI_add, e1, zbsome, ei]
    show zgo false (d + 26) 256 145 [zr 13 0, zi (nI dv), zi (nI x), zi (nI y), zi 0, zi (bI a), u6, u7, u8, u9] [zi (nI (oBst o (oO o q dv) (x + y) a (Nat.beq (q 2) 1))), zi (bI a), zi (nI (x + y)), zr 13 0, zi (nI (121 * x + 11 * y + dv)), zr 82 0] B1 = _
    rw [B256_145, e2, zbsome]
    show zgo false (d + 26) 256 148 [zr 13 0, zi (nI dv), zi (nI x), zi (nI y), zi 0, zi (bI a), u6, u7, u8, u9] [zl (yJ (oBw o q dv (x + y) a)), zi (nI (121 * x + 11 * y + dv)), zr 82 0] B2 = _
    rw [B256_148, if_pos z89, c8, e79, yJ_sub, ← ep]
    exact fin B2 0 (bI a)
