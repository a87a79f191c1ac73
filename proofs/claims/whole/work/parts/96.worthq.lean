/-! ===== 'worth', of both ===== -/
theorem S252 (d : Nat) (x : Int32) (M : zM) : ((4 ≤ x ∧ x ≤ 21) ∨ (1012 ≤ x ∧ x ≤ 1021) → zgo false (d + 1) 252 0 [zi x] [] M = some (some (zi 1), M)) ∧ (¬ ((4 ≤ x ∧ x ≤ 21) ∨ (1012 ≤ x ∧ x ≤ 1021)) → zgo false (d + 1) 252 0 [zi x] [] M = some (some (zi 0), M)) := by
  have k23 : zgo false (d + 1) 252 23 [zi x] [] M = some (some (zi 1), M) := by
    rw [B252_23, B252_28]
    rfl
  have k28 : zgo false (d + 1) 252 28 [zi x] [zi 0] M = some (some (zi 0), M) := by
    rw [B252_28]
    rfl
  constructor
  · intro h
    by_cases c : 4 ≤ x ∧ x ≤ 21
    · simp +decide only [B252_0, B252_7, S_in, c, k23, zbsome, zpu1, zpu0, cond_true, cond_false, zib0, zib1, zib_ite, zq00, zq20, zq22, zq90, zq99, zq40, zq44, zq100, zq1010, Bool.and_true, if_true, if_false, z1ne0, not_true_eq_false, not_false_eq_true, zite10, eq_self, and_true, true_and, and_false, false_and, ↓reduceIte, Int32.reduceLT, Int32.reduceLE, Int32.reduceAdd, Int32.reduceSub, Int32.reduceMul]
    · have c2 : 1012 ≤ x ∧ x ≤ 1021 := h.resolve_left c
      simp +decide only [B252_0, B252_7, B252_20, S_in, c, c2, k23, zbsome, zpu1, zpu0, cond_true, cond_false, zib0, zib1, zib_ite, zq00, zq20, zq22, zq90, zq99, zq40, zq44, zq100, zq1010, Bool.and_true, if_true, if_false, z1ne0, not_true_eq_false, not_false_eq_true, zite10, eq_self, and_true, true_and, and_false, false_and, ↓reduceIte, Int32.reduceLT, Int32.reduceLE, Int32.reduceAdd, Int32.reduceSub, Int32.reduceMul]
  · intro h
    have c : ¬ (4 ≤ x ∧ x ≤ 21) := fun z => h (Or.inl z)
    have c2 : ¬ (1012 ≤ x ∧ x ≤ 1021) := fun z => h (Or.inr z)
    simp +decide only [B252_0, B252_7, B252_20, S_in, c, c2, k28, zbsome, zpu1, zpu0, cond_true, cond_false, zib0, zib1, zib_ite, zq00, zq20, zq22, zq90, zq99, zq40, zq44, zq100, zq1010, Bool.and_true, if_true, if_false, z1ne0, not_true_eq_false, not_false_eq_true, zite10, eq_self, and_true, true_and, and_false, false_and, ↓reduceIte, Int32.reduceLT, Int32.reduceLE, Int32.reduceAdd, Int32.reduceSub, Int32.reduceMul]
theorem Q14 (d : Nat) (x0 x1 x2 : Int32) (M : zM) (hS : yShoe 0 M M) (hR : Rrul M) (hA : RafJ M) : ∃ (y : Int32) (M1 M2 : zM), zgo false (d + 28) 144 0 [zr 12 0, zi x0, zi x1, zi x2] [] M = some (some (zi y), M1) ∧ zgo false (d + 28) 254 0 [zr 13 0, zi x0, zi x1, zi x2] [] M1 = some (some (zi y), M2) ∧ zFr (zo 12) M M2 := by
  by_cases ok : oLi x0 x1 ∧ 0 ≤ x2 ∧ x2 ≤ 3
  case neg =>
    refine ⟨-2000000000, M, M, ?_, ?_, zFr_refl _ M⟩
    · have k := B144_24 (d + 28) x0 x1 x2 M
      by_cases c1 : oLi x0 x1
      · rw [B144_0, (S179 _ _ _ _ _ _ _).1 c1, zbsome, zpu1, B144_5, if_neg (by decide)]
        by_cases c2 : x2 < 0
        · rw [if_pos c2, k]
        · have c3 : 3 < x2 := by grind
          rw [if_neg c2, if_pos c3, k]
      · rw [B144_0, (S179 _ _ _ _ _ _ _).2 c1, zbsome, zpu1, B144_5, if_pos rfl, k]
    · have k := B254_26 (d + 28) x0 x1 x2 M
      by_cases c1 : (4 ≤ x0 ∧ x0 ≤ 21) ∨ (1012 ≤ x0 ∧ x0 ≤ 1021)
      · rw [B254_0, (S252 _ _ _).1 c1, zbsome, zpu1, B254_4, if_neg (by decide)]
        by_cases c2 : 1 ≤ x1 ∧ x1 ≤ 10
        · have c3 : ¬ (0 ≤ x2 ∧ x2 ≤ 3) := fun z => ok ⟨⟨c1, c2⟩, z⟩
          simp +decide only [B254_14, B254_23, S_in, c2, c3, k, zbsome, zpu1, zpu0, cond_true, cond_false, zib0, zib1, zib_ite, zq00, zq20, zq22, zq90, zq99, zq40, zq44, zq100, zq1010, Bool.and_true, if_true, if_false, z1ne0, not_true_eq_false, not_false_eq_true, zite10, eq_self, and_true, true_and, and_false, false_and, ↓reduceIte, Int32.reduceLT, Int32.reduceLE, Int32.reduceAdd, Int32.reduceSub, Int32.reduceMul]
        · simp +decide only [B254_14, S_in, c2, k, zbsome, zpu1, zpu0, cond_true, cond_false, zib0, zib1, zib_ite, zq00, zq20, zq22, zq90, zq99, zq40, zq44, zq100, zq1010, Bool.and_true, if_true, if_false, z1ne0, not_true_eq_false, not_false_eq_true, zite10, eq_self, and_true, true_and, and_false, false_and, ↓reduceIte, Int32.reduceLT, Int32.reduceLE, Int32.reduceAdd, Int32.reduceSub, Int32.reduceMul]
      · rw [B254_0, (S252 _ _ _).2 c1, zbsome, zpu1, B254_4, if_pos rfl, k]
  obtain ⟨li, h0, h3⟩ := ok
  have li' := li
  obtain ⟨s, a, dv, hs, hx, hy, hd, hl, e253⟩ := oLi_h li
  obtain ⟨p, hp, rfl⟩ := zin_of (zin4.mpr ⟨by grind, by grind⟩ : zin x2 4 = true)
  obtain ⟨P, C, g, sn, hn⟩ := yShoe_num hS
  obtain ⟨q, hq, hq2⟩ := Rrul_q hR
  obtain ⟨A1, e1, f1, a1, a2, a3, a4⟩ := S184 (d + 23) hn hA ⟨fun w hw => (hq w hw).1, hq2⟩
  obtain ⟨A2, e2, f2, o1, o2, o3⟩ := S61J (d + 24) dv hd zu zu a1 a2 a3 a4
  have hO : ∀ k, 0 ≤ oO (yLf P sn) q dv k := fun k => oO_nn dv k
  have hQ := oO_q (q := q) a2.2.2.1 dv
  have hF : oFcJ A2 (yLf P sn) (oO (yLf P sn) q dv) := ⟨o1, o2, o3, hO, hQ, a2.2.2.1⟩
  have hR2 : oRJ A2 q := oR_frJ a3 f2 (fun v z => by unfold oFfJ at z; omega)
  have fA : zFo oFc2 M A2 := zFo_trans (zFo_mono f1 (fun a b c z => by unfold oFc2; omega)) (zFo_mono f2 (fun a b c z => by unfold oFfJ at z; unfold oFc2; omega))
  obtain ⟨B1, e3, f3, b1⟩ := S238 (d + 25) zu (yNum_B hn fA)
  have hR1 : mR B1 q := ⟨fun w hw => by
    rw [(f3 57 0 w (by omega)).1, (fA 57 0 w (by unfold oFc2; omega)).1]
    exact (hq w hw).2, hq2⟩
  obtain ⟨B2, e4, f4, m4⟩ := S244 (d + 27) zu (yLf P sn) q B1
  have hH2 : mH B2 (yLf P sn) := mH_fr b1 f4 (fun v z => by cases z.1)
  have hRB2 : mR B2 q := mR_fr hR1 f4 (fun v z => by cases z.1)
  obtain ⟨B3, e5, f5, -, m5, d5⟩ := S245 (d + 3) dv hd zu zu zu zu zu hH2 hRB2 m4
  have hH3 : mH B3 (yLf P sn) := mH_fr hH2 f5 (fun v z => by unfold mFo at z; omega)
  have hRB3 : mR B3 q := mR_fr hRB2 f5 (fun v z => by unfold mFo at z; omega)
  have fB : zFo mFc2 A2 B3 := zFo_trans (zFo_mono f3 (fun a b c z => by unfold mFc2; omega)) (zFo_trans (zFo_mono f4 (fun a b c z => by unfold mFc2; omega)) (zFo_mono f5 (fun a b c z => by unfold mFo at z; unfold mFc2; omega)))
  have z0 : zin 0 11 = true := rfl
  have n0 : ¬ zgI B1 76 0 (0 : Int32).toNatClampNeg = 0 := by
    have e0 : zgI B1 76 0 (0 : Int32).toNatClampNeg = nI (ysm (yLf P sn)) := b1.2.1
    rw [e0]
    exact nI_ne0 b1.2.2.1 (by have := b1.2.2.2; omega)
  have e1 : zgo false (d + 27) 184 0 [zr 12 0] [] M = some (some (zi 1), A1) := e1
  have e2 : zgo false (d + 27) 61 0 [zr 7 1, zi (nI dv), zu, zu] [] A1 = some (none, A2) := e2
  have e3 : zgo false (d + 27) 238 0 [zr 13 0, zu] [] A2 = some (none, B1) := e3
  have e5 : zgo false (d + 27) 245 0 [zr 13 0, zi (nI dv), zu, zu, zu, zu, zu] [] B2 = some (none, B3) := e5
  have lp : nI p = 3 ↔ p = 3 := nI_eq (b := 3) (by omega) (by omega)
  have kc : zgo false (d + 28) 144 0 [zr 12 0, zi x0, zi x1, zi (nI p)] [] M = zgo false (d + 28) 144 35 [zr 12 0, zi x0, zi x1, zi (nI p)] [] A2 := by
    rw [B144_0, (S179 _ _ _ _ _ _ _).1 li', zbsome, zpu1, B144_5, if_neg (by decide), if_neg (z_le_nlt h0), if_neg (z_le_nlt h3), e1, zbsome, zpu1, B144_21, if_neg (by decide), hy, e2]
    rfl
  have km : zgo false (d + 28) 254 0 [zr 13 0, zi x0, zi x1, zi (nI p)] [] A2 = zgo false (d + 28) 254 54 [zr 13 0, zi x0, zi x1, zi (nI p)] [] B3 := by
    have k33 : zgo false (d + 28) 254 0 [zr 13 0, zi x0, zi x1, zi (nI p)] [] A2 = zgo false (d + 28) 254 33 [zr 13 0, zi x0, zi x1, zi (nI p)] [] B1 := by
      rw [B254_0, (S252 _ _ _).1 li'.1, zbsome, zpu1, B254_4, if_neg (by decide)]
      have c2 := li'.2
      have c3 : 0 ≤ nI p ∧ nI p ≤ 3 := ⟨h0, h3⟩
      simp +decide only [B254_14, B254_23, S_in, c2, c3, e3, zbsome, zpu1, zpu0, cond_true, cond_false, zib0, zib1, zib_ite, zq00, zq20, zq22, zq90, zq99, zq40, zq44, zq100, zq1010, Bool.and_true, if_true, if_false, z1ne0, not_true_eq_false, not_false_eq_true, zite10, eq_self, and_true, true_and, and_false, false_and, ↓reduceIte, Int32.reduceLT, Int32.reduceLE, Int32.reduceAdd, Int32.reduceSub, Int32.reduceMul]
    rw [k33, B254_33, if_pos z0, if_neg n0, e4, zbsome, zpu0, B254_49, hy, e5]
    rfl
  have fl : ∀ (X Y : Option (Option zV × zM)), (if x0 ≤ 1000 then X else Y) = if a = true then Y else X := by
    intro X Y
    by_cases c : a = true
    · rw [if_pos c, if_neg (fun z => (hl.mp z) c)]
    · rw [if_neg c, if_pos (hl.mpr c)]
  by_cases h : p = 3
  · obtain ⟨B4, e6, f6, -⟩ := S250 (d + 2) s a true hs zu zu zu hO hQ hH3 hRB3 m5 d5
    have fB4 : zFo mFc2 A2 B4 := zFo_trans fB (zFo_mono f6 (fun a b c z => by unfold mFd at z; unfold mFc2; omega))
    refine ⟨nI (oBst (yLf P sn) (oO (yLf P sn) q dv) s a (Nat.beq (q 2) 1)), A2, B4, ?_, ?_, zFr_trans (zFr_of fA (fun a b c z => oFc2_own z)) (zFr_of fB4 (fun a b c z => mFc2_own z))⟩
    · have e64 : zgo false (d + 27) 64 0 [zr 7 1, zi (nI (oHd s a)), zi 1, zu, zu, zu] [] A2 = some (some (zi (nI (oBst (yLf P sn) (oO (yLf P sn) q dv) s a (Nat.beq (q 2) 1)))), A2) := S64J (d + 26) s a true hs zu zu zu hR2 hF
      rw [kc, B144_35, if_pos (lp.mpr h), hx, e64, zbsome, zpu1, B144_49, B144_61]
    · have e6 : zgo false (d + 27) 250 0 [zr 13 0, zi (nI s), zi (bI a), zi 1, zu, zu, zu] [] B3 = some (some (zi (nI (oBst (yLf P sn) (oO (yLf P sn) q dv) s a (Nat.beq (q 2) 1)))), B4) := e6
      rw [km, B254_54, if_pos (lp.mpr h), e253, zbsome]
      show zgo false (d + 28) 254 64 _ [zi (nI s), zr 13 0] B3 = _
      have k76 : zgo false (d + 28) 254 64 [zr 13 0, zi x0, zi x1, zi (nI p)] [zi (nI s), zr 13 0] B3 = zgo false (d + 28) 254 76 [zr 13 0, zi x0, zi x1, zi (nI p)] [zi (bI a), zi (nI s), zr 13 0] B3 := by
        rw [B254_64, fl]
        unfold bI
        by_cases c : a = true
        · rw [if_pos c, if_pos c]
        · rw [if_neg c, if_neg c]
      rw [k76, B254_76, e6, zbsome, zpu1, B254_80, B254_105]
  · obtain ⟨B4, e6, f6, -⟩ := S249 (d + 3) s p a hs (by omega) hO hQ hH3 m5 d5
    have fB4 : zFo mFc2 A2 B4 := zFo_trans fB (zFo_mono f6 (fun a b c z => by unfold mFd at z; unfold mFc2; omega))
    refine ⟨yI (oW (yLf P sn) (oO (yLf P sn) q dv) s a p), A2, B4, ?_, ?_, zFr_trans (zFr_of fA (fun a b c z => oFc2_own z)) (zFr_of fB4 (fun a b c z => mFc2_own z))⟩
    · have e63 : zgo false (d + 27) 63 0 [zr 7 1, zi (nI (oHd s a)), zi (nI p), zu] [] A2 = some (some (zi (yI (oW (yLf P sn) (oO (yLf P sn) q dv) s a p))), A2) := S63J (d + 26) s p a hs (by omega) zu hF
      rw [kc, B144_35, if_neg (mt lp.mp h), hx, e63, zbsome, zpu1, B144_61]
    · have e6 : zgo false (d + 27) 249 0 [zr 13 0, zi (nI s), zi (bI a), zi (nI p)] [] B3 = some (some (zl (yJ (oW (yLf P sn) (oO (yLf P sn) q dv) s a p))), B4) := e6
      rw [km, B254_54, if_neg (mt lp.mp h), e253, zbsome]
      show zgo false (d + 28) 254 88 _ [zi (nI s), zr 13 0] B3 = _
      have k76 : zgo false (d + 28) 254 88 [zr 13 0, zi x0, zi x1, zi (nI p)] [zi (nI s), zr 13 0] B3 = zgo false (d + 28) 254 100 [zr 13 0, zi x0, zi x1, zi (nI p)] [zi (bI a), zi (nI s), zr 13 0] B3 := by
        rw [B254_88, fl]
        unfold bI
        by_cases c : a = true
        · rw [if_pos c, if_pos c]
        · rw [if_neg c, if_neg c]
      rw [k76, B254_100, e6, zbsome]
      show zgo false (d + 28) 254 104 _ [zl _] B4 = _
      rw [B254_104, B254_105, yJI]
