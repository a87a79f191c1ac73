/-! ===== 'cost' ===== -/
theorem Q15 (d : Nat) (x0 x1 x2 : Int32) (M : zM) (hS : yShoe 0 M M) (hR : Rrul M) (hA : RafJ M) : ∃ (y : Int32) (M1 M2 : zM), zgo false (d + 28) 145 0 [zr 12 0, zi x0, zi x1, zi x2] [] M = some (some (zi y), M1) ∧ zgo false (d + 28) 255 0 [zr 13 0, zi x0, zi x1, zi x2] [] M1 = some (some (zi y), M2) ∧ zFr (zo 12) M M2 := by
  obtain ⟨q, hq, hq2⟩ := Rrul_q hR
  have z24 : zin 2 4 = true := rfl
  have c2 : (2 : Int32).toNatClampNeg = 2 := rfl
  have l1 : nI (q 2) = 1 ↔ q 2 = 1 := nI_eq (b := 1) (by omega) (by omega)
  have l0 : nI (q 2) = 0 ↔ q 2 = 0 := nI_eq (b := 0) (by omega) (by omega)
  have a29 : ∀ d, zgo false d 169 0 [zr 29 0, zi 2] [] M = some (some (zi (nI (q 2))), M) := fun d => (at29n false d 0 2 M (by omega)).trans (by rw [(hq 2 (by omega)).1])
  by_cases ok : oLi x0 x1 ∧ (0 ≤ x2 ∧ x2 ≤ 2) ∧ (x2 = 2 → q 2 = 1)
  case neg =>
    refine ⟨-2000000000, M, M, ?_, ?_, zFr_refl _ M⟩
    · have k := B145_17 (d + 28) x0 x1 x2 M
      have k46 := B145_46 (d + 28) x0 x1 x2 M
      by_cases c1 : oLi x0 x1
      · rw [B145_0, (S179 _ _ _ _ _ _ _).1 c1, zbsome, zpu1, B145_5, if_neg (by decide)]
        by_cases y1 : x2 < 0
        · rw [if_pos y1, k]
        · rw [if_neg y1]
          by_cases y2 : x2 ≤ 2
          · have y3 : x2 = 2 ∧ ¬ q 2 = 1 := by
              by_cases z : x2 = 2
              · exact ⟨z, fun w => ok ⟨c1, ⟨by grind, y2⟩, fun _ => w⟩⟩
              · exact absurd ⟨c1, ⟨by grind, y2⟩, fun w => absurd w z⟩ ok
            rw [if_pos y2, if_pos y3.1, a29, zbsome, zpu1, B145_36, if_pos (l0.mpr (by have := y3.2; omega)), k46]
          · rw [if_neg y2, k]
      · rw [B145_0, (S179 _ _ _ _ _ _ _).2 c1, zbsome, zpu1, B145_5, if_pos rfl, k]
    · have k := B255_40 (d + 28) x0 x1 x2 M
      by_cases c1 : (4 ≤ x0 ∧ x0 ≤ 21) ∨ (1012 ≤ x0 ∧ x0 ≤ 1021)
      · rw [B255_0, (S252 _ _ _).1 c1, zbsome, zpu1, B255_4, if_neg (by decide)]
        by_cases y2 : 1 ≤ x1 ∧ x1 ≤ 10
        · have e57 := (hq 2 (by omega)).2
          have k14 : zgo false (d + 28) 255 14 [zr 13 0, zi x0, zi x1, zi x2] [zi 1] M = some (some (zi (-2000000000)), M) := by
            rw [B255_14, if_neg (by decide), if_pos z24, c2, e57]
            by_cases w : q 2 = 1
            · have c3 : ¬ (0 ≤ x2 ∧ x2 ≤ 2) := fun z => ok ⟨⟨c1, y2⟩, z, fun _ => w⟩
              rw [if_pos (l1.mpr w)]
              simp +decide only [B255_34, B255_37, S_in, c3, k, zbsome, zpu1, zpu0, cond_true, cond_false, zib0, zib1, zib_ite, zq00, zq20, zq22, zq90, zq99, zq40, zq44, zq100, zq1010, Bool.and_true, if_true, if_false, z1ne0, not_true_eq_false, not_false_eq_true, zite10, eq_self, and_true, true_and, and_false, false_and, ↓reduceIte, Int32.reduceLT, Int32.reduceLE, Int32.reduceAdd, Int32.reduceSub, Int32.reduceMul]
            · have c3 : ¬ (0 ≤ x2 ∧ x2 ≤ 1) := fun z => ok ⟨⟨c1, y2⟩, ⟨z.1, by grind⟩, fun v => by grind⟩
              rw [if_neg (mt l1.mp w)]
              simp +decide only [B255_34, B255_37, S_in, c3, k, zbsome, zpu1, zpu0, cond_true, cond_false, zib0, zib1, zib_ite, zq00, zq20, zq22, zq90, zq99, zq40, zq44, zq100, zq1010, Bool.and_true, if_true, if_false, z1ne0, not_true_eq_false, not_false_eq_true, zite10, eq_self, and_true, true_and, and_false, false_and, ↓reduceIte, Int32.reduceLT, Int32.reduceLE, Int32.reduceAdd, Int32.reduceSub, Int32.reduceMul]
          simp +decide only [S_in, y2, k14, zbsome, zpu1, zpu0, cond_true, cond_false, zib0, zib1, zib_ite, zq00, zq20, zq22, zq90, zq99, zq40, zq44, zq100, zq1010, Bool.and_true, if_true, if_false, z1ne0, not_true_eq_false, not_false_eq_true, zite10, eq_self, and_true, true_and, and_false, false_and, ↓reduceIte, Int32.reduceLT, Int32.reduceLE, Int32.reduceAdd, Int32.reduceSub, Int32.reduceMul]
        · simp +decide only [B255_14, S_in, y2, k, zbsome, zpu1, zpu0, cond_true, cond_false, zib0, zib1, zib_ite, zq00, zq20, zq22, zq90, zq99, zq40, zq44, zq100, zq1010, Bool.and_true, if_true, if_false, z1ne0, not_true_eq_false, not_false_eq_true, zite10, eq_self, and_true, true_and, and_false, false_and, ↓reduceIte, Int32.reduceLT, Int32.reduceLE, Int32.reduceAdd, Int32.reduceSub, Int32.reduceMul]
      · rw [B255_0, (S252 _ _ _).2 c1, zbsome, zpu1, B255_4, if_pos rfl, k]
  obtain ⟨li, ⟨h0, h3⟩, hdb⟩ := ok
  have li' := li
  obtain ⟨s, a, dv, hs, hx, hy, hd, hl, e253⟩ := oLi_h li
  obtain ⟨p, hp, rfl⟩ := zin_of (zin3.mpr ⟨by grind, by grind⟩ : zin x2 3 = true)
  obtain ⟨P, C, g, sn, hn⟩ := yShoe_num hS
  obtain ⟨A1, e1, f1, a1, a2, a3, a4⟩ := S184 (d + 23) hn hA ⟨fun w hw => (hq w hw).1, hq2⟩
  obtain ⟨A2, e2, f2, o1, o2, o3⟩ := S61J (d + 24) dv hd zu zu a1 a2 a3 a4
  have hO : ∀ k, 0 ≤ oO (yLf P sn) q dv k := fun k => oO_nn dv k
  have hQ := oO_q (q := q) a2.2.2.1 dv
  have hF : oFcJ A2 (yLf P sn) (oO (yLf P sn) q dv) := ⟨o1, o2, o3, hO, hQ, a2.2.2.1⟩
  have hR2 : oRJ A2 q := oR_frJ a3 f2 (fun v z => by unfold oFfJ at z; omega)
  have fA : zFo oFc2 M A2 := zFo_trans (zFo_mono f1 (fun a b c z => by unfold oFc2; omega)) (zFo_mono f2 (fun a b c z => by unfold oFfJ at z; unfold oFc2; omega))
  obtain ⟨B1, e3, f3, b1⟩ := S238 (d + 25) zu (yNum_B hn fA)
  have hR1 : mR B1 q := ⟨fun w hw => by
    rw [(f3 57 0 w (by omega)).1, (fA 57 0 w (by unfold oFc2; omega)).1]
    exact (hq w hw).2, hq2⟩
  obtain ⟨B2, e4, f4, m4⟩ := S244 (d + 27) zu (yLf P sn) q B1
  have hH2 : mH B2 (yLf P sn) := mH_fr b1 f4 (fun v z => by cases z.1)
  have hRB2 : mR B2 q := mR_fr hR1 f4 (fun v z => by cases z.1)
  obtain ⟨B3, e5, f5, -, m5, d5⟩ := S245 (d + 3) dv hd zu zu zu zu zu hH2 hRB2 m4
  have hH3 : mH B3 (yLf P sn) := mH_fr hH2 f5 (fun v z => by unfold mFo at z; omega)
  have hRB3 : mR B3 q := mR_fr hRB2 f5 (fun v z => by unfold mFo at z; omega)
  have fB : zFo mFc2 A2 B3 := zFo_trans (zFo_mono f3 (fun a b c z => by unfold mFc2; omega)) (zFo_trans (zFo_mono f4 (fun a b c z => by unfold mFc2; omega)) (zFo_mono f5 (fun a b c z => by unfold mFo at z; unfold mFc2; omega)))
  have z0 : zin 0 11 = true := rfl
  have n0 : ¬ zgI B1 76 0 (0 : Int32).toNatClampNeg = 0 := by
    have e0 : zgI B1 76 0 (0 : Int32).toNatClampNeg = nI (ysm (yLf P sn)) := b1.2.1
    rw [e0]
    exact nI_ne0 b1.2.2.1 (by have := b1.2.2.2; omega)
  have e1 : zgo false (d + 27) 184 0 [zr 12 0] [] M = some (some (zi 1), A1) := e1
  have e2 : zgo false (d + 27) 61 0 [zr 7 1, zi (nI dv), zu, zu] [] A1 = some (none, A2) := e2
  have e3 : zgo false (d + 27) 238 0 [zr 13 0, zu] [] A2 = some (none, B1) := e3
  have e5 : zgo false (d + 27) 245 0 [zr 13 0, zi (nI dv), zu, zu, zu, zu, zu] [] B2 = some (none, B3) := e5
  have lp : nI p = 2 ↔ p = 2 := nI_eq (b := 2) (by omega) (by omega)
  have kc : zgo false (d + 28) 145 0 [zr 12 0, zi x0, zi x1, zi (nI p)] [] M = zgo false (d + 28) 145 57 [zr 12 0, zi x0, zi x1, zi (nI p)] [] A2 := by
    have k39 : zgo false (d + 28) 145 39 [zr 12 0, zi x0, zi x1, zi (nI p)] [] M = zgo false (d + 28) 145 57 [zr 12 0, zi x0, zi x1, zi (nI p)] [] A2 := by
      rw [B145_39, e1, zbsome, zpu1, B145_43, if_neg (by decide), hy, e2]
      rfl
    rw [B145_0, (S179 _ _ _ _ _ _ _).1 li', zbsome, zpu1, B145_5, if_neg (by decide), if_neg (z_le_nlt h0), if_pos h3]
    by_cases z : p = 2
    · have w := hdb (lp.mpr z)
      rw [if_pos (lp.mpr z), a29, zbsome, zpu1, B145_36, if_neg (mt l0.mp (by omega)), k39]
    · rw [if_neg (mt lp.mp z), k39]
  have km : zgo false (d + 28) 255 0 [zr 13 0, zi x0, zi x1, zi (nI p)] [] A2 = zgo false (d + 28) 255 68 [zr 13 0, zi x0, zi x1, zi (nI p)] [] B3 := by
    have k47 : zgo false (d + 28) 255 0 [zr 13 0, zi x0, zi x1, zi (nI p)] [] A2 = zgo false (d + 28) 255 47 [zr 13 0, zi x0, zi x1, zi (nI p)] [] B1 := by
      have y2 := li'.2
      have e57 : zgI A2 57 0 2 = nI (q 2) := ((fA 57 0 2 (by unfold oFc2; omega)).1).trans (hq 2 (by omega)).2
      have k14 : zgo false (d + 28) 255 14 [zr 13 0, zi x0, zi x1, zi (nI p)] [zi 1] A2 = zgo false (d + 28) 255 47 [zr 13 0, zi x0, zi x1, zi (nI p)] [] B1 := by
        rw [B255_14, if_neg (by decide), if_pos z24, c2, e57]
        by_cases w : q 2 = 1
        · have c3 : 0 ≤ nI p ∧ nI p ≤ 2 := ⟨h0, h3⟩
          rw [if_pos (l1.mpr w)]
          simp +decide only [B255_34, B255_37, S_in, c3, e3, zbsome, zpu1, zpu0, cond_true, cond_false, zib0, zib1, zib_ite, zq00, zq20, zq22, zq90, zq99, zq40, zq44, zq100, zq1010, Bool.and_true, if_true, if_false, z1ne0, not_true_eq_false, not_false_eq_true, zite10, eq_self, and_true, true_and, and_false, false_and, ↓reduceIte, Int32.reduceLT, Int32.reduceLE, Int32.reduceAdd, Int32.reduceSub, Int32.reduceMul]
        · have c3 : 0 ≤ nI p ∧ nI p ≤ 1 := ⟨h0, by
            have : ¬ p = 2 := fun z => w (hdb (lp.mpr z))
            exact nI_le (b := 1) (by omega) (by omega)⟩
          rw [if_neg (mt l1.mp w)]
          simp +decide only [B255_34, B255_37, S_in, c3, e3, zbsome, zpu1, zpu0, cond_true, cond_false, zib0, zib1, zib_ite, zq00, zq20, zq22, zq90, zq99, zq40, zq44, zq100, zq1010, Bool.and_true, if_true, if_false, z1ne0, not_true_eq_false, not_false_eq_true, zite10, eq_self, and_true, true_and, and_false, false_and, ↓reduceIte, Int32.reduceLT, Int32.reduceLE, Int32.reduceAdd, Int32.reduceSub, Int32.reduceMul]
      rw [B255_0, (S252 _ _ _).1 li'.1, zbsome, zpu1, B255_4, if_neg (by decide)]
      simp +decide only [S_in, y2, k14, zbsome, zpu1, zpu0, cond_true, cond_false, zib0, zib1, zib_ite, zq00, zq20, zq22, zq90, zq99, zq40, zq44, zq100, zq1010, Bool.and_true, if_true, if_false, z1ne0, not_true_eq_false, not_false_eq_true, zite10, eq_self, and_true, true_and, and_false, false_and, ↓reduceIte, Int32.reduceLT, Int32.reduceLE, Int32.reduceAdd, Int32.reduceSub, Int32.reduceMul]
    rw [k47, B255_47, if_pos z0, if_neg n0, e4, zbsome, zpu0, B255_63, hy, e5]
    rfl
  have fl : ∀ (X Y : Option (Option zV × zM)), (if x0 ≤ 1000 then X else Y) = if a = true then Y else X := by
    intro X Y
    by_cases c : a = true
    · rw [if_pos c, if_neg (fun z => (hl.mp z) c)]
    · rw [if_neg c, if_pos (hl.mpr c)]
  let b := oBst (yLf P sn) (oO (yLf P sn) q dv) s a (Nat.beq (q 2) 1)
  have hb : b ≤ 2 := oBst_le _ _ _ _ _
  obtain ⟨B4, e6, f6, d6⟩ := S250 (d + 2) s a true hs zu zu zu hO hQ hH3 hRB3 m5 d5
  have hH4 : mH B4 (yLf P sn) := mH_fr hH3 f6 (fun v z => by unfold mFd at z; omega)
  have hM4 : mO B4 (oO (yLf P sn) q dv) := mO_fr m5 f6 (fun v z => by unfold mFd at z; omega)
  obtain ⟨B5, e7, f7, d7⟩ := S249 (d + 3) s b a hs hb hO hQ hH4 hM4 d6
  have hH5 : mH B5 (yLf P sn) := mH_fr hH4 f7 (fun v z => by unfold mFd at z; omega)
  have hM5 : mO B5 (oO (yLf P sn) q dv) := mO_fr hM4 f7 (fun v z => by unfold mFd at z; omega)
  obtain ⟨B6, e8, f8, -⟩ := S249 (d + 3) s p a hs (by omega) hO hQ hH5 hM5 d7
  have fB6 : zFo mFc2 A2 B6 := zFo_trans fB (zFo_mono (zFo_trans f6 (zFo_trans f7 f8)) (fun a b c z => by unfold mFd at z; unfold mFc2; omega))
  refine ⟨yI (oW (yLf P sn) (oO (yLf P sn) q dv) s a b - oW (yLf P sn) (oO (yLf P sn) q dv) s a p), A2, B6, ?_, ?_, zFr_trans (zFr_of fA (fun a b c z => oFc2_own z)) (zFr_of fB6 (fun a b c z => mFc2_own z))⟩
  · have e64 : zgo false (d + 27) 64 0 [zr 7 1, zi (nI (oHd s a)), zi 1, zu, zu, zu] [] A2 = some (some (zi (nI b)), A2) := S64J (d + 26) s a true hs zu zu zu hR2 hF
    have e63 := fun p (hp : p ≤ 2) => S63J (d + 26) s p a hs hp zu hF
    rw [kc, B145_57, hx, e64, zbsome]
    show zgo false (d + 28) 145 71 _ [zi (nI b), zi (nI (oHd s a)), zr 7 1] A2 = _
    rw [B145_71, e63 b hb, zbsome, zpu1, B145_74, e63 p (by omega), zbsome]
    show zgo false (d + 28) 145 83 _ [zi (yI (oW (yLf P sn) (oO (yLf P sn) q dv) s a p)), zi (yI (oW (yLf P sn) (oO (yLf P sn) q dv) s a b))] A2 = _
    rw [B145_83, yI_sub]
  · have e6 : zgo false (d + 27) 250 0 [zr 13 0, zi (nI s), zi (bI a), zi 1, zu, zu, zu] [] B3 = some (some (zi (nI b)), B4) := e6
    have e7 : zgo false (d + 27) 249 0 [zr 13 0, zi (nI s), zi (bI a), zi (nI b)] [] B4 = some (some (zl (yJ (oW (yLf P sn) (oO (yLf P sn) q dv) s a b))), B5) := e7
    have e8 : zgo false (d + 27) 249 0 [zr 13 0, zi (nI s), zi (bI a), zi (nI p)] [] B5 = some (some (zl (yJ (oW (yLf P sn) (oO (yLf P sn) q dv) s a p))), B6) := e8
    have bt : ∀ (X : Int32 → Option (Option zV × zM)), (if a = true then X 1 else X 0) = X (bI a) := by
      intro X
      unfold bI
      by_cases c : a = true
      · rw [if_pos c, if_pos c]
      · rw [if_neg c, if_neg c]
    rw [km, B255_68, e253, zbsome]
    show zgo false (d + 28) 255 73 _ [zi (nI s), zr 13 0] B3 = _
    rw [B255_73, fl, bt (fun n => zgo false (d + 28) 255 85 [zr 13 0, zi x0, zi x1, zi (nI p)] [zi n, zi (nI s), zr 13 0] B3), B255_85, e253, zbsome]
    show zgo false (d + 28) 255 90 _ [zi (nI s), zr 13 0, zi (bI a), zi (nI s), zr 13 0] B3 = _
    rw [B255_90, fl, bt (fun n => zgo false (d + 28) 255 102 [zr 13 0, zi x0, zi x1, zi (nI p)] [zi n, zi (nI s), zr 13 0, zi (bI a), zi (nI s), zr 13 0] B3), B255_102, e6, zbsome]
    show zgo false (d + 28) 255 106 _ [zi (nI b), zi (bI a), zi (nI s), zr 13 0] B4 = _
    rw [B255_106, e7, zbsome]
    show zgo false (d + 28) 255 109 _ [zl _] B5 = _
    rw [B255_109, e253, zbsome]
    show zgo false (d + 28) 255 114 _ [zi (nI s), zr 13 0, zl (yJ (oW (yLf P sn) (oO (yLf P sn) q dv) s a b))] B5 = _
    rw [B255_114, fl, bt (fun n => zgo false (d + 28) 255 126 [zr 13 0, zi x0, zi x1, zi (nI p)] [zi n, zi (nI s), zr 13 0, zl (yJ (oW (yLf P sn) (oO (yLf P sn) q dv) s a b))] B5), B255_126, e8, zbsome]
    show zgo false (d + 28) 255 130 _ [zl (yJ (oW (yLf P sn) (oO (yLf P sn) q dv) s a p)), zl (yJ (oW (yLf P sn) (oO (yLf P sn) q dv) s a b))] B6 = _
    rw [B255_130, yJ_sub, yJI]
