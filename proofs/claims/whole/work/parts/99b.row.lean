/-! ===== 'row' ===== -/
theorem zin2 {x : Int32} : zin x 2 = true ↔ 0 ≤ x ∧ x < 2 := zin_g (by decide) rfl
def oNX (W : Nat → Int) (b k : Nat) (s : Int × Nat) : Int × Nat := if k = b then s else if s.2 = 0 ∨ s.1 < W k then (W k, 1) else s
theorem oBst_no (o : Nat → Nat) (O : Nat → Int) (s : Nat) (a : Bool) : oBst o O s a false ≤ 1 := by
  unfold oBst oM1
  rw [if_neg (fun z => by cases z.1)]
  by_cases c : oSt O (oTt s a) < oDe o O s a
  · rw [if_pos c]
    omega
  · rw [if_neg c]
    omega
theorem oNX_ln (W : Nat → Int) (b : Nat) (dd : Bool) (hb : b ≤ 2) (hd : dd = false → b ≤ 1) : (oNX W b 1 (oNX W b 0 (0, 0))).2 = 1 ∧ W b - (if dd = true then oNX W b 2 (oNX W b 1 (oNX W b 0 (0, 0))) else oNX W b 1 (oNX W b 0 (0, 0))).1 = W b - (if b = 2 then oMx (W 0) (W 1) else if dd = true then oMx (W (if b = 0 then 1 else 0)) (W 2) else W (if b = 0 then 1 else 0)) := by
  rcases (by omega : b = 0 ∨ b = 1 ∨ b = 2) with rfl | rfl | rfl
  · cases dd
    · simp [oNX]
    · by_cases c : W 1 < W 2
      · simp [oNX, oMx, c]
      · simp [oNX, oMx, c]
  · cases dd
    · simp [oNX]
    · by_cases c : W 0 < W 2
      · simp [oNX, oMx, c]
      · simp [oNX, oMx, c]
  · cases dd
    · exact absurd (hd rfl) (by omega)
    · by_cases c : W 0 < W 1
      · simp [oNX, oMx, c]
      · simp [oNX, oMx, c]
theorem R258s (d s b k N f : Nat) (a : Bool) (X : Int) (x1 x2 x3 : Int32) (u6 u10 u11 : zV) (hs : 1 ≤ s ∧ s ≤ 21) (hb : b ≤ 2) (hk : k ≤ 2) (hN : k < N) (hN3 : N ≤ 3) (hf : f ≤ 1) (hX : -2000000 ≤ X ∧ X ≤ 2000000) (hl : x1 ≤ 1000 ↔ ¬ a = true) {o : Nat → Nat} {O : Nat → Int} (hO : ∀ k, 0 ≤ O k) (hQ : oQ O ≤ 1000000) {B : zM} (hH : mH B o) (hM : mO B O) (hD : mD B o O) (e253 : ∀ (d : Nat) (M : zM), zgo false d 253 0 [zi x1] [] M = some (some (zi (nI s)), M)) : ∃ (B' : zM) (v6 v10 v11 : zV), zgo false (d + 25) 258 98 [zr 13 0, zi x1, zi x2, zi x3, zi (nI b), zl (yJ X), u6, zi (nI f), zi (nI N), zi (nI k), u10, u11] [] B = zgo false (d + 25) 258 98 [zr 13 0, zi x1, zi x2, zi x3, zi (nI b), zl (yJ (oNX (oW o O s a) b k (X, f)).1), v6, zi (nI (oNX (oW o O s a) b k (X, f)).2), zi (nI N), zi (nI (k + 1)), v10, v11] [] B' ∧ zFo mFd B B' ∧ mD B' o O ∧ (oNX (oW o O s a) b k (X, f)).2 ≤ 1 ∧ -2000000 ≤ (oNX (oW o O s a) b k (X, f)).1 ∧ (oNX (oW o O s a) b k (X, f)).1 ≤ 2000000 := by
  obtain ⟨B1, e1, f1, m1⟩ := S249 d s k a hs hk hO hQ hH hM hD
  have bw := oW_b hH.2.2.1 hO hQ s a k
  have ln : 0 < lg_cmp (yJ (oW o O s a k)) (yJ X) ↔ X < oW o O s a k := by
    rw [lg_cmp_gt]
    exact yJ_lt ⟨by omega, by omega⟩ ⟨by omega, by omega⟩
  have lk : nI k = nI b ↔ k = b := nI_eq (by omega) (by omega)
  have lf : nI f = 0 ↔ f = 0 := nI_eq (b := 0) (by omega) (by omega)
  have k127 : zgo false (d + 25) 258 98 [zr 13 0, zi x1, zi x2, zi x3, zi (nI b), zl (yJ X), u6, zi (nI f), zi (nI N), zi (nI k), u10, u11] [] B = zgo false (d + 25) 258 127 [zr 13 0, zi x1, zi x2, zi x3, zi (nI b), zl (yJ X), u6, zi (nI f), zi (nI N), zi (nI k), u10, u11] [zl (yJ (oW o O s a k))] B1 := by
    rw [B258_98, if_neg (nI_ge (by omega) (by omega)), e253, zbsome]
    show zgo false (d + 25) 258 110 _ [zi (nI s), zr 13 0] B = _
    rw [B258_110]
    have k122 : ∀ n, n = bI a → zgo false (d + 25) 258 122 [zr 13 0, zi x1, zi x2, zi x3, zi (nI b), zl (yJ X), u6, zi (nI f), zi (nI N), zi (nI k), u10, u11] [zi n, zi (nI s), zr 13 0] B = zgo false (d + 25) 258 127 [zr 13 0, zi x1, zi x2, zi x3, zi (nI b), zl (yJ X), u6, zi (nI f), zi (nI N), zi (nI k), u10, u11] [zl (yJ (oW o O s a k))] B1 := by
      intro n hn
      rw [B258_122, hn, e1, zbsome]
      rfl
    by_cases c : a = true
    · rw [if_neg (fun z => (hl.mp z) c)]
      exact k122 1 (by rw [c]; rfl)
    · rw [if_pos (hl.mpr c)]
      exact k122 0 (by unfold bI; rw [if_neg c])
  rw [k127, B258_127]
  by_cases c : k = b
  · have e : oNX (oW o O s a) b k (X, f) = (X, f) := if_pos c
    rw [if_pos (lk.mpr c), B258_159, nI_1, e]
    exact ⟨B1, u6, _, _, rfl, f1, m1, hf, hX⟩
  · rw [if_neg (mt lk.mp c)]
    by_cases c2 : f = 0 ∨ X < oW o O s a k
    · have e : oNX (oW o O s a) b k (X, f) = (oW o O s a k, 1) := by
        unfold oNX
        rw [if_neg c, if_pos c2]
      have k152 : (if nI f = 0 then zgo false (d + 25) 258 152 [zr 13 0, zi x1, zi x2, zi x3, zi (nI b), zl (yJ X), u6, zi (nI f), zi (nI N), zi (nI k), zl (yJ (oW o O s a k)), zu] [] B1 else if 0 < lg_cmp (yJ (oW o O s a k)) (yJ X) then zgo false (d + 25) 258 152 [zr 13 0, zi x1, zi x2, zi x3, zi (nI b), zl (yJ X), u6, zi (nI f), zi (nI N), zi (nI k), zl (yJ (oW o O s a k)), zu] [] B1 else zgo false (d + 25) 258 159 [zr 13 0, zi x1, zi x2, zi x3, zi (nI b), zl (yJ X), u6, zi (nI f), zi (nI N), zi (nI k), zl (yJ (oW o O s a k)), zu] [] B1) = zgo false (d + 25) 258 152 [zr 13 0, zi x1, zi x2, zi x3, zi (nI b), zl (yJ X), u6, zi (nI f), zi (nI N), zi (nI k), zl (yJ (oW o O s a k)), zu] [] B1 := by
        by_cases c3 : f = 0
        · rw [if_pos (lf.mpr c3)]
        · rw [if_neg (mt lf.mp c3), if_pos (ln.mpr (by omega))]
      rw [k152, B258_152, B258_159, nI_1, e]
      exact ⟨B1, zu, _, _, rfl, f1, m1, Nat.le_refl 1, bw⟩
    · have e : oNX (oW o O s a) b k (X, f) = (X, f) := by
        unfold oNX
        rw [if_neg c, if_neg c2]
      rw [if_neg (mt lf.mp (by omega)), if_neg (mt ln.mp (by omega)), B258_159, nI_1, e]
      exact ⟨B1, u6, _, _, rfl, f1, m1, hf, hX⟩
/-- 'row' -/
theorem Q17 (d : Nat) (x0 x1 x2 : Int32) (M : zM) (hS : yShoe 0 M M) (hR : Rrul M) (hA : RafJ M) : ∃ (y : Int32) (M1 M2 : zM), zgo false (d + 28) 147 0 [zr 12 0, zi x0, zi x1, zi x2] [] M = some (some (zi y), M1) ∧ zgo false (d + 28) 258 0 [zr 13 0, zi x0, zi x1, zi x2, zu, zu, zu, zu, zu, zu, zu, zu] [] M1 = some (some (zi y), M2) ∧ zFr (zo 12) M M2 := by
  by_cases ok : oLi x0 x1 ∧ 0 ≤ x2 ∧ x2 ≤ 1
  case neg =>
    refine ⟨-2000000000, M, M, ?_, ?_, zFr_refl _ M⟩
    · have k := B147_24 (d + 28) x0 x1 x2 M
      by_cases c1 : oLi x0 x1
      · rw [B147_0, (S179 _ _ _ _ _ _ _).1 c1, zbsome, zpu1, B147_5, if_neg (by decide)]
        by_cases c2 : x2 < 0
        · rw [if_pos c2, k]
        · have c3 : 1 < x2 := by grind
          rw [if_neg c2, if_pos c3, k]
      · rw [B147_0, (S179 _ _ _ _ _ _ _).2 c1, zbsome, zpu1, B147_5, if_pos rfl, k]
    · have k := B258_26 (d + 28) x0 x1 x2 zu zu zu zu zu zu zu zu M
      by_cases c1 : (4 ≤ x0 ∧ x0 ≤ 21) ∨ (1012 ≤ x0 ∧ x0 ≤ 1021)
      · rw [B258_0, (S252 _ _ _).1 c1, zbsome, zpu1, B258_4, if_neg (by decide)]
        by_cases c2 : 1 ≤ x1 ∧ x1 ≤ 10
        · have c3 : ¬ (0 ≤ x2 ∧ x2 ≤ 1) := fun z => ok ⟨⟨c1, c2⟩, z⟩
          simp +decide only [B258_14, B258_23, S_in, c2, c3, k, zbsome, zpu1, zpu0, cond_true, cond_false, zib0, zib1, zib_ite, zq00, zq20, zq22, zq90, zq99, zq40, zq44, zq100, zq1010, Bool.and_true, if_true, if_false, z1ne0, not_true_eq_false, not_false_eq_true, zite10, eq_self, and_true, true_and, and_false, false_and, ↓reduceIte, Int32.reduceLT, Int32.reduceLE, Int32.reduceAdd, Int32.reduceSub, Int32.reduceMul]
        · simp +decide only [B258_14, S_in, c2, k, zbsome, zpu1, zpu0, cond_true, cond_false, zib0, zib1, zib_ite, zq00, zq20, zq22, zq90, zq99, zq40, zq44, zq100, zq1010, Bool.and_true, if_true, if_false, z1ne0, not_true_eq_false, not_false_eq_true, zite10, eq_self, and_true, true_and, and_false, false_and, ↓reduceIte, Int32.reduceLT, Int32.reduceLE, Int32.reduceAdd, Int32.reduceSub, Int32.reduceMul]
      · rw [B258_0, (S252 _ _ _).2 c1, zbsome, zpu1, B258_4, if_pos rfl, k]
  obtain ⟨li, h0, h3⟩ := ok
  have li' := li
  obtain ⟨s, a, dv, hs, hx, hy, hd, hl, e253⟩ := oLi_h li
  obtain ⟨p, hp, rfl⟩ := zin_of (zin2.mpr ⟨by grind, by grind⟩ : zin x2 2 = true)
  obtain ⟨P, C, g, sn, hn⟩ := yShoe_num hS
  obtain ⟨q, hq, hq2⟩ := Rrul_q hR
  have hP := hn.1.1
  obtain ⟨A1, e1, f1, a1, a2, a3, a4⟩ := S185 (d + 23) zu hA ⟨fun w hw => (hq w hw).1, hq2⟩
  obtain ⟨A2, e2, f2, o1, o2, o3⟩ := S61J (d + 24) dv hd zu zu a1 a2 a3 a4
  have hO : ∀ k, 0 ≤ oO oU q dv k := fun k => oO_nn dv k
  have hQ := oO_q (q := q) a2.2.2.1 dv
  have hF : oFcJ A2 oU (oO oU q dv) := ⟨o1, o2, o3, hO, hQ, a2.2.2.1⟩
  have hR2 : oRJ A2 q := oR_frJ a3 f2 (fun v z => by unfold oFfJ at z; omega)
  have fA : zFo oFc2 M A2 := zFo_trans (zFo_mono f1 (fun a b c z => by unfold oFc2; omega)) (zFo_mono f2 (fun a b c z => by unfold oFfJ at z; unfold oFc2; omega))
  obtain ⟨B1, e3, f3, b1⟩ := S239 (d + 26) P zu hP (((fA 13 0 1 (by unfold oFc2; omega)).1).trans hn.2.1.2)
  have hR1 : mR B1 q := ⟨fun w hw => by
    rw [(f3 57 0 w (by omega)).1, (fA 57 0 w (by unfold oFc2; omega)).1]
    exact (hq w hw).2, hq2⟩
  obtain ⟨B2, e4, f4, m4⟩ := S244 (d + 27) zu (oTm P oU) q B1
  have hH2 : mH B2 (oTm P oU) := mH_fr b1 f4 (fun v z => by cases z.1)
  have hRB2 : mR B2 q := mR_fr hR1 f4 (fun v z => by cases z.1)
  obtain ⟨B3, e5, f5, -, m5, d5⟩ := S245 (d + 3) dv hd zu zu zu zu zu hH2 hRB2 m4
  rw [oO_tm hP.1] at m5 d5
  have hH3 : mH B3 (oTm P oU) := mH_fr hH2 f5 (fun v z => by unfold mFo at z; omega)
  have hRB3 : mR B3 q := mR_fr hRB2 f5 (fun v z => by unfold mFo at z; omega)
  have fB : zFo mFc2 A2 B3 := zFo_trans (zFo_mono f3 (fun a b c z => by unfold mFc2; omega)) (zFo_trans (zFo_mono f4 (fun a b c z => by unfold mFc2; omega)) (zFo_mono f5 (fun a b c z => by unfold mFo at z; unfold mFc2; omega)))
  have e1 : zgo false (d + 27) 185 0 [zr 12 0, zu] [] M = some (some (zi 1), A1) := e1
  have e2 : zgo false (d + 27) 61 0 [zr 7 1, zi (nI dv), zu, zu] [] A1 = some (none, A2) := e2
  have e3 : zgo false (d + 27) 239 0 [zr 13 0, zu] [] A2 = some (none, B1) := e3
  have e5 : zgo false (d + 27) 245 0 [zr 13 0, zi (nI dv), zu, zu, zu, zu, zu] [] B2 = some (none, B3) := e5
  have lp : nI p = 0 ↔ p = 0 := nI_eq (b := 0) (by omega) (by omega)
  have kc : zgo false (d + 28) 147 0 [zr 12 0, zi x0, zi x1, zi (nI p)] [] M = zgo false (d + 28) 147 35 [zr 12 0, zi x0, zi x1, zi (nI p)] [] A2 := by
    rw [B147_0, (S179 _ _ _ _ _ _ _).1 li', zbsome, zpu1, B147_5, if_neg (by decide), if_neg (z_le_nlt h0), if_neg (z_le_nlt h3), e1, zbsome, zpu1, B147_21, if_neg (by decide), hy, e2]
    rfl
  obtain ⟨B4, e6, f6, d6⟩ := S250 (d + 2) s a true hs zu zu zu hO hQ hH3 hRB3 m5 d5
  rw [oBst_tm hP.1] at e6
  have fB4 : zFo mFc2 A2 B4 := zFo_trans fB (zFo_mono f6 (fun a b c z => by unfold mFd at z; unfold mFc2; omega))
  have hH4 : mH B4 (oTm P oU) := mH_fr hH3 f6 (fun v z => by unfold mFd at z; omega)
  have hM4 : mO B4 (oO oU q dv) := mO_fr m5 f6 (fun v z => by unfold mFd at z; omega)
  have hRB4 : mR B4 q := mR_fr hRB3 f6 (fun v z => by unfold mFd at z; omega)
  have e6 : zgo false (d + 27) 250 0 [zr 13 0, zi (nI s), zi (bI a), zi 1, zu, zu, zu] [] B3 = some (some (zi (nI (oBst oU (oO oU q dv) s a (Nat.beq (q 2) 1)))), B4) := e6
  have km : zgo false (d + 28) 258 0 [zr 13 0, zi x0, zi x1, zi (nI p), zu, zu, zu, zu, zu, zu, zu, zu] [] A2 = zgo false (d + 28) 258 63 [zr 13 0, zi x0, zi x1, zi (nI p), zu, zu, zu, zu, zu, zu, zu, zu] [zi (nI (oBst oU (oO oU q dv) s a (Nat.beq (q 2) 1)))] B4 := by
    have k33 : zgo false (d + 28) 258 0 [zr 13 0, zi x0, zi x1, zi (nI p), zu, zu, zu, zu, zu, zu, zu, zu] [] A2 = zgo false (d + 28) 258 33 [zr 13 0, zi x0, zi x1, zi (nI p), zu, zu, zu, zu, zu, zu, zu, zu] [] B1 := by
      rw [B258_0, (S252 _ _ _).1 li'.1, zbsome, zpu1, B258_4, if_neg (by decide)]
      have c2 := li'.2
      have c3 : 0 ≤ nI p ∧ nI p ≤ 1 := ⟨h0, h3⟩
      simp +decide only [B258_14, B258_23, S_in, c2, c3, e3, zbsome, zpu1, zpu0, cond_true, cond_false, zib0, zib1, zib_ite, zq00, zq20, zq22, zq90, zq99, zq40, zq44, zq100, zq1010, Bool.and_true, if_true, if_false, z1ne0, not_true_eq_false, not_false_eq_true, zite10, eq_self, and_true, true_and, and_false, false_and, ↓reduceIte, Int32.reduceLT, Int32.reduceLE, Int32.reduceAdd, Int32.reduceSub, Int32.reduceMul]
    rw [k33, B258_33, e4, zbsome, zpu0, B258_37, hy, e5, zbsome, zpu0, B258_42, e253, zbsome]
    show zgo false (d + 28) 258 47 _ [zi (nI s), zr 13 0] B3 = _
    rw [B258_47]
    have k59 : ∀ n, n = bI a → zgo false (d + 28) 258 59 [zr 13 0, zi x0, zi (nI dv), zi (nI p), zu, zu, zu, zu, zu, zu, zu, zu] [zi n, zi (nI s), zr 13 0] B3 = zgo false (d + 28) 258 63 [zr 13 0, zi x0, zi (nI dv), zi (nI p), zu, zu, zu, zu, zu, zu, zu, zu] [zi (nI (oBst oU (oO oU q dv) s a (Nat.beq (q 2) 1)))] B4 := by
      intro n hn
      rw [B258_59, hn, e6, zbsome, zpu1]
    by_cases c : a = true
    · rw [if_neg (fun z => (hl.mp z) c)]
      exact k59 1 (by rw [c]; rfl)
    · rw [if_pos (hl.mpr c)]
      exact k59 0 (by unfold bI; rw [if_neg c])
  have bl := oBst_le oU (oO oU q dv) s a (Nat.beq (q 2) 1)
  by_cases h : p = 0
  · refine ⟨nI (oBst oU (oO oU q dv) s a (Nat.beq (q 2) 1)), A2, B4, ?_, ?_, zFr_trans (zFr_of fA (fun a b c z => oFc2_own z)) (zFr_of fB4 (fun a b c z => mFc2_own z))⟩
    · have e64 : zgo false (d + 27) 64 0 [zr 7 1, zi (nI (oHd s a)), zi 1, zu, zu, zu] [] A2 = some (some (zi (nI (oBst oU (oO oU q dv) s a (Nat.beq (q 2) 1)))), A2) := S64J (d + 26) s a true hs zu zu zu hR2 hF
      rw [kc, B147_35, if_pos (lp.mpr h), hx, e64, zbsome, zpu1, B147_48, B147_59]
    · rw [km, B258_63, if_pos (lp.mpr h)]
  · have z24 : zin 2 4 = true := rfl
    have c2 : (2 : Int32).toNatClampNeg = 2 := rfl
    have l1 : nI (q 2) = 1 ↔ q 2 = 1 := nI_eq (b := 1) (by omega) (by omega)
    have e57 : zgI B4 57 0 2 = nI (q 2) := hRB4.1 2 (by omega)
    have hbn : Nat.beq (q 2) 1 = false → oBst oU (oO oU q dv) s a (Nat.beq (q 2) 1) ≤ 1 := fun z => by
      rw [z]
      exact oBst_no _ _ _ _
    have ew : oW (oTm P oU) (oO oU q dv) s a = oW oU (oO oU q dv) s a := by
      funext k
      exact oW_tm hP.1 _ _ _ _ _
    obtain ⟨n2, nv⟩ := oNX_ln (oW oU (oO oU q dv) s a) (oBst oU (oO oU q dv) s a (Nat.beq (q 2) 1)) (Nat.beq (q 2) 1) bl hbn
    have ec : zgo false (d + 27) 65 0 [zr 7 1, zi (nI (oHd s a)), zu, zu] [] A2 = some (some (zi (yI (oLn oU (oO oU q dv) s a (Nat.beq (q 2) 1)))), A2) := S65J (d + 25) s a hs zu zu hR2 hF
    have eln : oLn oU (oO oU q dv) s a (Nat.beq (q 2) 1) = _ := nv.symm
    rw [eln] at ec
    have ecl : ∀ y, zgo false (d + 27) 65 0 [zr 7 1, zi (nI (oHd s a)), zu, zu] [] A2 = some (some (zi y), A2) → zgo false (d + 28) 147 0 [zr 12 0, zi x0, zi x1, zi (nI p)] [] M = some (some (zi y), A2) := fun y e => by
      rw [kc, B147_35, if_neg (mt lp.mp h), hx, e, zbsome, zpu1, B147_59]
    have ecl := ecl _ ec
    generalize hb : oBst oU (oO oU q dv) s a (Nat.beq (q 2) 1) = b at bl km nv n2 ecl hbn
    have hf0 := oW_b hH3.2.2.1 hO hQ s a
    rw [ew] at hf0
    have k93 : ∀ N : Nat, zgo false (d + 28) 258 93 [zr 13 0, zi x0, zi x1, zi (nI p), zi (nI b), zl 0, zu, zi 0, zu, zu, zu, zu] [zi (nI N)] B4 = zgo false (d + 28) 258 98 [zr 13 0, zi x0, zi x1, zi (nI p), zi (nI b), zl (yJ 0), zu, zi (nI 0), zi (nI N), zi (nI 0), zu, zu] [] B4 := fun N => by
      rw [B258_93]
      rfl
    have two : ∀ N : Nat, 2 ≤ N → N ≤ 3 → ∃ (B6 : zM) (v6 v10 v11 : zV), zgo false (d + 28) 258 98 [zr 13 0, zi x0, zi x1, zi (nI p), zi (nI b), zl (yJ 0), zu, zi (nI 0), zi (nI N), zi (nI 0), zu, zu] [] B4 = zgo false (d + 28) 258 98 [zr 13 0, zi x0, zi x1, zi (nI p), zi (nI b), zl (yJ (oNX (oW oU (oO oU q dv) s a) b 1 (oNX (oW oU (oO oU q dv) s a) b 0 (0, 0))).1), v6, zi (nI (oNX (oW oU (oO oU q dv) s a) b 1 (oNX (oW oU (oO oU q dv) s a) b 0 (0, 0))).2), zi (nI N), zi (nI 2), v10, v11] [] B6 ∧ zFo mFd B4 B6 ∧ mD B6 (oTm P oU) (oO oU q dv) ∧ -2000000 ≤ (oNX (oW oU (oO oU q dv) s a) b 1 (oNX (oW oU (oO oU q dv) s a) b 0 (0, 0))).1 ∧ (oNX (oW oU (oO oU q dv) s a) b 1 (oNX (oW oU (oO oU q dv) s a) b 0 (0, 0))).1 ≤ 2000000 := by
      intro N N2 N3
      obtain ⟨B5, v6, v10, v11, e7, f7, d7, g7, t7⟩ := R258s (d + 3) s b 0 N 0 a 0 x0 x1 (nI p) zu zu zu hs bl (by omega) (by omega) N3 (by omega) (by omega) hl hO hQ hH4 hM4 d6 e253
      rw [ew] at e7 g7 t7
      have hH5 : mH B5 (oTm P oU) := mH_fr hH4 f7 (fun v z => by unfold mFd at z; omega)
      have hM5 : mO B5 (oO oU q dv) := mO_fr hM4 f7 (fun v z => by unfold mFd at z; omega)
      obtain ⟨B6, w6, w10, w11, e8, f8, d8, g8, t8⟩ := R258s (d + 3) s b 1 N _ a _ x0 x1 (nI p) v6 v10 v11 hs bl (by omega) (by omega) N3 g7 t7 hl hO hQ hH5 hM5 d7 e253
      rw [ew] at e8 g8 t8
      exact ⟨B6, w6, w10, w11, e7.trans e8, zFo_trans f7 f8, d8, t8⟩
    have last : ∀ (N : Nat) (X : Int) (v6 v10 v11 v7 : zV) (f : Nat) (B6 : zM), N ≤ 3 → zFo mFd B4 B6 → mD B6 (oTm P oU) (oO oU q dv) → ∃ B7, zgo false (d + 28) 258 98 [zr 13 0, zi x0, zi x1, zi (nI p), zi (nI b), zl (yJ X), v6, zi (nI f), zi (nI N), zi (nI N), v10, v11] [] B6 = some (some (zi (yI (oW oU (oO oU q dv) s a b - X))), B7) ∧ zFo mFd B4 B7 := by
      intro N X v6 v10 v11 v7 f B6 hN f8 d8
      have hH6 : mH B6 (oTm P oU) := mH_fr hH4 f8 (fun v z => by unfold mFd at z; omega)
      have hM6 : mO B6 (oO oU q dv) := mO_fr hM4 f8 (fun v z => by unfold mFd at z; omega)
      obtain ⟨B7, e9, f9, -⟩ := S249 (d + 3) s b a hs bl hO hQ hH6 hM6 d8
      rw [ew] at e9
      refine ⟨B7, ?_, zFo_trans f8 f9⟩
      have e9 : zgo false (d + 27) 249 0 [zr 13 0, zi (nI s), zi (bI a), zi (nI b)] [] B6 = some (some (zl (yJ (oW oU (oO oU q dv) s a b))), B7) := e9
      rw [B258_98, if_pos (nI_le (by omega) (by omega)), e253, zbsome]
      show zgo false (d + 28) 258 170 _ [zi (nI s), zr 13 0] B6 = _
      rw [B258_170]
      have k182 : ∀ n, n = bI a → zgo false (d + 28) 258 182 [zr 13 0, zi x0, zi x1, zi (nI p), zi (nI b), zl (yJ X), v6, zi (nI f), zi (nI N), zi (nI N), v10, v11] [zi n, zi (nI s), zr 13 0] B6 = some (some (zi (yI (oW oU (oO oU q dv) s a b - X))), B7) := by
        intro n hn
        rw [B258_182, hn, e9, zbsome]
        show zgo false (d + 28) 258 187 _ [zl _] B7 = _
        rw [B258_187, yJ_sub, yJI]
      by_cases c : a = true
      · rw [if_neg (fun z => (hl.mp z) c)]
        exact k182 1 (by rw [c]; rfl)
      · rw [if_pos (hl.mpr c)]
        exact k182 0 (by unfold bI; rw [if_neg c])
    by_cases c : q 2 = 1
    · have eb : Nat.beq (q 2) 1 = true := by rw [c]; rfl
      rw [eb, if_pos rfl] at ecl
      obtain ⟨B6, v6, v10, v11, e8, f8, d8, t8⟩ := two 3 (by omega) (by omega)
      have hH6 : mH B6 (oTm P oU) := mH_fr hH4 f8 (fun v z => by unfold mFd at z; omega)
      have hM6 : mO B6 (oO oU q dv) := mO_fr hM4 f8 (fun v z => by unfold mFd at z; omega)
      obtain ⟨B7, w6, w10, w11, e9, f9, d9, -, -⟩ := R258s (d + 3) s b 2 3 _ a _ x0 x1 (nI p) v6 v10 v11 hs bl (by omega) (by omega) (by omega) (by omega : (oNX (oW oU (oO oU q dv) s a) b 1 (oNX (oW oU (oO oU q dv) s a) b 0 (0, 0))).2 ≤ 1) t8 hl hO hQ hH6 hM6 d8 e253
      rw [ew] at e9
      obtain ⟨B8, e10, f10⟩ := last 3 _ w6 w10 w11 zu _ B7 (by omega) (zFo_trans f8 f9) d9
      refine ⟨_, A2, B8, ecl, ?_, zFr_trans (zFr_of fA (fun a b c z => oFc2_own z)) (zFr_of (zFo_trans fB4 (zFo_mono f10 (fun a b c z => by unfold mFd at z; unfold mFc2; omega))) (fun a b c z => mFc2_own z))⟩
      rw [km, B258_63, if_neg (mt lp.mp h), if_pos z24, c2, e57, if_pos (l1.mpr c)]
      exact (k93 3).trans (e8.trans (e9.trans e10))
    · have eb : Nat.beq (q 2) 1 = false := by
        rcases (by omega : q 2 = 0) with e
        rw [e]
        rfl
      rw [eb, if_neg (fun z => by cases z)] at ecl
      obtain ⟨B6, v6, v10, v11, e8, f8, d8, t8⟩ := two 2 (by omega) (by omega)
      obtain ⟨B8, e10, f10⟩ := last 2 _ v6 v10 v11 zu _ B6 (by omega) f8 d8
      refine ⟨_, A2, B8, ecl, ?_, zFr_trans (zFr_of fA (fun a b c z => oFc2_own z)) (zFr_of (zFo_trans fB4 (zFo_mono f10 (fun a b c z => by unfold mFd at z; unfold mFc2; omega))) (fun a b c z => mFc2_own z))⟩
      rw [km, B258_63, if_neg (mt lp.mp h), if_pos z24, c2, e57, if_neg (mt l1.mp c)]
      exact (k93 2).trans (e8.trans e10)
