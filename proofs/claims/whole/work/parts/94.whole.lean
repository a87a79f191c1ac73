/-! ===== 'whole', 'ends' ===== -/
def oFc2 (a b _c : Nat) : Prop := (a = 52 ∧ b = 0) ∨ (b = 1 ∧ (a = 33 ∨ a = 34 ∨ a = 36 ∨ a = 7 ∨ (37 ≤ a ∧ a ≤ 42)))
def mFc2 (a b _c : Nat) : Prop := b = 0 ∧ 76 ≤ a ∧ a ≤ 82
theorem oFc2_own {a b c : Nat} (h : oFc2 a b c) : zo 12 (zown a b c) = true := by
  rcases h with ⟨rfl, rfl⟩ | ⟨rfl, rfl | rfl | rfl | rfl | h⟩
  · rfl
  · rfl
  · rfl
  · rfl
  · rfl
  · rcases (by omega : a = 37 ∨ a = 38 ∨ a = 39 ∨ a = 40 ∨ a = 41 ∨ a = 42) with rfl | rfl | rfl | rfl | rfl | rfl <;> rfl
theorem mFc2_own {a b c : Nat} (h : mFc2 a b c) : zo 12 (zown a b c) = true := by
  obtain ⟨rfl, h⟩ := h
  rcases (by omega : a = 76 ∨ a = 77 ∨ a = 78 ∨ a = 79 ∨ a = 80 ∨ a = 81 ∨ a = 82) with rfl | rfl | rfl | rfl | rfl | rfl | rfl <;> rfl
theorem yNum_B {A M M1 : zM} {P C g : Nat} {sn : Nat → Nat} (h : yNum 0 A M P C g sn) (f : zFo oFc2 M M1) : yNum 0 A M1 P C g sn := yNum_fr h (fun _ _ _ => rfl) (fun _ _ => rfl) (fun s _ _ _ => (f 13 0 s (by unfold oFc2; omega)).1) (fun s _ => (f 56 0 s (by unfold oFc2; omega)).1)
theorem yShoe_num {M : zM} (h : yShoe 0 M M) : ∃ (P C g : Nat) (sn : Nat → Nat), yNum 0 M M P C g sn := by
  obtain ⟨P, C, g, sn, h, -⟩ := h
  exact ⟨P, C, g, sn, h⟩
/-- 'whole' -/
theorem Q16 (d : Nat) (M : zM) (hS : yShoe 0 M M) (hR : Rrul M) (hA : RafJ M) : ∃ (y : Int32) (M1 M2 : zM), zgo false (d + 28) 146 0 [zr 12 0] [] M = some (some (zi y), M1) ∧ zgo false (d + 28) 257 0 [zr 13 0] [] M1 = some (some (zi y), M2) ∧ zFr (zo 12) M M2 := by
  obtain ⟨P, C, g, sn, hn⟩ := yShoe_num hS
  obtain ⟨q, hq, hq2⟩ := Rrul_q hR
  obtain ⟨A1, e1, f1, a1, a2, a3, a4⟩ := S184 (d + 23) hn hA ⟨fun w hw => (hq w hw).1, hq2⟩
  obtain ⟨A2, e2, f2⟩ := S66J (d + 22) zu zu zu a1 a2 a3 a4
  have fA : zFo oFc2 M A2 := zFo_trans (zFo_mono f1 (fun a b c z => by unfold oFc2; omega)) (zFo_mono f2 (fun a b c z => by unfold oFgJ at z; unfold oFc2; omega))
  obtain ⟨B1, e3, f3, b1⟩ := S238 (d + 25) zu (yNum_B hn fA)
  have hR1 : mR B1 q := ⟨fun w hw => by
    rw [(f3 57 0 w (by omega)).1, (fA 57 0 w (by unfold oFc2; omega)).1]
    exact (hq w hw).2, hq2⟩
  obtain ⟨B2, e4, f4⟩ := S256 (d + 1) zu zu zu zu zu zu zu zu zu b1 hR1
  have fB : zFo mFc2 A2 B2 := zFo_trans (zFo_mono f3 (fun a b c z => by unfold mFc2; omega)) (zFo_mono f4 (fun a b c z => by unfold mFw at z; unfold mFc2; omega))
  refine ⟨yI (oWh (yLf P sn) q), A2, B2, ?_, ?_, zFr_trans (zFr_of fA (fun a b c z => oFc2_own z)) (zFr_of fB (fun a b c z => mFc2_own z))⟩
  · have e1 : zgo false (d + 27) 184 0 [zr 12 0] [] M = some (some (zi 1), A1) := e1
    have e2 : zgo false (d + 27) 66 0 [zr 7 1, zu, zu, zu] [] A1 = some (some (zi (yI (oWh (yLf P sn) q))), A2) := e2
    rw [B146_0, e1, zbsome, zpu1, B146_4, if_neg (by decide), e2, zbsome, zpu1, B146_14, B146_19]
  · have e3 : zgo false (d + 27) 238 0 [zr 13 0, zu] [] A2 = some (none, B1) := e3
    have e4 : zgo false (d + 27) 256 0 [zr 13 0, zu, zu, zu, zu, zu, zu, zu, zu, zu] [] B1 = some (some (zl (yJ (oWh (yLf P sn) q))), B2) := e4
    have z0 : zin 0 11 = true := rfl
    have n0 : ¬ zgI B1 76 0 (0 : Int32).toNatClampNeg = 0 := by
      have e0 : zgI B1 76 0 (0 : Int32).toNatClampNeg = nI (ysm (yLf P sn)) := b1.2.1
      rw [e0]
      exact nI_ne0 b1.2.2.1 (by have := b1.2.2.2; omega)
    rw [B257_0, e3, zbsome, zpu0, B257_4, if_pos z0, if_neg n0, e4, zbsome]
    show zgo false (d + 28) 257 22 _ [zl _] B2 = _
    rw [B257_22, B257_23, yJI]
/-- 'ends' -/
theorem Q13 (d : Nat) (x0 x1 : Int32) (M : zM) (hS : yShoe 0 M M) (hR : Rrul M) (hA : RafJ M) : ∃ (y : Int32) (M1 M2 : zM), zgo false (d + 28) 143 0 [zr 12 0, zi x0, zi x1] [] M = some (some (zi y), M1) ∧ zgo false (d + 28) 251 0 [zr 13 0, zi x0, zi x1] [] M1 = some (some (zi y), M2) ∧ zFr (zo 12) M M2 := by
  by_cases ok : (1 ≤ x0 ∧ x0 ≤ 10) ∧ 15 ≤ x1 ∧ x1 ≤ 23
  case neg =>
    refine ⟨-1, M, M, ?_, ?_, zFr_refl _ M⟩
    · have k := B143_23 (d + 28) x0 x1 M
      rw [B143_0]
      by_cases c1 : x0 < 1
      · rw [if_pos c1, k]
      by_cases c2 : 10 < x0
      · rw [if_neg c1, if_pos c2, k]
      by_cases c3 : x1 < 15
      · rw [if_neg c1, if_neg c2, if_pos c3, k]
      · have c4 : ¬ x1 ≤ 23 := by grind
        rw [if_neg c1, if_neg c2, if_neg c3, if_neg c4, k]
    · by_cases c1 : 1 ≤ x0 ∧ x0 ≤ 10
      · have c2 : ¬ (15 ≤ x1 ∧ x1 ≤ 23) := by grind
        simp +decide only [B251_0, B251_7, B251_18, B251_21, S_in, c1, c2, zbsome, zpu1, zpu0, cond_true, cond_false, zib0, zib1, zib_ite, zq00, zq20, zq22, zq90, zq99, zq40, zq44, zq100, zq1010, Bool.and_true, if_true, if_false, z1ne0, not_true_eq_false, not_false_eq_true, zite10, eq_self, and_true, true_and, and_false, false_and, ↓reduceIte, Int32.reduceLT, Int32.reduceLE, Int32.reduceAdd, Int32.reduceSub, Int32.reduceMul]
      · simp +decide only [B251_0, B251_7, B251_21, S_in, c1, zbsome, zpu1, zpu0, cond_true, cond_false, zib0, zib1, zib_ite, zq00, zq20, zq22, zq90, zq99, zq40, zq44, zq100, zq1010, Bool.and_true, if_true, if_false, z1ne0, not_true_eq_false, not_false_eq_true, zite10, eq_self, and_true, true_and, and_false, false_and, ↓reduceIte, Int32.reduceLT, Int32.reduceLE, Int32.reduceAdd, Int32.reduceSub, Int32.reduceMul]
  obtain ⟨dv, hdv, rfl⟩ := zin_of (zin11.mpr ⟨by grind, by grind⟩ : zin x0 11 = true)
  obtain ⟨t, ht, rfl⟩ := zin_of (zin24.mpr ⟨by grind, by grind⟩ : zin x1 24 = true)
  have hd : 1 ≤ dv ∧ dv ≤ 10 := by
    have h := ok.1.1
    rw [show (1 : Int32) = nI 1 from rfl, nI_leI (by omega) (by omega)] at h
    omega
  have ht15 : 15 ≤ t := by
    have h := ok.2.1
    rw [show (15 : Int32) = nI 15 from rfl, nI_leI (by omega) (by omega)] at h
    exact h
  have e15 : nI t - 15 = nI (t - 15) := by rw [show (15 : Int32) = nI 15 from rfl, pk_sub ht15]
  obtain ⟨P, C, g, sn, hn⟩ := yShoe_num hS
  obtain ⟨q, hq, hq2⟩ := Rrul_q hR
  obtain ⟨A1, e1, f1, a1, a2, a3, a4⟩ := S184 (d + 23) hn hA ⟨fun w hw => (hq w hw).1, hq2⟩
  obtain ⟨A2, e2, f2, o1, -, -⟩ := S61J (d + 24) dv hd zu zu a1 a2 a3 a4
  have fA : zFo oFc2 M A2 := zFo_trans (zFo_mono f1 (fun a b c z => by unfold oFc2; omega)) (zFo_mono f2 (fun a b c z => by unfold oFfJ at z; unfold oFc2; omega))
  obtain ⟨B1, e3, f3, b1⟩ := S238 (d + 25) zu (yNum_B hn fA)
  have hR1 : mR B1 q := ⟨fun w hw => by
    rw [(f3 57 0 w (by omega)).1, (fA 57 0 w (by unfold oFc2; omega)).1]
    exact (hq w hw).2, hq2⟩
  obtain ⟨B2, e4, f4, m4⟩ := S244 (d + 27) zu (yLf P sn) q B1
  obtain ⟨B3, e5, f5, -, m5, -⟩ := S245 (d + 3) dv hd zu zu zu zu zu (mH_fr b1 f4 (fun v z => by cases z.1)) (mR_fr hR1 f4 (fun v z => by cases z.1)) m4
  have fB : zFo mFc2 A2 B3 := zFo_trans (zFo_mono f3 (fun a b c z => by unfold mFc2; omega)) (zFo_trans (zFo_mono f4 (fun a b c z => by unfold mFc2; omega)) (zFo_mono f5 (fun a b c z => by unfold mFo at z; unfold mFc2; omega)))
  refine ⟨yI (oO (yLf P sn) q dv (t - 15)), A2, B3, ?_, ?_, zFr_trans (zFr_of fA (fun a b c z => oFc2_own z)) (zFr_of fB (fun a b c z => mFc2_own z))⟩
  · have e1 : zgo false (d + 27) 184 0 [zr 12 0] [] M = some (some (zi 1), A1) := e1
    have e2 : zgo false (d + 27) 61 0 [zr 7 1, zi (nI dv), zu, zu] [] A1 = some (none, A2) := e2
    have e62 : zgo false (d + 27) 62 0 [zr 7 1, zi (nI t)] [] A2 = some (some (zi (yI (oO (yLf P sn) q dv (t - 15)))), A2) := by
      rw [B62_0, e15, at37n _ _ _ _ _ (by omega), o1 (t - 15) (by omega), zbsome, zpu1, B62_11]
    rw [B143_0, if_neg (z_le_nlt ok.1.1), if_neg (z_le_nlt ok.1.2), if_neg (z_le_nlt ok.2.1), if_pos ok.2.2, e1, zbsome, zpu1, B143_29, if_neg (by decide), e2, zbsome, zpu0, B143_43, e62, zbsome, zpu1, B143_51]
  · have e3 : zgo false (d + 27) 238 0 [zr 13 0, zu] [] A2 = some (none, B1) := e3
    have e5 : zgo false (d + 27) 245 0 [zr 13 0, zi (nI dv), zu, zu, zu, zu, zu] [] B2 = some (none, B3) := e5
    have z0 : zin 0 11 = true := rfl
    have n0 : ¬ zgI B1 76 0 (0 : Int32).toNatClampNeg = 0 := by
      have e0 : zgI B1 76 0 (0 : Int32).toNatClampNeg = nI (ysm (yLf P sn)) := b1.2.1
      rw [e0]
      exact nI_ne0 b1.2.2.1 (by have := b1.2.2.2; omega)
    have z9 : zin (nI (t - 15)) 9 = true := zin_nI (by omega) (by omega)
    have c9 : (nI (t - 15)).toNatClampNeg = t - 15 := nI_clamp (by omega)
    have k27 : zgo false (d + 28) 251 0 [zr 13 0, zi (nI dv), zi (nI t)] [] A2 = zgo false (d + 28) 251 27 [zr 13 0, zi (nI dv), zi (nI t)] [] B1 := by
      simp +decide only [B251_0, B251_7, B251_18, S_in, ok, e3, zbsome, zpu1, zpu0, cond_true, cond_false, zib0, zib1, zib_ite, zq00, zq20, zq22, zq90, zq99, zq40, zq44, zq100, zq1010, Bool.and_true, if_true, if_false, z1ne0, not_true_eq_false, not_false_eq_true, zite10, eq_self, and_true, true_and, and_false, false_and, ↓reduceIte, Int32.reduceLT, Int32.reduceLE, Int32.reduceAdd, Int32.reduceSub, Int32.reduceMul]
    rw [k27, B251_27, if_pos z0, if_neg n0, e4, zbsome, zpu0, B251_43, e5, zbsome, zpu0, B251_48, e15, if_pos z9, c9, m5 (t - 15) (by omega), yJI]
