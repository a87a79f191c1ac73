/-! ===== 'ruled' ===== -/
def oQf (w : Nat) : Nat := if w = 0 then 0 else if w = 1 then 150 else if w = 2 then 1 else 17
def oQr (q : Nat → Nat) (w v : Nat) : Nat := if v = w then oQf w else q v
theorem oQr_b {q : Nat → Nat} {w : Nat} (hw : w < 4) (hq : q 0 ≤ 1 ∧ 100 ≤ q 1 ∧ q 1 ≤ 200 ∧ q 2 ≤ 1 ∧ 15 ≤ q 3 ∧ q 3 ≤ 19) : oQr q w 0 ≤ 1 ∧ 100 ≤ oQr q w 1 ∧ oQr q w 1 ≤ 200 ∧ oQr q w 2 ≤ 1 ∧ 15 ≤ oQr q w 3 ∧ oQr q w 3 ≤ 19 := by
  rcases (by omega : w = 0 ∨ w = 1 ∨ w = 2 ∨ w = 3) with rfl | rfl | rfl | rfl
  · exact ⟨(by decide : oQf 0 ≤ 1), hq.2⟩
  · exact ⟨hq.1, (by decide : 100 ≤ oQf 1), (by decide : oQf 1 ≤ 200), hq.2.2.2⟩
  · exact ⟨hq.1, hq.2.1, hq.2.2.1, (by decide : oQf 2 ≤ 1), hq.2.2.2.2⟩
  · exact ⟨hq.1, hq.2.1, hq.2.2.1, hq.2.2.2.1, (by decide : 15 ≤ oQf 3), (by decide : oQf 3 ≤ 19)⟩
theorem S176n (b : Bool) (d w : Nat) (hw : w < 4) (M : zM) : zgo b d 176 0 [zi (nI w)] [] M = some (some (zi (nI (oQf w))), M) := by
  rcases (by omega : w = 0 ∨ w = 1 ∨ w = 2 ∨ w = 3) with rfl | rfl | rfl | rfl
  · rw [B176_0, B176_31, B176_31, B176_31, B176_31]
    rfl
  · rw [B176_0, B176_31, B176_31, B176_31, B176_31]
    rfl
  · rw [B176_0, B176_31, B176_31, B176_31, B176_31]
    rfl
  · rw [B176_0, B176_31, B176_31, B176_31, B176_31]
    rfl
theorem S259n (d w : Nat) (hw : w < 4) (M : zM) : zgo false d 259 0 [zi (nI w)] [] M = some (some (zi (nI (oQf w))), M) := by
  rcases (by omega : w = 0 ∨ w = 1 ∨ w = 2 ∨ w = 3) with rfl | rfl | rfl | rfl
  · rw [B259_0, B259_30, B259_30, B259_30, B259_30]
    rfl
  · rw [B259_0, B259_30, B259_30, B259_30, B259_30]
    rfl
  · rw [B259_0, B259_30, B259_30, B259_30, B259_30]
    rfl
  · rw [B259_0, B259_30, B259_30, B259_30, B259_30]
    rfl
/-- what is set for a while and set again as it was -/
theorem zFo_back {P : Nat → Nat → Nat → Prop} {M M1 M2 M3 : zM} {k i s : Nat} {y : Int32} (f1 : zFo P M M1) (f2 : zFo P (zsI M1 k i s y) M2) (h : zsI M2 k i s (zgI M k i s) = M3) : zFo P M M3 := by
  subst h
  intro a b c hp
  obtain ⟨e1, e2, e3⟩ := f2 a b c hp
  obtain ⟨g1, g2, g3⟩ := f1 a b c hp
  refine ⟨?_, ?_, ?_⟩
  · rw [zgI_sI]
    by_cases z : a = k ∧ b = i ∧ c = s
    · rw [if_pos z, z.1, z.2.1, z.2.2]
    · rw [if_neg z, e1, zgI_sI, if_neg z, g1]
  · exact e2.trans g2
  · exact e3.trans g3
/-- 'ruled' -/
theorem Q18 (d : Nat) (x0 : Int32) (M : zM) (hS : yShoe 0 M M) (hR : Rrul M) (hA : RafJ M) : ∃ (y : Int32) (M1 M2 : zM), zgo false (d + 28) 148 0 [zr 12 0, zi x0, zu, zu, zu] [] M = some (some (zi y), M1) ∧ zgo false (d + 28) 260 0 [zr 13 0, zi x0, zu, zu, zu, zu, zu] [] M1 = some (some (zi y), M2) ∧ zFr (zo 12) M M2 := by
  by_cases ok : 0 ≤ x0 ∧ x0 ≤ 3
  case neg =>
    refine ⟨-2000000000, M, M, ?_, ?_, zFr_refl _ M⟩
    · have k := B148_16 (d + 28) x0 zu zu zu M
      rw [B148_0]
      by_cases c1 : x0 < 0
      · rw [if_pos c1, k]
      · have c3 : 4 ≤ x0 := by grind
        rw [if_neg c1, if_pos c3, k]
    · simp +decide only [B260_0, B260_6, S_in, ok, zbsome, zpu1, zpu0, cond_true, cond_false, zib0, zib1, zib_ite, zq00, zq20, zq22, zq90, zq99, zq40, zq44, zq100, zq1010, Bool.and_true, if_true, if_false, z1ne0, not_true_eq_false, not_false_eq_true, zite10, eq_self, and_true, true_and, and_false, false_and, ↓reduceIte, Int32.reduceLT, Int32.reduceLE, Int32.reduceAdd, Int32.reduceSub, Int32.reduceMul]
  obtain ⟨w, hw, rfl⟩ := zin_of (zin4.mpr ⟨by grind, by grind⟩ : zin x0 4 = true)
  have cw : (nI w).toNatClampNeg = w := nI_clamp (by omega)
  have zw : zin (nI w) 4 = true := zin_nI (by omega) (by omega)
  obtain ⟨P, C, g, sn, hn⟩ := yShoe_num hS
  obtain ⟨q, hq, hq2⟩ := Rrul_q hR
  have hP := hn.1.1
  have hq3 := oQr_b (w := w) hw hq2
  obtain ⟨A1, e1, f1, a1, a2, a3, a4⟩ := S185 (d + 23) zu hA ⟨fun w hw => (hq w hw).1, hq2⟩
  obtain ⟨A2, e2, f2⟩ := S66J (d + 22) zu zu zu a1 a2 a3 a4
  have fA : zFo oFc2 M A2 := zFo_trans (zFo_mono f1 (fun a b c z => by unfold oFc2; omega)) (zFo_mono f2 (fun a b c z => by unfold oFgJ at z; unfold oFc2; omega))
  have r2 : ∀ v, v < 4 → zgI A2 29 0 v = nI (q v) := fun v hv => ((fA 29 0 v (by unfold oFc2; omega)).1).trans (hq v hv).1
  have hA2 : RafJ A2 := Raf_frJ a1 f2 (fun v z => by unfold oFgJ at z; omega)
  have hA3 : RafJ (zsI A2 29 0 w (nI (oQf w))) := hA2
  obtain ⟨A4, e4, f4, b1, b2, b3, b4⟩ := S185 (d + 23) zu (A := zsI A2 29 0 w (nI (oQf w))) (q := oQr q w) hA3 ⟨fun v hv => by
    rw [zgI_sI]
    unfold oQr
    by_cases z : v = w
    · rw [if_pos ⟨rfl, rfl, z⟩, if_pos z]
    · rw [if_neg (fun y => z y.2.2), if_neg z, r2 v hv], hq3⟩
  obtain ⟨A5, hA5⟩ : ∃ A5, A5 = zsI A4 29 0 w (zgI M 29 0 w) := ⟨_, rfl⟩
  have ew : zgI M 29 0 w = nI (q w) := (hq w hw).1
  have fA5 : zFo oFc2 M A5 := zFo_back fA (zFo_mono f4 (fun a b c z => by unfold oFc2; omega)) hA5.symm
  obtain ⟨A6, e6, f6⟩ := S66J (d + 22) zu zu zu (A := A5) (o := oU) (q := oQr q w) (by rw [hA5]; exact b1) (by rw [hA5]; exact b2) (by rw [hA5]; exact b3) (by rw [hA5]; exact b4)
  have fA6 : zFo oFc2 M A6 := zFo_trans fA5 (zFo_mono f6 (fun a b c z => by unfold oFgJ at z; unfold oFc2; omega))
  obtain ⟨B1, g1, h1, m1⟩ := S239 (d + 26) P zu hP (((fA6 13 0 1 (by unfold oFc2; omega)).1).trans hn.2.1.2)
  have hR1 : mR B1 q := ⟨fun w hw => by
    rw [(h1 57 0 w (by omega)).1, (fA6 57 0 w (by unfold oFc2; omega)).1]
    exact (hq w hw).2, hq2⟩
  obtain ⟨B2, g2, h2⟩ := S256 (d + 1) zu zu zu zu zu zu zu zu zu m1 hR1
  have fB2 : zFo mFc2 A6 B2 := zFo_trans (zFo_mono h1 (fun a b c z => by unfold mFc2; omega)) (zFo_mono h2 (fun a b c z => by unfold mFw at z; unfold mFc2; omega))
  have hR2 : mR B2 q := mR_fr hR1 h2 (fun v z => by unfold mFw at z; omega)
  have m2 : mH B2 (oTm P oU) := mH_fr m1 h2 (fun v z => by unfold mFw at z; omega)
  have hR3 : mR (zsI B2 57 0 w (nI (oQf w))) (oQr q w) := ⟨fun v hv => by
    rw [zgI_sI]
    unfold oQr
    by_cases z : v = w
    · rw [if_pos ⟨rfl, rfl, z⟩, if_pos z]
    · rw [if_neg (fun y => z y.2.2), if_neg z, hR2.1 v hv], hq3⟩
  have m3 : mH (zsI B2 57 0 w (nI (oQf w))) (oTm P oU) := m2
  obtain ⟨B4, g4, h4⟩ := S256 (d + 1) zu zu zu zu zu zu zu zu zu m3 hR3
  have ew2 : zgI B2 57 0 w = zgI A6 57 0 w := (fB2 57 0 w (by unfold mFc2; omega)).1
  obtain ⟨B5, hB5⟩ : ∃ B5, B5 = zsI B4 57 0 w (zgI A6 57 0 w) := ⟨_, rfl⟩
  have fB5 : zFo mFc2 A6 B5 := zFo_back fB2 (zFo_mono h4 (fun a b c z => by unfold mFw at z; unfold mFc2; omega)) hB5.symm
  rw [oWh_tm hP.1] at g2 g4
  have e1 : zgo false (d + 27) 185 0 [zr 12 0, zu] [] M = some (some (zi 1), A1) := e1
  have e2 : zgo false (d + 27) 66 0 [zr 7 1, zu, zu, zu] [] A1 = some (some (zi (yI (oWh oU q))), A2) := e2
  have e4 : zgo false (d + 27) 185 0 [zr 12 0, zu] [] (zsI A2 29 0 w (nI (oQf w))) = some (some (zi 1), A4) := e4
  have e6 : zgo false (d + 27) 66 0 [zr 7 1, zu, zu, zu] [] A5 = some (some (zi (yI (oWh oU (oQr q w)))), A6) := e6
  have g1 : zgo false (d + 27) 239 0 [zr 13 0, zu] [] A6 = some (none, B1) := g1
  have g2 : zgo false (d + 27) 256 0 [zr 13 0, zu, zu, zu, zu, zu, zu, zu, zu, zu] [] B1 = some (some (zl (yJ (oWh oU q))), B2) := g2
  have g4 : zgo false (d + 27) 256 0 [zr 13 0, zu, zu, zu, zu, zu, zu, zu, zu, zu] [] (zsI B2 57 0 w (nI (oQf w))) = some (some (zl (yJ (oWh oU (oQr q w)))), B4) := g4
  refine ⟨yI (oWh oU q - oWh oU (oQr q w)), A6, B5, ?_, ?_, zFr_trans (zFr_of fA6 (fun a b c z => oFc2_own z)) (zFr_of fB5 (fun a b c z => mFc2_own z))⟩
  · rw [B148_0, if_neg (z_le_nlt ok.1), if_neg (show ¬ 4 ≤ nI w by
      have := ok.2
      grind), e1, zbsome, zpu1, B148_13, if_neg (by decide), e2, zbsome, zpu1, B148_26, at29n _ _ _ _ _ hw, zbsome, zpu1, B148_38, S176n _ _ _ hw, zbsome]
    show zgo false (d + 28) 148 51 _ [zi (nI (oQf w)), zi (nI w), zr 29 0] A2 = _
    rw [B148_51, se29n _ _ _ _ _ _ hw, zbsome, zpu0, B148_54, e4, zbsome, zpu1, B148_58, se29n _ _ _ _ _ _ hw, zbsome, zpu0, r2 w hw, ← ew, ← hA5, B148_72, if_neg (by decide), e6, zbsome]
    show zgo false (d + 28) 148 85 _ [zi (yI (oWh oU (oQr q w))), zi (yI (oWh oU q))] A6 = _
    rw [B148_85, B148_91, yI_sub]
  · have k16 : zgo false (d + 28) 260 0 [zr 13 0, zi (nI w), zu, zu, zu, zu, zu] [] A6 = zgo false (d + 28) 260 16 [zr 13 0, zi (nI w), zu, zu, zu, zu, zu] [] B1 := by
      have c3 : 0 ≤ nI w ∧ nI w ≤ 3 := ok
      simp +decide only [B260_0, B260_6, S_in, c3, g1, zbsome, zpu1, zpu0, cond_true, cond_false, zib0, zib1, zib_ite, zq00, zq20, zq22, zq90, zq99, zq40, zq44, zq100, zq1010, Bool.and_true, if_true, if_false, z1ne0, not_true_eq_false, not_false_eq_true, zite10, eq_self, and_true, true_and, and_false, false_and, ↓reduceIte, Int32.reduceLT, Int32.reduceLE, Int32.reduceAdd, Int32.reduceSub, Int32.reduceMul]
    rw [k16, B260_16, g2, zbsome]
    show zgo false (d + 28) 260 20 _ [zl _] B2 = _
    rw [B260_20, if_pos zw, S259n _ _ hw, zbsome, cw, ew2]
    show zgo false (d + 28) 260 38 _ [zi (nI (oQf w)), zi (nI w), zr 57 0] B2 = _
    rw [B260_38, if_pos zw, cw, g4, zbsome]
    show zgo false (d + 28) 260 43 _ [zl _] B4 = _
    rw [B260_43, if_pos zw, cw, ← hB5, yJ_sub, yJI]
