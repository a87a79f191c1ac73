/-! ===== rules told, purses told ===== -/
def Rrul (M : zM) : Prop := ∀ w, w < 4 → zgI M 29 0 w = zgI M 57 0 w ∧ zrl w (zgI M 57 0 w)
theorem Rrul_fr {m : Nat → Bool} {M M' : zM} (h : zFr m M M') (hm : m 2 = false) (hm' : m 22 = false) (hR : Rrul M) : Rrul M' := by
  intro w hw
  rw [(h 29 0 w hm).1, (h 57 0 w hm').1]
  exact hR w hw
theorem S174 (b : Bool) (d : Nat) (x : Int32) (M : zM) : zgo b d 174 0 [zi x] [] M = some (some (zi (if x = 1 then 100 else if x = 3 then 15 else 0)), M) := by
  simp only [B174_0, B174_21, zite_v]
theorem S175 (b : Bool) (d : Nat) (x : Int32) (M : zM) : zgo b d 175 0 [zi x] [] M = some (some (zi (if x = 1 then 200 else if x = 3 then 19 else 1)), M) := by
  simp only [B175_0, B175_22, zite_v]
theorem P2 (d w : Nat) (x2 lo hi : Int32) (u : zV) (M : zM) (hc : Rch M) (hr : Rrul M) (hw : w < 4) (h1 : ∀ d M, zgo false d 174 0 [zi (nI w)] [] M = some (some (zi lo), M)) (h2 : ∀ d M, zgo false d 175 0 [zi (nI w)] [] M = some (some (zi hi), M)) (h3 : ∀ d v M, zgo false (d + 1) 207 0 [zi (nI w), zi v] [] M = some (some (zi (if lo ≤ v ∧ v ≤ hi then 1 else 0)), M)) (hrl : ∀ v, lo ≤ v ∧ v ≤ hi → zrl w v) : ∃ (y : Int32) (M1 M2 : zM), zgo false (d + 3) 132 0 [zr 12 0, zi (nI w), zi x2, u] [] M = some (some (zi y), M1) ∧ zgo false (d + 3) 208 0 [zr 13 0, zi (nI w), zi x2] [] M1 = some (some (zi y), M2) ∧ zFr (zo2 2 3) M M2 ∧ Rch M2 ∧ Rrul M2 := by
  have z : zin (nI w) 4 = true := zin_nI hw (by omega)
  have cw : (nI w).toNatClampNeg = w := nI_clamp (by omega)
  have a1 : ¬ nI w < 0 := nI_pos (by omega)
  have a2 : ¬ (4 : Int32) ≤ nI w := nI_ge (a := w) (b := 4) (by omega) (by omega)
  obtain ⟨r1, r2⟩ := hr w hw
  by_cases ok : lo ≤ x2 ∧ x2 ≤ hi
  case neg =>
    refine ⟨-1, M, M, ?_, ?_, zFr_refl _ M, hc, hr⟩
    · by_cases c : x2 < lo
      · simp +decide only [B132_0, B132_14, B132_22, B132_25, B132_38, B132_54, B132_66, h1, h2, a1, a2, c, zbsome, zpu1, zpu0, cond_true, cond_false, zib0, zib1, zib_ite, zq00, zq20, zq22, zq90, zq99, zq40, zq44, zq100, zq1010, Bool.and_true, if_true, if_false, z1ne0, not_true_eq_false, not_false_eq_true, zite10, eq_self, and_true, true_and, and_false, false_and, ↓reduceIte, Int32.reduceLT, Int32.reduceLE, Int32.reduceAdd, Int32.reduceSub, Int32.reduceMul]
      · have c2 : ¬ x2 ≤ hi := fun q => ok ⟨z_nlt_le c, q⟩
        simp +decide only [B132_0, B132_14, B132_22, B132_25, B132_38, B132_54, B132_66, h1, h2, a1, a2, c, c2, zbsome, zpu1, zpu0, cond_true, cond_false, zib0, zib1, zib_ite, zq00, zq20, zq22, zq90, zq99, zq40, zq44, zq100, zq1010, Bool.and_true, if_true, if_false, z1ne0, not_true_eq_false, not_false_eq_true, zite10, eq_self, and_true, true_and, and_false, false_and, ↓reduceIte, Int32.reduceLT, Int32.reduceLE, Int32.reduceAdd, Int32.reduceSub, Int32.reduceMul]
    · simp +decide only [B208_0, B208_5, B208_15, B208_19, h3, ok, zbsome, zpu1, zpu0, cond_true, cond_false, zib0, zib1, zib_ite, zq00, zq20, zq22, zq90, zq99, zq40, zq44, zq100, zq1010, Bool.and_true, if_true, if_false, z1ne0, not_true_eq_false, not_false_eq_true, zite10, eq_self, and_true, true_and, and_false, false_and, ↓reduceIte, Int32.reduceLT, Int32.reduceLE, Int32.reduceAdd, Int32.reduceSub, Int32.reduceMul]
  have b1 : ¬ x2 < lo := z_le_nlt ok.1
  have b2 := ok.2
  have hT : zokT 0 (nI w) := ⟨fun _ => z, fun q => absurd rfl q⟩
  have hcur : zcur M 0 (nI w) = zgI M 57 0 w := by
    unfold zcur
    rw [if_pos rfl, cw]
  by_cases same : x2 = zgI M 57 0 w
  · subst same
    have e1 := S_chg_eq (d + 2) 0 (nI w) (zgI M 57 0 w) zu zu (zsI M 29 0 w (zgI M 57 0 w)) hT hcur
    refine ⟨zgI M 57 0 w, zsI M 29 0 w (zgI M 57 0 w), zsI M 29 0 w (zgI M 57 0 w), ?_, ?_, zFr_sI (zFr_refl _ M) rfl, ?_, ?_⟩
    · simp +decide only [B132_0, B132_14, B132_22, B132_25, B132_38, B132_54, B132_66, h1, h2, a1, a2, b1, b2, at29n _ _ _ _ _ hw, se29n _ _ _ _ _ _ hw, r1, zbsome, zpu1, zpu0, cond_true, cond_false, zib0, zib1, zib_ite, zq00, zq20, zq22, zq90, zq99, zq40, zq44, zq100, zq1010, Bool.and_true, if_true, if_false, z1ne0, not_true_eq_false, not_false_eq_true, zite10, eq_self, and_true, true_and, and_false, false_and, ↓reduceIte, Int32.reduceLT, Int32.reduceLE, Int32.reduceAdd, Int32.reduceSub, Int32.reduceMul]
    · simp +decide only [B208_0, B208_5, B208_15, B208_19, h3, ok, e1, zbsome, zpu1, zpu0, cond_true, cond_false, zib0, zib1, zib_ite, zq00, zq20, zq22, zq90, zq99, zq40, zq44, zq100, zq1010, Bool.and_true, if_true, if_false, z1ne0, not_true_eq_false, not_false_eq_true, zite10, eq_self, and_true, true_and, and_false, false_and, ↓reduceIte, Int32.reduceLT, Int32.reduceLE, Int32.reduceAdd, Int32.reduceSub, Int32.reduceMul]
    · refine Rch_fr (m := zo 2) (zFr_sI (zFr_refl _ M) rfl) rfl rfl ?_ hc
      exact Int.le_refl _
    · intro w' hw'
      have := hr w' hw'
      grind [zgI_sI]
  · obtain ⟨n, u', q1, q2, q3, q4, q5, q6⟩ := hc
    have hent : zentv (zgI M 13 0 31) (nI w) (zcur M 0 (nI w)) x2 0 (nI w) (zcur M 0 (nI w)) x2 := ⟨rfl, rfl, Or.inl ⟨rfl, w, hw, rfl, rfl, by rw [hcur]; exact r2, hrl _ ok⟩⟩
    obtain ⟨M1, M2, e1, e2, hM, f, f0⟩ := P_chg d n u' 29 0 w 0 (nI w) (nI w) x2 M ⟨by decide, by decide⟩ ⟨by decide, by decide, by decide, by decide⟩ q1 q2 q3 q6 hT (by rw [hcur]; exact fun q => same q.symm) hent
    rw [hcur] at e1 e2
    have hput : zput (zsI M 29 0 w x2) 0 (nI w) x2 = zsI (zsI M 29 0 w x2) 57 0 w x2 := by
      unfold zput
      rw [if_pos rfl, cw]
    rw [hput] at f
    refine ⟨zgI M 57 0 w, zsI M1 29 0 w x2, M2, ?_, ?_, ?_, hM, ?_⟩
    · simp +decide only [B132_0, B132_14, B132_22, B132_25, B132_38, B132_54, B132_66, h1, h2, a1, a2, b1, b2, at29n _ _ _ _ _ hw, r1, same, e1, zbsome, zpu1, zpu0, cond_true, cond_false, zib0, zib1, zib_ite, zq00, zq20, zq22, zq90, zq99, zq40, zq44, zq100, zq1010, Bool.and_true, if_true, if_false, z1ne0, not_true_eq_false, not_false_eq_true, zite10, eq_self, and_true, true_and, and_false, false_and, ↓reduceIte, Int32.reduceLT, Int32.reduceLE, Int32.reduceAdd, Int32.reduceSub, Int32.reduceMul]
      simp +decide only [B132_0, B132_14, B132_22, B132_25, B132_38, B132_54, B132_66, se29n _ _ _ _ _ _ hw, zbsome, zpu1, zpu0, cond_true, cond_false, zib0, zib1, zib_ite, zq00, zq20, zq22, zq90, zq99, zq40, zq44, zq100, zq1010, Bool.and_true, if_true, if_false, z1ne0, not_true_eq_false, not_false_eq_true, zite10, eq_self, and_true, true_and, and_false, false_and, ↓reduceIte, Int32.reduceLT, Int32.reduceLE, Int32.reduceAdd, Int32.reduceSub, Int32.reduceMul]
    · simp +decide only [B208_0, B208_5, B208_15, B208_19, h3, ok, e2, zbsome, zpu1, zpu0, cond_true, cond_false, zib0, zib1, zib_ite, zq00, zq20, zq22, zq90, zq99, zq40, zq44, zq100, zq1010, Bool.and_true, if_true, if_false, z1ne0, not_true_eq_false, not_false_eq_true, zite10, eq_self, and_true, true_and, and_false, false_and, ↓reduceIte, Int32.reduceLT, Int32.reduceLE, Int32.reduceAdd, Int32.reduceSub, Int32.reduceMul]
    · refine zFr_trans (zFr_of2 rfl rfl) (zFr_mono f (fun n q => ?_))
      unfold zo2 at q
      rw [Bool.or_eq_false_iff] at q
      exact q.2
    · intro w' hw'
      have g := hr w' hw'
      rw [(f 29 0 w' rfl).1, (f 57 0 w' rfl).1]
      by_cases e : w' = w
      · subst e
        have x := hrl x2 ok
        have y1 : zgI (zsI (zsI M 29 0 w' x2) 57 0 w' x2) 29 0 w' = x2 := by grind [zgI_sI]
        have y2 : zgI (zsI (zsI M 29 0 w' x2) 57 0 w' x2) 57 0 w' = x2 := by grind [zgI_sI]
        rw [y1, y2]
        exact ⟨rfl, x⟩
      · have y1 : zgI (zsI (zsI M 29 0 w x2) 57 0 w x2) 29 0 w' = zgI M 29 0 w' := by grind [zgI_sI]
        have y2 : zgI (zsI (zsI M 29 0 w x2) 57 0 w x2) 57 0 w' = zgI M 57 0 w' := by grind [zgI_sI]
        rw [y1, y2]
        exact g
theorem Q2 (d : Nat) (x1 x2 : Int32) (u : zV) (M : zM) (hc : Rch M) (hr : Rrul M) : ∃ (y : Int32) (M1 M2 : zM), zgo false (d + 3) 132 0 [zr 12 0, zi x1, zi x2, u] [] M = some (some (zi y), M1) ∧ zgo false (d + 3) 208 0 [zr 13 0, zi x1, zi x2] [] M1 = some (some (zi y), M2) ∧ zFr (zo2 2 3) M M2 ∧ Rch M2 ∧ Rrul M2 := by
  by_cases hz : zin x1 4 = true
  case neg =>
    refine ⟨-1, M, M, ?_, ?_, zFr_refl _ M, hc, hr⟩
    · by_cases c : x1 < 0
      · simp +decide only [B132_0, B132_14, B132_22, B132_25, B132_38, B132_54, B132_66, c, zbsome, zpu1, zpu0, cond_true, cond_false, zib0, zib1, zib_ite, zq00, zq20, zq22, zq90, zq99, zq40, zq44, zq100, zq1010, Bool.and_true, if_true, if_false, z1ne0, not_true_eq_false, not_false_eq_true, zite10, eq_self, and_true, true_and, and_false, false_and, ↓reduceIte, Int32.reduceLT, Int32.reduceLE, Int32.reduceAdd, Int32.reduceSub, Int32.reduceMul]
      · have c2 : 4 ≤ x1 := by
          rw [zin4] at hz
          grind
        simp +decide only [B132_0, B132_14, B132_22, B132_25, B132_38, B132_54, B132_66, c, c2, zbsome, zpu1, zpu0, cond_true, cond_false, zib0, zib1, zib_ite, zq00, zq20, zq22, zq90, zq99, zq40, zq44, zq100, zq1010, Bool.and_true, if_true, if_false, z1ne0, not_true_eq_false, not_false_eq_true, zite10, eq_self, and_true, true_and, and_false, false_and, ↓reduceIte, Int32.reduceLT, Int32.reduceLE, Int32.reduceAdd, Int32.reduceSub, Int32.reduceMul]
    · have c0 : ¬ x1 = 0 := fun q => hz (by rw [q]; rfl)
      have c1 : ¬ x1 = 1 := fun q => hz (by rw [q]; rfl)
      have c2 : ¬ x1 = 2 := fun q => hz (by rw [q]; rfl)
      have c3 : ¬ x1 = 3 := fun q => hz (by rw [q]; rfl)
      simp +decide only [B208_0, B208_5, B208_15, B208_19, B207_0, B207_32, B207_38, B207_48, B207_57, c0, c1, c2, c3, zbsome, zpu1, zpu0, cond_true, cond_false, zib0, zib1, zib_ite, zq00, zq20, zq22, zq90, zq99, zq40, zq44, zq100, zq1010, Bool.and_true, if_true, if_false, z1ne0, not_true_eq_false, not_false_eq_true, zite10, eq_self, and_true, true_and, and_false, false_and, ↓reduceIte, Int32.reduceLT, Int32.reduceLE, Int32.reduceAdd, Int32.reduceSub, Int32.reduceMul]
  obtain ⟨w, hw, rfl⟩ := zin_of hz
  rcases (by omega : w = 0 ∨ w = 1 ∨ w = 2 ∨ w = 3) with rfl | rfl | rfl | rfl
  · refine P2 d 0 x2 0 1 u M hc hr hw (fun d M => S174 _ _ _ _) (fun d M => S175 _ _ _ _) (fun d v M => ?_) (fun v hv => ?_)
    · show zgo false (d + 1) 207 0 [zi 0, zi v] [] M = _
      simp +decide only [B207_0, B207_32, B207_38, B207_48, B207_57, S_in, zbsome, zpu1, zpu0, cond_true, cond_false, zib0, zib1, zib_ite, zq00, zq20, zq22, zq90, zq99, zq40, zq44, zq100, zq1010, Bool.and_true, if_true, if_false, z1ne0, not_true_eq_false, not_false_eq_true, zite10, eq_self, and_true, true_and, and_false, false_and, ↓reduceIte, Int32.reduceLT, Int32.reduceLE, Int32.reduceAdd, Int32.reduceSub, Int32.reduceMul]
    · rw [zI_le, zI_le] at hv
      exact ⟨fun _ => hv, fun q => absurd q (by decide), fun q => absurd q (by decide), fun q => absurd q (by decide)⟩
  · refine P2 d 1 x2 100 200 u M hc hr hw (fun d M => S174 _ _ _ _) (fun d M => S175 _ _ _ _) (fun d v M => ?_) (fun v hv => ?_)
    · show zgo false (d + 1) 207 0 [zi 1, zi v] [] M = _
      simp +decide only [B207_0, B207_32, B207_38, B207_48, B207_57, S_in, zbsome, zpu1, zpu0, cond_true, cond_false, zib0, zib1, zib_ite, zq00, zq20, zq22, zq90, zq99, zq40, zq44, zq100, zq1010, Bool.and_true, if_true, if_false, z1ne0, not_true_eq_false, not_false_eq_true, zite10, eq_self, and_true, true_and, and_false, false_and, ↓reduceIte, Int32.reduceLT, Int32.reduceLE, Int32.reduceAdd, Int32.reduceSub, Int32.reduceMul]
    · rw [zI_le, zI_le] at hv
      exact ⟨fun q => absurd q (by decide), fun _ => hv, fun q => absurd q (by decide), fun q => absurd q (by decide)⟩
  · refine P2 d 2 x2 0 1 u M hc hr hw (fun d M => S174 _ _ _ _) (fun d M => S175 _ _ _ _) (fun d v M => ?_) (fun v hv => ?_)
    · show zgo false (d + 1) 207 0 [zi 2, zi v] [] M = _
      simp +decide only [B207_0, B207_32, B207_38, B207_48, B207_57, S_in, zbsome, zpu1, zpu0, cond_true, cond_false, zib0, zib1, zib_ite, zq00, zq20, zq22, zq90, zq99, zq40, zq44, zq100, zq1010, Bool.and_true, if_true, if_false, z1ne0, not_true_eq_false, not_false_eq_true, zite10, eq_self, and_true, true_and, and_false, false_and, ↓reduceIte, Int32.reduceLT, Int32.reduceLE, Int32.reduceAdd, Int32.reduceSub, Int32.reduceMul]
    · rw [zI_le, zI_le] at hv
      exact ⟨fun q => absurd q (by decide), fun q => absurd q (by decide), fun _ => hv, fun q => absurd q (by decide)⟩
  · refine P2 d 3 x2 15 19 u M hc hr hw (fun d M => S174 _ _ _ _) (fun d M => S175 _ _ _ _) (fun d v M => ?_) (fun v hv => ?_)
    · show zgo false (d + 1) 207 0 [zi 3, zi v] [] M = _
      simp +decide only [B207_0, B207_32, B207_38, B207_48, B207_57, S_in, zbsome, zpu1, zpu0, cond_true, cond_false, zib0, zib1, zib_ite, zq00, zq20, zq22, zq90, zq99, zq40, zq44, zq100, zq1010, Bool.and_true, if_true, if_false, z1ne0, not_true_eq_false, not_false_eq_true, zite10, eq_self, and_true, true_and, and_false, false_and, ↓reduceIte, Int32.reduceLT, Int32.reduceLE, Int32.reduceAdd, Int32.reduceSub, Int32.reduceMul]
    · rw [zI_le, zI_le] at hv
      exact ⟨fun q => absurd q (by decide), fun q => absurd q (by decide), fun q => absurd q (by decide), fun _ => hv⟩
abbrev zPl1 (M : zM) (s : Nat) : Prop := (zgI M 2 s 0 = zgI M 70 0 s ∧ zgI M 2 s 1 = zgI M 71 0 s ∧ zgI M 2 s 2 = zgI M 72 0 s ∧ zgI M 2 s 3 = zgI M 73 0 s ∧ zgI M 2 s 4 = zgI M 74 0 s ∧ zgI M 2 s 5 = zgI M 75 0 s) ∧ (0 ≤ (zgI M 70 0 s).toInt ∧ (zgI M 70 0 s).toInt ≤ 7) ∧ (0 ≤ (zgI M 71 0 s).toInt ∧ (zgI M 71 0 s).toInt ≤ 9999900) ∧ (-99 ≤ (zgI M 72 0 s).toInt ∧ (zgI M 72 0 s).toInt ≤ 99)
theorem zPl1_eq {M M' : zM} {s : Nat} (h : zPl1 M s) (e1 : ∀ t, t < 6 → zgI M' 2 s t = zgI M 2 s t) (e2 : ∀ t, 70 ≤ t → t ≤ 75 → zgI M' t 0 s = zgI M t 0 s) : zPl1 M' s := by
  unfold zPl1
  rw [e1 0 (by omega), e1 1 (by omega), e1 2 (by omega), e1 3 (by omega), e1 4 (by omega), e1 5 (by omega), e2 70 (by omega) (by omega), e2 71 (by omega) (by omega), e2 72 (by omega) (by omega), e2 73 (by omega) (by omega), e2 74 (by omega) (by omega), e2 75 (by omega) (by omega)]
  exact h
/-- 'purse' -/
theorem Q8 (d : Nat) (x1 x2 : Int32) (u1 u2 : zV) (M : zM) (hc : Rch M) (hp : Rpl M) : ∃ (y : Int32) (M1 M2 : zM), zgo false (d + 3) 138 0 [zr 12 0, zi x1, zi x2, u1, u2] [] M = some (some (zi y), M1) ∧ zgo false (d + 3) 237 0 [zr 13 0, zi x1, zi x2] [] M1 = some (some (zi y), M2) ∧ zFr (zo2 6 3) M M2 ∧ Rch M2 ∧ Rpl M2 := by
  by_cases hq : zpl M x1
  case neg =>
    have hb := S_body (d + 2) x1 M hp
    have hm := S_isPl (d + 1) x1 M hp.2.1
    rw [if_neg hq] at hb hm
    refine ⟨-1, M, M, ?_, ?_, zFr_refl _ M, hc, hp⟩
    · simp +decide only [B138_0, B138_5, B138_20, B138_54, hb, zbsome, zpu1, zpu0, cond_true, cond_false, zib0, zib1, zib_ite, zq00, zq20, zq22, zq90, zq99, zq40, zq44, zq100, zq1010, Bool.and_true, if_true, if_false, z1ne0, not_true_eq_false, not_false_eq_true, zite10, eq_self, and_true, true_and, and_false, false_and, ↓reduceIte, Int32.reduceLT, Int32.reduceLE, Int32.reduceAdd, Int32.reduceSub, Int32.reduceMul]
    · simp +decide only [B237_0, B237_5, B237_16, B237_29, B237_32, B237_33, hm, zbsome, zpu1, zpu0, cond_true, cond_false, zib0, zib1, zib_ite, zq00, zq20, zq22, zq90, zq99, zq40, zq44, zq100, zq1010, Bool.and_true, if_true, if_false, z1ne0, not_true_eq_false, not_false_eq_true, zite10, eq_self, and_true, true_and, and_false, false_and, ↓reduceIte, Int32.reduceLT, Int32.reduceLE, Int32.reduceAdd, Int32.reduceSub, Int32.reduceMul]
  have hb := S_body (d + 2) x1 M hp
  rw [if_pos hq] at hb
  obtain ⟨p, hp3, rfl, hp5⟩ := zpl_nI hq (by rw [zI_le]; exact hp.2.1.2)
  have hc2 : (nI p).toNatClampNeg = p := nI_clamp (by omega)
  rw [hc2] at hb
  obtain ⟨⟨g0, g1, g2, g3, g4, g5⟩, k0, k1, k2⟩ := hp.2.2 p hp5
  by_cases ok : 0 ≤ x2 ∧ x2 ≤ 99999
  case neg =>
    have hm := S_isPl (d + 1) (nI p) M hp.2.1
    rw [if_pos hq] at hm
    refine ⟨-1, M, M, ?_, ?_, zFr_refl _ M, hc, hp⟩
    · by_cases c : x2 < 0
      · simp +decide only [B138_0, B138_5, B138_20, B138_54, hb, c, zbsome, zpu1, zpu0, cond_true, cond_false, zib0, zib1, zib_ite, zq00, zq20, zq22, zq90, zq99, zq40, zq44, zq100, zq1010, Bool.and_true, if_true, if_false, z1ne0, not_true_eq_false, not_false_eq_true, zite10, eq_self, and_true, true_and, and_false, false_and, ↓reduceIte, Int32.reduceLT, Int32.reduceLE, Int32.reduceAdd, Int32.reduceSub, Int32.reduceMul]
      · have c2 : ¬ x2 ≤ 99999 := fun q => ok ⟨z_nlt_le c, q⟩
        simp +decide only [B138_0, B138_5, B138_20, B138_54, hb, c, c2, zbsome, zpu1, zpu0, cond_true, cond_false, zib0, zib1, zib_ite, zq00, zq20, zq22, zq90, zq99, zq40, zq44, zq100, zq1010, Bool.and_true, if_true, if_false, z1ne0, not_true_eq_false, not_false_eq_true, zite10, eq_self, and_true, true_and, and_false, false_and, ↓reduceIte, Int32.reduceLT, Int32.reduceLE, Int32.reduceAdd, Int32.reduceSub, Int32.reduceMul]
    · simp +decide only [B237_0, B237_5, B237_16, B237_29, B237_32, B237_33, hm, S_in, ok, zbsome, zpu1, zpu0, cond_true, cond_false, zib0, zib1, zib_ite, zq00, zq20, zq22, zq90, zq99, zq40, zq44, zq100, zq1010, Bool.and_true, if_true, if_false, z1ne0, not_true_eq_false, not_false_eq_true, zite10, eq_self, and_true, true_and, and_false, false_and, ↓reduceIte, Int32.reduceLT, Int32.reduceLE, Int32.reduceAdd, Int32.reduceSub, Int32.reduceMul]
  have b1 : ¬ x2 < 0 := z_le_nlt ok.1
  have b2 := ok.2
  have h100 : (100 : Int32) * x2 = x2 * 100 := Int32.mul_comm _ _
  have hr : 0 ≤ x2 * 100 ∧ x2 * 100 ≤ 9999900 := by grind
  have hr' : 0 ≤ (x2 * 100).toInt ∧ (x2 * 100).toInt ≤ 9999900 := by
    rw [zI_le, zI_le] at hr
    exact hr
  have hT : zokT 2 (nI p) := ⟨fun q => absurd q (by decide), fun _ _ => zin_nI hp3 (by omega)⟩
  have hcur : ∀ M', zcur M' 2 (nI p) = zgI M' 71 0 p := fun M' => by
    unfold zcur
    rw [if_neg (by decide), if_neg (by decide), hc2]
  by_cases same : zgI M 71 0 p = x2 * 100
  · have hq' : zpl (zsI M 2 p 1 (x2 * 100)) (nI p) := hq
    have hm := S_isPl (d + 1) (nI p) (zsI M 2 p 1 (x2 * 100)) hp.2.1
    rw [if_pos hq'] at hm
    have e1 := S_chg_eq (d + 2) 2 (nI p) (x2 * 100) zu zu (zsI M 2 p 1 (x2 * 100)) hT ((hcur _).trans same)
    refine ⟨x2 * 100, zsI M 2 p 1 (x2 * 100), zsI M 2 p 1 (x2 * 100), ?_, ?_, ?_, ?_, ?_⟩
    · simp +decide only [B138_0, B138_5, B138_20, B138_54, hb, b1, b2, g1, same, zbsome, zpu1, zpu0, cond_true, cond_false, zib0, zib1, zib_ite, zq00, zq20, zq22, zq90, zq99, zq40, zq44, zq100, zq1010, Bool.and_true, if_true, if_false, z1ne0, not_true_eq_false, not_false_eq_true, zite10, eq_self, and_true, true_and, and_false, false_and, ↓reduceIte, Int32.reduceLT, Int32.reduceLE, Int32.reduceAdd, Int32.reduceSub, Int32.reduceMul]
    · simp +decide only [B237_0, B237_5, B237_16, B237_29, B237_32, B237_33, hm, S_in, ok, h100, e1, zbsome, zpu1, zpu0, cond_true, cond_false, zib0, zib1, zib_ite, zq00, zq20, zq22, zq90, zq99, zq40, zq44, zq100, zq1010, Bool.and_true, if_true, if_false, z1ne0, not_true_eq_false, not_false_eq_true, zite10, eq_self, and_true, true_and, and_false, false_and, ↓reduceIte, Int32.reduceLT, Int32.reduceLE, Int32.reduceAdd, Int32.reduceSub, Int32.reduceMul]
    · refine zFr_sI (zFr_refl _ M) ?_
      rw [show zown 2 p 1 = if p < 10 then 6 else 12 from rfl, if_pos hp3]
      rfl
    · refine Rch_fr (m := zo 6) (zFr_sI (zFr_refl _ M) ?_) rfl rfl (Int.le_refl _) hc
      rw [show zown 2 p 1 = if p < 10 then 6 else 12 from rfl, if_pos hp3]
      rfl
    · refine ⟨hp.1, hp.2.1, fun s hs => ?_⟩
      have w := hp.2.2 s hs
      refine zPl1_eq w (fun t ht => ?_) (fun t h1 h2 => ?_)
      · grind [zgI_sI]
      · grind [zgI_sI]
  · obtain ⟨n, u', q1, q2, q3, q4, q5, q6⟩ := hc
    have hent : zentv (zgI M 13 0 31) (10 + nI p) (zcur M 2 (nI p)) (x2 * 100) 2 (nI p) (zcur M 2 (nI p)) (x2 * 100) := ⟨rfl, rfl, Or.inr (Or.inr ⟨rfl, p, hp5, rfl, by rw [show (10 : Int32) = nI 10 from rfl, nI_add], by rw [hcur]; exact k1, hr'⟩)⟩
    obtain ⟨M1, M2, e1, e2, hM, f, f0⟩ := P_chg d n u' 2 p 1 2 (nI p) (10 + nI p) (x2 * 100) M ⟨by decide, by decide⟩ ⟨by decide, by decide, by decide, by decide⟩ q1 q2 q3 q6 hT (by rw [hcur]; exact same) hent
    rw [hcur] at e1 e2
    have hput : zput (zsI M 2 p 1 (x2 * 100)) 2 (nI p) (x2 * 100) = zsI (zsI M 2 p 1 (x2 * 100)) 71 0 p (x2 * 100) := by
      unfold zput
      rw [if_neg (by decide), if_neg (by decide), hc2]
    rw [hput] at f
    have ow : ∀ t, zown 2 p t = 6 := fun t => by
      rw [show zown 2 p t = if p < 10 then 6 else 12 from rfl, if_pos hp3]
    have e31 : zgI (zsI M1 2 p 1 (x2 * 100)) 13 0 31 = zgI M 13 0 31 := (f0 13 0 31 rfl).1
    have hq' : zpl (zsI M1 2 p 1 (x2 * 100)) (nI p) := by
      unfold zpl
      rw [e31]
      exact hq
    have hm := S_isPl (d + 1) (nI p) (zsI M1 2 p 1 (x2 * 100)) (by rw [e31]; exact hp.2.1)
    rw [if_pos hq'] at hm
    refine ⟨zgI M 71 0 p, zsI M1 2 p 1 (x2 * 100), M2, ?_, ?_, ?_, hM, ?_⟩
    · simp +decide only [B138_0, B138_5, B138_20, B138_54, hb, b1, b2, g1, same, e1, zbsome, zpu1, zpu0, cond_true, cond_false, zib0, zib1, zib_ite, zq00, zq20, zq22, zq90, zq99, zq40, zq44, zq100, zq1010, Bool.and_true, if_true, if_false, z1ne0, not_true_eq_false, not_false_eq_true, zite10, eq_self, and_true, true_and, and_false, false_and, ↓reduceIte, Int32.reduceLT, Int32.reduceLE, Int32.reduceAdd, Int32.reduceSub, Int32.reduceMul]
    · simp +decide only [B237_0, B237_5, B237_16, B237_29, B237_32, B237_33, hm, S_in, ok, h100, e2, zbsome, zpu1, zpu0, cond_true, cond_false, zib0, zib1, zib_ite, zq00, zq20, zq22, zq90, zq99, zq40, zq44, zq100, zq1010, Bool.and_true, if_true, if_false, z1ne0, not_true_eq_false, not_false_eq_true, zite10, eq_self, and_true, true_and, and_false, false_and, ↓reduceIte, Int32.reduceLT, Int32.reduceLE, Int32.reduceAdd, Int32.reduceSub, Int32.reduceMul]
    · refine zFr_trans (zFr_sI (zFr_sI (zFr_refl _ M) (by rw [ow]; rfl)) rfl) (zFr_mono f (fun n q => ?_))
      unfold zo2 at q
      rw [Bool.or_eq_false_iff] at q
      exact q.2
    · have rd : ∀ k i s, (k = 2 ∧ i < 10) ∨ (k = 12 ∧ s = 12) ∨ (k = 13 ∧ s = 31) ∨ (70 ≤ k ∧ k ≤ 75) → zgI M2 k i s = zgI (zsI (zsI M 2 p 1 (x2 * 100)) 71 0 p (x2 * 100)) k i s := fun k i s hk => (f k i s (by
        rcases hk with ⟨rfl, h⟩ | ⟨rfl, rfl⟩ | ⟨rfl, rfl⟩ | h
        · rw [show zown 2 i s = if i < 10 then 6 else 12 from rfl, if_pos h]; rfl
        · rfl
        · rfl
        · rcases (by omega : k = 70 ∨ k = 71 ∨ k = 72 ∨ k = 73 ∨ k = 74 ∨ k = 75) with rfl | rfl | rfl | rfl | rfl | rfl <;> rfl)).1
      refine ⟨?_, ?_, fun s hs => ?_⟩
      · rw [rd 12 0 12 (by omega), rd 13 0 31 (by omega)]
        exact hp.1
      · rw [rd 13 0 31 (by omega)]
        exact hp.2.1
      · rw [rd 13 0 31 (by omega)] at hs
        have hs : (s : Int) < (zgI M 13 0 31).toInt := hs
        have hs10 : s < 10 := by have := hp.2.1.2; omega
        have w := hp.2.2 s hs
        by_cases e : s = p
        · subst e
          have y1 : zgI M2 2 s 1 = x2 * 100 := by rw [rd 2 s 1 (by omega)]; grind [zgI_sI]
          have y2 : zgI M2 71 0 s = x2 * 100 := by rw [rd 71 0 s (by omega)]; grind [zgI_sI]
          have z : ∀ t, t < 6 → t ≠ 1 → zgI M2 2 s t = zgI M 2 s t := fun t h1 h2 => by rw [rd 2 s t (by omega)]; grind [zgI_sI]
          have z2 : ∀ t, 70 ≤ t → t ≤ 75 → t ≠ 71 → zgI M2 t 0 s = zgI M t 0 s := fun t h1 h2 h3 => by rw [rd t 0 s (by omega)]; grind [zgI_sI]
          rw [y1, y2, z 0 (by omega) (by omega), z 2 (by omega) (by omega), z 3 (by omega) (by omega), z 4 (by omega) (by omega), z 5 (by omega) (by omega), z2 70 (by omega) (by omega) (by omega), z2 72 (by omega) (by omega) (by omega), z2 73 (by omega) (by omega) (by omega), z2 74 (by omega) (by omega) (by omega), z2 75 (by omega) (by omega) (by omega)]
          exact ⟨⟨w.1.1, rfl, w.1.2.2⟩, w.2.1, hr', w.2.2.2⟩
        · refine zPl1_eq w (fun t ht => ?_) (fun t h1 h2 => ?_)
          · rw [rd 2 s t (by omega)]; grind [zgI_sI]
          · rw [rd t 0 s (by omega)]; grind [zgI_sI]
