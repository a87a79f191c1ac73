/-! ===== what changes leave of the rules and the limit ===== -/
theorem P2b (d w : Nat) (x2 lo hi : Int32) (u : zV) (M : zM) (hc : Rch M) (hr : Rrul M) (hw : w < 4) (h1 : ∀ d M, zgo false d 174 0 [zi (nI w)] [] M = some (some (zi lo), M)) (h2 : ∀ d M, zgo false d 175 0 [zi (nI w)] [] M = some (some (zi hi), M)) (h3 : ∀ d v M, zgo false (d + 1) 207 0 [zi (nI w), zi v] [] M = some (some (zi (if lo ≤ v ∧ v ≤ hi then 1 else 0)), M)) (hrl : ∀ v, lo ≤ v ∧ v ≤ hi → zrl w v) : ∃ (y : Int32) (M1 M2 : zM), zgo false (d + 3) 132 0 [zr 12 0, zi (nI w), zi x2, u] [] M = some (some (zi y), M1) ∧ zgo false (d + 3) 208 0 [zr 13 0, zi (nI w), zi x2] [] M1 = some (some (zi y), M2) ∧ zFr (zo2 2 3) M M2 ∧ Rch M2 ∧ Rrul M2 ∧ zgI M2 12 0 15 = zgI M 12 0 15 ∧ zgI M2 13 0 11 = zgI M 13 0 11 := by
  have z : zin (nI w) 4 = true := zin_nI hw (by omega)
  have cw : (nI w).toNatClampNeg = w := nI_clamp (by omega)
  have a1 : ¬ nI w < 0 := nI_pos (by omega)
  have a2 : ¬ (4 : Int32) ≤ nI w := nI_ge (a := w) (b := 4) (by omega) (by omega)
  obtain ⟨r1, r2⟩ := hr w hw
  by_cases ok : lo ≤ x2 ∧ x2 ≤ hi
  case neg =>
    refine ⟨-1, M, M, ?_, ?_, zFr_refl _ M, hc, hr, rfl, rfl⟩
    · by_cases c : x2 < lo
      · simp +decide only [B132_0, B132_14, B132_22, B132_25, B132_38, B132_54, B132_66, h1, h2, a1, a2, c, zbsome, zpu1, zpu0, cond_true, cond_false, zib0, zib1, zib_ite, zq00, zq20, zq22, zq90, zq99, zq40, zq44, zq100, zq1010, Bool.and_true, if_true, if_false, z1ne0, not_true_eq_false, not_false_eq_true, zite10, eq_self, and_true, true_and, and_false, false_and, ↓reduceIte, Int32.reduceLT, Int32.reduceLE, Int32.reduceAdd, Int32.reduceSub, Int32.reduceMul]
      · have c2 : ¬ x2 ≤ hi := fun q => ok ⟨z_nlt_le c, q⟩
        simp +decide only [B132_0, B132_14, B132_22, B132_25, B132_38, B132_54, B132_66, h1, h2, a1, a2, c, c2, zbsome, zpu1, zpu0, cond_true, cond_false, zib0, zib1, zib_ite, zq00, zq20, zq22, zq90, zq99, zq40, zq44, zq100, zq1010, Bool.and_true, if_true, if_false, z1ne0, not_true_eq_false, not_false_eq_true, zite10, eq_self, and_true, true_and, and_false, false_and, ↓reduceIte, Int32.reduceLT, Int32.reduceLE, Int32.reduceAdd, Int32.reduceSub, Int32.reduceMul]
    · simp +decide only [B208_0, B208_5, B208_15, B208_19, h3, ok, zbsome, zpu1, zpu0, cond_true, cond_false, zib0, zib1, zib_ite, zq00, zq20, zq22, zq90, zq99, zq40, zq44, zq100, zq1010, Bool.and_true, if_true, if_false, z1ne0, not_true_eq_false, not_false_eq_true, zite10, eq_self, and_true, true_and, and_false, false_and, ↓reduceIte, Int32.reduceLT, Int32.reduceLE, Int32.reduceAdd, Int32.reduceSub, Int32.reduceMul]
  have b1 : ¬ x2 < lo := z_le_nlt ok.1
  have b2 := ok.2
  have hT : zokT 0 (nI w) := ⟨fun _ => z, fun q => absurd rfl q⟩
  have hcur : zcur M 0 (nI w) = zgI M 57 0 w := by
    unfold zcur
    rw [if_pos rfl, cw]
  by_cases same : x2 = zgI M 57 0 w
  · subst same
    have e1 := S_chg_eq (d + 2) 0 (nI w) (zgI M 57 0 w) zu zu (zsI M 29 0 w (zgI M 57 0 w)) hT hcur
    refine ⟨zgI M 57 0 w, zsI M 29 0 w (zgI M 57 0 w), zsI M 29 0 w (zgI M 57 0 w), ?_, ?_, zFr_sI (zFr_refl _ M) rfl, ?_, ?_, rfl, rfl⟩
    · simp +decide only [B132_0, B132_14, B132_22, B132_25, B132_38, B132_54, B132_66, h1, h2, a1, a2, b1, b2, at29n _ _ _ _ _ hw, se29n _ _ _ _ _ _ hw, r1, zbsome, zpu1, zpu0, cond_true, cond_false, zib0, zib1, zib_ite, zq00, zq20, zq22, zq90, zq99, zq40, zq44, zq100, zq1010, Bool.and_true, if_true, if_false, z1ne0, not_true_eq_false, not_false_eq_true, zite10, eq_self, and_true, true_and, and_false, false_and, ↓reduceIte, Int32.reduceLT, Int32.reduceLE, Int32.reduceAdd, Int32.reduceSub, Int32.reduceMul]
    · simp +decide only [B208_0, B208_5, B208_15, B208_19, h3, ok, e1, zbsome, zpu1, zpu0, cond_true, cond_false, zib0, zib1, zib_ite, zq00, zq20, zq22, zq90, zq99, zq40, zq44, zq100, zq1010, Bool.and_true, if_true, if_false, z1ne0, not_true_eq_false, not_false_eq_true, zite10, eq_self, and_true, true_and, and_false, false_and, ↓reduceIte, Int32.reduceLT, Int32.reduceLE, Int32.reduceAdd, Int32.reduceSub, Int32.reduceMul]
    · refine Rch_fr (m := zo 2) (zFr_sI (zFr_refl _ M) rfl) rfl rfl ?_ hc
      exact Int.le_refl _
    · intro w' hw'
      have := hr w' hw'
      grind [zgI_sI]
  · obtain ⟨n, u', q1, q2, q3, q4, q5, q6⟩ := hc
    have hent : zentv (zgI M 13 0 31) (nI w) (zcur M 0 (nI w)) x2 0 (nI w) (zcur M 0 (nI w)) x2 := ⟨rfl, rfl, Or.inl ⟨rfl, w, hw, rfl, rfl, by rw [hcur]; exact r2, hrl _ ok⟩⟩
    obtain ⟨M1, M2, e1, e2, hM, f, f0⟩ := P_chg d n u' 29 0 w 0 (nI w) (nI w) x2 M ⟨by decide, by decide⟩ ⟨by decide, by decide, by decide, by decide⟩ q1 q2 q3 q6 hT (by rw [hcur]; exact fun q => same q.symm) hent
    rw [hcur] at e1 e2
    have hput : zput (zsI M 29 0 w x2) 0 (nI w) x2 = zsI (zsI M 29 0 w x2) 57 0 w x2 := by
      unfold zput
      rw [if_pos rfl, cw]
    rw [hput] at f
    refine ⟨zgI M 57 0 w, zsI M1 29 0 w x2, M2, ?_, ?_, ?_, hM, ?_, (f 12 0 15 rfl).1, (f 13 0 11 rfl).1⟩
    · simp +decide only [B132_0, B132_14, B132_22, B132_25, B132_38, B132_54, B132_66, h1, h2, a1, a2, b1, b2, at29n _ _ _ _ _ hw, r1, same, e1, zbsome, zpu1, zpu0, cond_true, cond_false, zib0, zib1, zib_ite, zq00, zq20, zq22, zq90, zq99, zq40, zq44, zq100, zq1010, Bool.and_true, if_true, if_false, z1ne0, not_true_eq_false, not_false_eq_true, zite10, eq_self, and_true, true_and, and_false, false_and, ↓reduceIte, Int32.reduceLT, Int32.reduceLE, Int32.reduceAdd, Int32.reduceSub, Int32.reduceMul]
      simp +decide only [B132_0, B132_14, B132_22, B132_25, B132_38, B132_54, B132_66, se29n _ _ _ _ _ _ hw, zbsome, zpu1, zpu0, cond_true, cond_false, zib0, zib1, zib_ite, zq00, zq20, zq22, zq90, zq99, zq40, zq44, zq100, zq1010, Bool.and_true, if_true, if_false, z1ne0, not_true_eq_false, not_false_eq_true, zite10, eq_self, and_true, true_and, and_false, false_and, ↓reduceIte, Int32.reduceLT, Int32.reduceLE, Int32.reduceAdd, Int32.reduceSub, Int32.reduceMul]
    · simp +decide only [B208_0, B208_5, B208_15, B208_19, h3, ok, e2, zbsome, zpu1, zpu0, cond_true, cond_false, zib0, zib1, zib_ite, zq00, zq20, zq22, zq90, zq99, zq40, zq44, zq100, zq1010, Bool.and_true, if_true, if_false, z1ne0, not_true_eq_false, not_false_eq_true, zite10, eq_self, and_true, true_and, and_false, false_and, ↓reduceIte, Int32.reduceLT, Int32.reduceLE, Int32.reduceAdd, Int32.reduceSub, Int32.reduceMul]
    · refine zFr_trans (zFr_of2 rfl rfl) (zFr_mono f (fun n q => ?_))
      unfold zo2 at q
      rw [Bool.or_eq_false_iff] at q
      exact q.2
    · intro w' hw'
      have g := hr w' hw'
      rw [(f 29 0 w' rfl).1, (f 57 0 w' rfl).1]
      by_cases e : w' = w
      · subst e
        have x := hrl x2 ok
        have y1 : zgI (zsI (zsI M 29 0 w' x2) 57 0 w' x2) 29 0 w' = x2 := by grind [zgI_sI]
        have y2 : zgI (zsI (zsI M 29 0 w' x2) 57 0 w' x2) 57 0 w' = x2 := by grind [zgI_sI]
        rw [y1, y2]
        exact ⟨rfl, x⟩
      · have y1 : zgI (zsI (zsI M 29 0 w x2) 57 0 w x2) 29 0 w' = zgI M 29 0 w' := by grind [zgI_sI]
        have y2 : zgI (zsI (zsI M 29 0 w x2) 57 0 w x2) 57 0 w' = zgI M 57 0 w' := by grind [zgI_sI]
        rw [y1, y2]
        exact g
theorem Q2b (d : Nat) (x1 x2 : Int32) (u : zV) (M : zM) (hc : Rch M) (hr : Rrul M) : ∃ (y : Int32) (M1 M2 : zM), zgo false (d + 3) 132 0 [zr 12 0, zi x1, zi x2, u] [] M = some (some (zi y), M1) ∧ zgo false (d + 3) 208 0 [zr 13 0, zi x1, zi x2] [] M1 = some (some (zi y), M2) ∧ zFr (zo2 2 3) M M2 ∧ Rch M2 ∧ Rrul M2 ∧ zgI M2 12 0 15 = zgI M 12 0 15 ∧ zgI M2 13 0 11 = zgI M 13 0 11 := by
  by_cases hz : zin x1 4 = true
  case neg =>
    refine ⟨-1, M, M, ?_, ?_, zFr_refl _ M, hc, hr, rfl, rfl⟩
    · by_cases c : x1 < 0
      · simp +decide only [B132_0, B132_14, B132_22, B132_25, B132_38, B132_54, B132_66, c, zbsome, zpu1, zpu0, cond_true, cond_false, zib0, zib1, zib_ite, zq00, zq20, zq22, zq90, zq99, zq40, zq44, zq100, zq1010, Bool.and_true, if_true, if_false, z1ne0, not_true_eq_false, not_false_eq_true, zite10, eq_self, and_true, true_and, and_false, false_and, ↓reduceIte, Int32.reduceLT, Int32.reduceLE, Int32.reduceAdd, Int32.reduceSub, Int32.reduceMul]
      · have c2 : 4 ≤ x1 := by
          rw [zin4] at hz
          grind
        simp +decide only [B132_0, B132_14, B132_22, B132_25, B132_38, B132_54, B132_66, c, c2, zbsome, zpu1, zpu0, cond_true, cond_false, zib0, zib1, zib_ite, zq00, zq20, zq22, zq90, zq99, zq40, zq44, zq100, zq1010, Bool.and_true, if_true, if_false, z1ne0, not_true_eq_false, not_false_eq_true, zite10, eq_self, and_true, true_and, and_false, false_and, ↓reduceIte, Int32.reduceLT, Int32.reduceLE, Int32.reduceAdd, Int32.reduceSub, Int32.reduceMul]
    · have c0 : ¬ x1 = 0 := fun q => hz (by rw [q]; rfl)
      have c1 : ¬ x1 = 1 := fun q => hz (by rw [q]; rfl)
      have c2 : ¬ x1 = 2 := fun q => hz (by rw [q]; rfl)
      have c3 : ¬ x1 = 3 := fun q => hz (by rw [q]; rfl)
      simp +decide only [B208_0, B208_5, B208_15, B208_19, B207_0, B207_32, B207_38, B207_48, B207_57, c0, c1, c2, c3, zbsome, zpu1, zpu0, cond_true, cond_false, zib0, zib1, zib_ite, zq00, zq20, zq22, zq90, zq99, zq40, zq44, zq100, zq1010, Bool.and_true, if_true, if_false, z1ne0, not_true_eq_false, not_false_eq_true, zite10, eq_self, and_true, true_and, and_false, false_and, ↓reduceIte, Int32.reduceLT, Int32.reduceLE, Int32.reduceAdd, Int32.reduceSub, Int32.reduceMul]
  obtain ⟨w, hw, rfl⟩ := zin_of hz
  rcases (by omega : w = 0 ∨ w = 1 ∨ w = 2 ∨ w = 3) with rfl | rfl | rfl | rfl
  · refine P2b d 0 x2 0 1 u M hc hr hw (fun d M => S174 _ _ _ _) (fun d M => S175 _ _ _ _) (fun d v M => ?_) (fun v hv => ?_)
    · show zgo false (d + 1) 207 0 [zi 0, zi v] [] M = _
      simp +decide only [B207_0, B207_32, B207_38, B207_48, B207_57, S_in, zbsome, zpu1, zpu0, cond_true, cond_false, zib0, zib1, zib_ite, zq00, zq20, zq22, zq90, zq99, zq40, zq44, zq100, zq1010, Bool.and_true, if_true, if_false, z1ne0, not_true_eq_false, not_false_eq_true, zite10, eq_self, and_true, true_and, and_false, false_and, ↓reduceIte, Int32.reduceLT, Int32.reduceLE, Int32.reduceAdd, Int32.reduceSub, Int32.reduceMul]
    · rw [zI_le, zI_le] at hv
      exact ⟨fun _ => hv, fun q => absurd q (by decide), fun q => absurd q (by decide), fun q => absurd q (by decide)⟩
  · refine P2b d 1 x2 100 200 u M hc hr hw (fun d M => S174 _ _ _ _) (fun d M => S175 _ _ _ _) (fun d v M => ?_) (fun v hv => ?_)
    · show zgo false (d + 1) 207 0 [zi 1, zi v] [] M = _
      simp +decide only [B207_0, B207_32, B207_38, B207_48, B207_57, S_in, zbsome, zpu1, zpu0, cond_true, cond_false, zib0, zib1, zib_ite, zq00, zq20, zq22, zq90, zq99, zq40, zq44, zq100, zq1010, Bool.and_true, if_true, if_false, z1ne0, not_true_eq_false, not_false_eq_true, zite10, eq_self, and_true, true_and, and_false, false_and, ↓reduceIte, Int32.reduceLT, Int32.reduceLE, Int32.reduceAdd, Int32.reduceSub, Int32.reduceMul]
    · rw [zI_le, zI_le] at hv
      exact ⟨fun q => absurd q (by decide), fun _ => hv, fun q => absurd q (by decide), fun q => absurd q (by decide)⟩
  · refine P2b d 2 x2 0 1 u M hc hr hw (fun d M => S174 _ _ _ _) (fun d M => S175 _ _ _ _) (fun d v M => ?_) (fun v hv => ?_)
    · show zgo false (d + 1) 207 0 [zi 2, zi v] [] M = _
      simp +decide only [B207_0, B207_32, B207_38, B207_48, B207_57, S_in, zbsome, zpu1, zpu0, cond_true, cond_false, zib0, zib1, zib_ite, zq00, zq20, zq22, zq90, zq99, zq40, zq44, zq100, zq1010, Bool.and_true, if_true, if_false, z1ne0, not_true_eq_false, not_false_eq_true, zite10, eq_self, and_true, true_and, and_false, false_and, ↓reduceIte, Int32.reduceLT, Int32.reduceLE, Int32.reduceAdd, Int32.reduceSub, Int32.reduceMul]
    · rw [zI_le, zI_le] at hv
      exact ⟨fun q => absurd q (by decide), fun q => absurd q (by decide), fun _ => hv, fun q => absurd q (by decide)⟩
  · refine P2b d 3 x2 15 19 u M hc hr hw (fun d M => S174 _ _ _ _) (fun d M => S175 _ _ _ _) (fun d v M => ?_) (fun v hv => ?_)
    · show zgo false (d + 1) 207 0 [zi 3, zi v] [] M = _
      simp +decide only [B207_0, B207_32, B207_38, B207_48, B207_57, S_in, zbsome, zpu1, zpu0, cond_true, cond_false, zib0, zib1, zib_ite, zq00, zq20, zq22, zq90, zq99, zq40, zq44, zq100, zq1010, Bool.and_true, if_true, if_false, z1ne0, not_true_eq_false, not_false_eq_true, zite10, eq_self, and_true, true_and, and_false, false_and, ↓reduceIte, Int32.reduceLT, Int32.reduceLE, Int32.reduceAdd, Int32.reduceSub, Int32.reduceMul]
    · rw [zI_le, zI_le] at hv
      exact ⟨fun q => absurd q (by decide), fun q => absurd q (by decide), fun q => absurd q (by decide), fun _ => hv⟩
/-- the limit -/
theorem Q9b (d : Nat) (x : Int32) (u : zV) (M : zM) (hc : Rch M) (hl : Rlim M) (hr : Rrul M) : ∃ (y : Int32) (M1 M2 : zM), zgo false (d + 3) 139 0 [zr 12 0, zi x, u] [] M = some (some (zi y), M1) ∧ zgo false (d + 3) 209 0 [zr 13 0, zi x] [] M1 = some (some (zi y), M2) ∧ zFr (zo2 2 3) M M2 ∧ Rch M2 ∧ Rlim M2 ∧ Rrul M2 := by
  have e1 : (1 : Int32).toInt = 1 := rfl
  have e9 : (9999 : Int32).toInt = 9999 := rfl
  have bad : ¬ ((1 : Int32) ≤ x ∧ x ≤ 9999) → zgo false (d + 3) 209 0 [zr 13 0, zi x] [] M = some (some (zi (-1)), M) := fun h => by
    rw [B209_0]
    refine zbind_of (S_in false (d + 2) x 1 9999 M) ?_
    rw [if_neg h]
    refine (B209_8 (d + 2) x 0 M).trans ?_
    rw [if_pos rfl, B209_22]
  by_cases a : x < 1
  · refine ⟨-1, M, M, ?_, bad (fun q => ?_), zFr_refl _ M, hc, hl, hr⟩
    · rw [B139_0, if_pos a, B139_12]
    · have := q.1
      rw [zI_le] at this
      rw [zI_lt] at a
      omega
  by_cases b : ¬ x ≤ 9999
  · refine ⟨-1, M, M, ?_, bad (fun q => b q.2), zFr_refl _ M, hc, hl, hr⟩
    rw [B139_0, if_neg a, if_neg b, B139_12]
  have b := Decidable.of_not_not b
  have ok : (1 : Int32) ≤ x ∧ x ≤ 9999 := ⟨by rw [zI_lt] at a; rw [zI_le]; omega, b⟩
  have rg : 1 ≤ x.toInt ∧ x.toInt ≤ 9999 := by
    rw [zI_le, zI_le] at ok
    omega
  obtain ⟨l1, l2⟩ := hl
  obtain ⟨n, w, h1, h2, h3, h4, h5, h6⟩ := hc
  have mod : ∀ (M1 : zM) (r : Option zV × zM), zgo false (d + 2) 204 0 [zr 13 0, zi 1, zi 0, zi x, zu, zu] [] M1 = some (some (zi (zgI M 13 0 11)), r.2) → zgo false (d + 3) 209 0 [zr 13 0, zi x] [] M1 = some (some (zi (zgI M 13 0 11)), r.2) := fun M1 r h => by
    rw [B209_0]
    refine zbind_of (S_in false (d + 2) x 1 9999 M1) ?_
    rw [if_pos ok]
    refine (B209_8 (d + 2) x 1 M1).trans ?_
    rw [if_neg (by decide)]
    refine zbind_of h ?_
    refine (B209_18 (d + 3) x _ _).trans ?_
    rw [B209_22]
  by_cases c : zgI M 13 0 11 = x
  · refine ⟨x, zsI M 12 0 15 x, zsI M 12 0 15 x, ?_, ?_, zFr_sI (zFr_refl _ M) rfl, ?_, ?_, hr⟩
    · rw [B139_0, if_neg a, if_pos b, l1, if_pos c, B139_34, c]
    · have h := S_chg_eq (d + 2) 1 0 x zu zu (zsI M 12 0 15 x) zT1 (show zgI M 13 0 11 = x from c)
      have h' := mod (zsI M 12 0 15 x) (none, zsI M 12 0 15 x) (by rw [c]; exact h)
      rw [c] at h'
      exact h'
    · exact Rch_fr (m := Nat.beq 2) (zFr_sI (zFr_refl _ M) rfl) rfl rfl (Int.le_refl _) ⟨n, w, h1, h2, h3, h4, h5, h6⟩
    · exact ⟨show x = zgI M 13 0 11 from c.symm, l2⟩
  · obtain ⟨M1, r1, f1, p1, p2, p3, p4, p5⟩ := S_come15 d n 4 (zgI M 13 0 11) x M h2 (by omega)
    have g : ∀ k i s, k = 13 ∨ 55 ≤ k → zgI (zsI M1 12 0 15 x) k i s = zgI M k i s := fun k i s hk => by
      rw [zgI_sI, if_neg (by omega)]
      refine (f1 k i s ?_).1
      unfold zown
      rw [if_pos hk]
      cases hb : Nat.beq 3 (zow0 k i s + 20) with
      | false => rfl
      | true =>
        have := zb_eq hb
        omega
    have hcur : zcur (zsI M1 12 0 15 x) 1 0 = zgI M 13 0 11 := g 13 0 11 (Or.inl rfl)
    obtain ⟨M2, r2, f2, q1, q2, q3, q4, q5, q6⟩ := S_chg_ne (d + 1) n 1 0 x zu zu (zsI M1 12 0 15 x) zT1 (by rw [hcur]; exact c) (by rw [g 13 0 12 (Or.inl rfl)]; exact h3) (by omega)
    rw [hcur] at r2 q5
    have e58 : zgI (zsI M1 12 0 15 x) 58 0 = zgI M 58 0 := funext fun s => g 58 0 s (Or.inr (by omega))
    have e59 : zgI (zsI M1 12 0 15 x) 59 0 = zgI M 59 0 := funext fun s => g 59 0 s (Or.inr (by omega))
    have e60 : zgI (zsI M1 12 0 15 x) 60 0 = zgI M 60 0 := funext fun s => g 60 0 s (Or.inr (by omega))
    have e61 : zgI (zsI M1 12 0 15 x) 61 0 = zgI M 61 0 := funext fun s => g 61 0 s (Or.inr (by omega))
    rw [e58] at q3
    rw [e59] at q4
    rw [e60] at q5
    rw [e61] at q6
    have rr : Rrul (zsI M2 13 0 11 x) := by
      have a1 : Rrul M1 := Rrul_fr f1 rfl rfl hr
      have a2 : Rrul (zsI M1 12 0 15 x) := a1
      have a3 : Rrul M2 := Rrul_fr f2 rfl rfl a2
      exact a3
    refine ⟨zgI M 13 0 11, zsI M1 12 0 15 x, zsI M2 13 0 11 x, ?_, ?_, ?_, ?_, ?_, rr⟩
    · rw [B139_0, if_neg a, if_pos b, l1, if_neg c]
      refine zbind_of r1 ?_
      exact B139_34 (d + 3) x _ M1
    · exact mod (zsI M1 12 0 15 x) (none, zsI M2 13 0 11 x) r2
    · have t1 : zFr (zo2 2 3) M M1 := zFr_mono f1 (fun n q => (zo2_l q).2.2.1)
      have t2 : zFr (zo2 2 3) M (zsI M1 12 0 15 x) := zFr_sI t1 rfl
      exact zFr_sI (zFr_trans t2 (zFr_mono f2 (fun n q => (zo2_l q).2.2.2))) rfl
    · refine Rch_new (M := M) (e21 := 4) (e22 := zgI M 13 0 11) (e23 := x) (e58 := 1) (e59 := 0) (e60 := zgI M 13 0 11) (e61 := x) h1 h6 ?_ ?_ q1 ?_ q2 (fun s => ?_) (fun s => ?_) (fun s => ?_) q3 q4 q5 q6 ⟨rfl, rfl, Or.inr (Or.inl ⟨rfl, rfl, rfl, l2, rg⟩)⟩
      · exact ((f2 13 0 31 rfl).1).trans (g 13 0 31 (Or.inl rfl))
      · exact ((f2 3 0 3 rfl).1).trans p1
      · exact ((f2 3 0 4 rfl).1).trans p2
      · exact ((f2 21 0 s rfl).1).trans (p3 s)
      · exact ((f2 22 0 s rfl).1).trans (p4 s)
      · exact ((f2 23 0 s rfl).1).trans (p5 s)
    · exact ⟨(f2 12 0 15 rfl).1, rg⟩
/-! ===== all that stands between the class and the model ===== -/
def RB (t : Nat) (M : zM) : Prop := Rstep M ∧ Rbnd M ∧ Ract M ∧ Rch M ∧ Rrul M ∧ Rlim M ∧ Rpl M ∧ Rpz M ∧ Rtp M ∧ Rtx M ∧ yShoe 0 M M ∧ Rled M ∧ Rby M ∧ Rsh M ∧ Rhn t M ∧ Raf M ∧ RafJ M
def RA (L : Nat × (Nat → Int32)) (t : Nat) (M : zM) : Prop := zsc M = L ∧ zJm zcl M ∧ Zb M ∧ RB t M
theorem Rhn_up {t : Nat} {M : zM} (h : Rhn t M) : Rhn (t + 1) M := fun s hs => by
  obtain ⟨N, h1, h2⟩ := h s hs
  exact ⟨N, by omega, h2⟩
theorem RB_fr {m : Nat → Bool} {t : Nat} {M M' : zM} (f : zFr m M M') (H : RB t M) (m0 : m 0 = false) (c8 : (m 8 = false ∧ m 28 = false) ∨ Rstep M') (c9 : (m 9 = false ∧ m 29 = false) ∨ Rbnd M') (c10 : (m 10 = false ∧ m 30 = false) ∨ Ract M') (c31 : m 26 = false ∨ zgI M 13 0 31 ≤ zgI M' 13 0 31) (c3 : (m 3 = false ∧ m 23 = false) ∨ Rch M') (c2 : (m 2 = false ∧ m 22 = false) ∨ (Rrul M' ∧ Rlim M')) (c6 : (m 6 = false ∧ m 26 = false) ∨ (Rpl M' ∧ Rpz M' ∧ Rhn (t + 1) M')) (c4 : (m 4 = false ∧ m 24 = false) ∨ Rtp M') (c5 : (m 5 = false ∧ m 25 = false) ∨ Rtx M') (c1 : (m 1 = false ∧ m 21 = false) ∨ yShoe 0 M' M') (c7 : (m 7 = false ∧ m 27 = false) ∨ (Rled M' ∧ Rby M')) (c11 : (m 11 = false ∧ m 31 = false) ∨ Rsh M') : RB (t + 1) M' := by
  obtain ⟨h8, h9, h10, h3, h2, hl, h6, hz, h4, h5, hS, h7, hby, h11, hn, hA, hAJ⟩ := H
  have le : zgI M 13 0 31 ≤ zgI M' 13 0 31 := by
    rcases c31 with c | c
    · rw [(f 13 0 31 c).1]
      exact Int32.le_refl _
    · exact c
  have n2 : Rrul M' ∧ Rlim M' := by
    rcases c2 with c | c
    · refine ⟨Rrul_fr f c.1 c.2 h2, ?_⟩
      unfold Rlim at hl ⊢
      rw [(f 12 0 15 c.1).1, (f 13 0 11 c.2).1]
      exact hl
    · exact c
  have n6 : Rpl M' ∧ Rpz M' ∧ Rhn (t + 1) M' := by
    rcases c6 with c | c
    · exact ⟨Rpl_fr f c.1 c.2 h6, Rpz_fr f c.1 c.2 hz, Rhn_up (fun s hs => by rw [(f 74 0 s c.2).1]; exact hn s hs)⟩
    · exact c
  have n7 : Rled M' ∧ Rby M' := by
    rcases c7 with c | c
    · refine ⟨Rled_fr f c.1 c.2 h7, fun n q1 q2 g hg => ?_⟩
      rw [(f 13 0 45 c.2).1] at q2
      obtain ⟨⟨a, a1, a2, a3⟩, ⟨b, b1, b2, b3⟩⟩ := hby n q1 q2 g hg
      exact ⟨⟨a, a1, ((f 92 0 g c.2).1).trans a2, fun s hs => by rw [(f 91 0 _ c.2).1]; exact a3 s hs⟩, ⟨b, b1, ((f 94 0 g c.2).1).trans b2, fun s hs => by rw [(f 93 0 _ c.2).1]; exact b3 s hs⟩⟩
    · exact c
  refine ⟨?_, ?_, ?_, ?_, n2.1, n2.2, n6.1, n6.2.1, ?_, ?_, ?_, n7.1, n7.2, ?_, n6.2.2, ?_, ?_⟩
  · exact c8.elim (fun c => Rstep_fr f c.1 c.2 h8) id
  · exact c9.elim (fun c => Rbnd_fr f c.1 c.2 h9) id
  · exact c10.elim (fun c => Ract_fr f c.1 c.2 h10) id
  · exact c3.elim (fun c => Rch_fr f c.1 c.2 (by rw [zI_le] at le; exact le) h3) id
  · exact c4.elim (fun c => Rtp_fr f c.1 c.2 h4) id
  · exact c5.elim (fun c => Rtx_fr f c.1 c.2 h5) id
  · rcases c1 with c | c
    · refine yShoe_fr hS (fun k s hk => ?_) (fun k s hk => ?_)
      · rcases hk with rfl | rfl | rfl
        · exact (f 10 0 s c.1).1
        · exact (f 46 0 s c.1).1
        · exact (f 47 0 s c.1).1
      · rcases hk with ⟨rfl, hs⟩ | rfl | rfl
        · refine (f 13 0 s ?_).1
          rcases (by omega : s = 0 ∨ s = 1 ∨ s = 2 ∨ s = 3 ∨ s = 4 ∨ s = 5 ∨ s = 6 ∨ s = 7 ∨ s = 8 ∨ s = 59) with rfl | rfl | rfl | rfl | rfl | rfl | rfl | rfl | rfl | rfl <;> exact c.2
        · exact (f 55 0 s c.2).1
        · exact (f 56 0 s c.2).1
    · exact c
  · exact c11.elim (fun c => Rsh_fr f c.1 c.2 le h11) id
  · exact fun i v hi v1 v2 => ((f 35 0 _ m0).1).trans (hA i v hi v1 v2)
  · exact fun i v hi v1 v2 => ((f 35 1 _ m0).1).trans (hAJ i v hi v1 v2)
def zJlB (K : Nat → Bool) (l : List zV) : Bool := l.all fun v => match v with
  | .inr (.inr (.inl p)) => zneu p.1 || K p.1
  | _ => true
theorem zJl_b {K : Nat → Bool} {l : List zV} (h : zJlB K l = true) : zJl K l := by
  intro v hv
  have h1 := List.all_eq_true.mp h v hv
  obtain x | x | p | x := v
  · trivial
  · trivial
  · have h1 : (zneu p.1 || K p.1) = true := h1
    rw [Bool.or_eq_true] at h1
    exact h1
  · trivial
theorem RA_step {L : Nat × (Nat → Int32)} {t D mc mm : Nat} {as bs : List zV} {M M1 M2 : zM} {x y : Option zV} (H : RA L t M) (c : zgo false D mc 0 as [] M = some (x, M1)) (m : zgo false D mm 0 bs [] M1 = some (y, M2)) (ha : zJlB zcl as = true) (hb : zJlB zmd bs = true) (hB : RB (t + 1) M2) : RA L (t + 1) M2 := ⟨(zgo_keep m).1.trans ((zgo_keep c).1.trans H.1), zJ_two (zJl_b ha) (zJl_b hb) H.2.1 c m, zgo_b (zgo_b H.2.2.1 c) m, hB⟩
