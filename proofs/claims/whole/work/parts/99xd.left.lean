/-! ===== what changes leave of the players ===== -/
def yKp (M M' : zM) : Prop := (∀ s t, s < 10 → 3 ≤ t → t ≤ 5 → zgI M' 2 s t = zgI M 2 s t) ∧ (∀ k s, 73 ≤ k → k ≤ 75 → zgI M' k 0 s = zgI M k 0 s) ∧ zgI M' 13 0 31 = zgI M 13 0 31
theorem yKp_refl (M : zM) : yKp M M := ⟨fun _ _ _ _ _ => rfl, fun _ _ _ _ => rfl, rfl⟩
theorem yKp_sI {M M' : zM} {k i s : Nat} {v : Int32} (h : yKp M M') (hc : ¬ (k = 2 ∧ 3 ≤ s) ∧ ¬ (73 ≤ k ∧ k ≤ 75) ∧ ¬ (k = 13 ∧ s = 31)) : yKp M (zsI M' k i s v) := by
  refine ⟨fun a t ha t1 t2 => ?_, fun k2 a k1 k3 => ?_, ?_⟩
  · rw [zgI_sI, if_neg (by omega)]; exact h.1 a t ha t1 t2
  · rw [zgI_sI, if_neg (by omega)]; exact h.2.1 k2 a k1 k3
  · rw [zgI_sI, if_neg (by omega)]; exact h.2.2
theorem yKp_Rpz {M M' : zM} (h : yKp M M') (hz : Rpz M) : Rpz M' := by
  intro s s1 s2
  rw [h.2.2] at s2
  rw [h.1 s 3 s1 (by omega) (by omega), h.1 s 4 s1 (by omega) (by omega), h.1 s 5 s1 (by omega) (by omega), h.2.1 73 s (by omega) (by omega), h.2.1 74 s (by omega) (by omega), h.2.1 75 s (by omega) (by omega)]
  exact hz s s1 s2
theorem yKp_Rhn {t : Nat} {M M' : zM} (h : yKp M M') (hn : Rhn t M) : Rhn t M' := fun s hs => by
  rw [h.2.1 74 s (by omega) (by omega)]
  exact hn s hs
/-- both runs leave the class's references in the class -/
theorem zJ_two {D mc mm : Nat} {as bs : List zV} {M M1 M2 : zM} {x y : Option zV} (ha : zJl zcl as) (hb : zJl zmd bs) (hM : zJm zcl M) (c : zgo false D mc 0 as [] M = some (x, M1)) (m : zgo false D mm 0 bs [] M1 = some (y, M2)) : zJm zcl M2 := by
  obtain ⟨n, r1⟩ := zgo_iff.mp c
  obtain ⟨-, -, r3⟩ := zrun_ind zJc_cl M _ _ _ _ _ _ _ _ ha (zJl_nil _) hM r1
  have r4 := zgo_ind zJc_md M1 hb (zJl_nil _) (zJm_md M1) m
  rw [zmg_self, m] at r4
  have hM2 : M2 = zmg zmd M2 M1 := congrArg Prod.snd (Option.some.inj r4)
  intro k i s h1 h2
  have hz : zmd k = false := by
    cases hz : zmd k with
    | false => rfl
    | true => rw [zcl_md hz] at h1; cases h1
  have h3 := r3 k i s h1 h2
  rw [hM2]
  show zJ1 zcl (zp (if zmd k = true then zgR M2 k i s else zgR M1 k i s))
  rw [hz, if_neg (by decide)]
  exact h3
/-- 'purse' -/
theorem Q8b (d : Nat) (x1 x2 : Int32) (u1 u2 : zV) (M : zM) (hc : Rch M) (hp : Rpl M) : ∃ (y : Int32) (M1 M2 : zM), zgo false (d + 3) 138 0 [zr 12 0, zi x1, zi x2, u1, u2] [] M = some (some (zi y), M1) ∧ zgo false (d + 3) 237 0 [zr 13 0, zi x1, zi x2] [] M1 = some (some (zi y), M2) ∧ zFr (zo2 6 3) M M2 ∧ Rch M2 ∧ Rpl M2 ∧ yKp M M2 := by
  by_cases hq : zpl M x1
  case neg =>
    have hb := S_body (d + 2) x1 M hp
    have hm := S_isPl (d + 1) x1 M hp.2.1
    rw [if_neg hq] at hb hm
    refine ⟨-1, M, M, ?_, ?_, zFr_refl _ M, hc, hp, yKp_refl M⟩
    · simp +decide only [B138_0, B138_5, B138_20, B138_54, hb, zbsome, zpu1, zpu0, cond_true, cond_false, zib0, zib1, zib_ite, zq00, zq20, zq22, zq90, zq99, zq40, zq44, zq100, zq1010, Bool.and_true, if_true, if_false, z1ne0, not_true_eq_false, not_false_eq_true, zite10, eq_self, and_true, true_and, and_false, false_and, ↓reduceIte, Int32.reduceLT, Int32.reduceLE, Int32.reduceAdd, Int32.reduceSub, Int32.reduceMul]
    · simp +decide only [B237_0, B237_5, B237_16, B237_29, B237_32, B237_33, hm, zbsome, zpu1, zpu0, cond_true, cond_false, zib0, zib1, zib_ite, zq00, zq20, zq22, zq90, zq99, zq40, zq44, zq100, zq1010, Bool.and_true, if_true, if_false, z1ne0, not_true_eq_false, not_false_eq_true, zite10, eq_self, and_true, true_and, and_false, false_and, ↓reduceIte, Int32.reduceLT, Int32.reduceLE, Int32.reduceAdd, Int32.reduceSub, Int32.reduceMul]
  have hb := S_body (d + 2) x1 M hp
  rw [if_pos hq] at hb
  obtain ⟨p, hp3, rfl, hp5⟩ := zpl_nI hq (by rw [zI_le]; exact hp.2.1.2)
  have hc2 : (nI p).toNatClampNeg = p := nI_clamp (by omega)
  rw [hc2] at hb
  obtain ⟨⟨g0, g1, g2, g3, g4, g5⟩, k0, k1, k2⟩ := hp.2.2 p hp5
  by_cases ok : 0 ≤ x2 ∧ x2 ≤ 99999
  case neg =>
    have hm := S_isPl (d + 1) (nI p) M hp.2.1
    rw [if_pos hq] at hm
    refine ⟨-1, M, M, ?_, ?_, zFr_refl _ M, hc, hp, yKp_refl M⟩
    · by_cases c : x2 < 0
      · simp +decide only [B138_0, B138_5, B138_20, B138_54, hb, c, zbsome, zpu1, zpu0, cond_true, cond_false, zib0, zib1, zib_ite, zq00, zq20, zq22, zq90, zq99, zq40, zq44, zq100, zq1010, Bool.and_true, if_true, if_false, z1ne0, not_true_eq_false, not_false_eq_true, zite10, eq_self, and_true, true_and, and_false, false_and, ↓reduceIte, Int32.reduceLT, Int32.reduceLE, Int32.reduceAdd, Int32.reduceSub, Int32.reduceMul]
      · have c2 : ¬ x2 ≤ 99999 := fun q => ok ⟨z_nlt_le c, q⟩
        simp +decide only [B138_0, B138_5, B138_20, B138_54, hb, c, c2, zbsome, zpu1, zpu0, cond_true, cond_false, zib0, zib1, zib_ite, zq00, zq20, zq22, zq90, zq99, zq40, zq44, zq100, zq1010, Bool.and_true, if_true, if_false, z1ne0, not_true_eq_false, not_false_eq_true, zite10, eq_self, and_true, true_and, and_false, false_and, ↓reduceIte, Int32.reduceLT, Int32.reduceLE, Int32.reduceAdd, Int32.reduceSub, Int32.reduceMul]
    · simp +decide only [B237_0, B237_5, B237_16, B237_29, B237_32, B237_33, hm, S_in, ok, zbsome, zpu1, zpu0, cond_true, cond_false, zib0, zib1, zib_ite, zq00, zq20, zq22, zq90, zq99, zq40, zq44, zq100, zq1010, Bool.and_true, if_true, if_false, z1ne0, not_true_eq_false, not_false_eq_true, zite10, eq_self, and_true, true_and, and_false, false_and, ↓reduceIte, Int32.reduceLT, Int32.reduceLE, Int32.reduceAdd, Int32.reduceSub, Int32.reduceMul]
  have b1 : ¬ x2 < 0 := z_le_nlt ok.1
  have b2 := ok.2
  have h100 : (100 : Int32) * x2 = x2 * 100 := Int32.mul_comm _ _
  have hr : 0 ≤ x2 * 100 ∧ x2 * 100 ≤ 9999900 := by grind
  have hr' : 0 ≤ (x2 * 100).toInt ∧ (x2 * 100).toInt ≤ 9999900 := by
    rw [zI_le, zI_le] at hr
    exact hr
  have hT : zokT 2 (nI p) := ⟨fun q => absurd q (by decide), fun _ _ => zin_nI hp3 (by omega)⟩
  have hcur : ∀ M', zcur M' 2 (nI p) = zgI M' 71 0 p := fun M' => by
    unfold zcur
    rw [if_neg (by decide), if_neg (by decide), hc2]
  by_cases same : zgI M 71 0 p = x2 * 100
  · have hq' : zpl (zsI M 2 p 1 (x2 * 100)) (nI p) := hq
    have hm := S_isPl (d + 1) (nI p) (zsI M 2 p 1 (x2 * 100)) hp.2.1
    rw [if_pos hq'] at hm
    have e1 := S_chg_eq (d + 2) 2 (nI p) (x2 * 100) zu zu (zsI M 2 p 1 (x2 * 100)) hT ((hcur _).trans same)
    refine ⟨x2 * 100, zsI M 2 p 1 (x2 * 100), zsI M 2 p 1 (x2 * 100), ?_, ?_, ?_, ?_, ?_, yKp_sI (yKp_refl M) (by omega)⟩
    · simp +decide only [B138_0, B138_5, B138_20, B138_54, hb, b1, b2, g1, same, zbsome, zpu1, zpu0, cond_true, cond_false, zib0, zib1, zib_ite, zq00, zq20, zq22, zq90, zq99, zq40, zq44, zq100, zq1010, Bool.and_true, if_true, if_false, z1ne0, not_true_eq_false, not_false_eq_true, zite10, eq_self, and_true, true_and, and_false, false_and, ↓reduceIte, Int32.reduceLT, Int32.reduceLE, Int32.reduceAdd, Int32.reduceSub, Int32.reduceMul]
    · simp +decide only [B237_0, B237_5, B237_16, B237_29, B237_32, B237_33, hm, S_in, ok, h100, e1, zbsome, zpu1, zpu0, cond_true, cond_false, zib0, zib1, zib_ite, zq00, zq20, zq22, zq90, zq99, zq40, zq44, zq100, zq1010, Bool.and_true, if_true, if_false, z1ne0, not_true_eq_false, not_false_eq_true, zite10, eq_self, and_true, true_and, and_false, false_and, ↓reduceIte, Int32.reduceLT, Int32.reduceLE, Int32.reduceAdd, Int32.reduceSub, Int32.reduceMul]
    · refine zFr_sI (zFr_refl _ M) ?_
      rw [show zown 2 p 1 = if p < 10 then 6 else 12 from rfl, if_pos hp3]
      rfl
    · refine Rch_fr (m := zo 6) (zFr_sI (zFr_refl _ M) ?_) rfl rfl (Int.le_refl _) hc
      rw [show zown 2 p 1 = if p < 10 then 6 else 12 from rfl, if_pos hp3]
      rfl
    · refine ⟨hp.1, hp.2.1, fun s hs => ?_⟩
      have w := hp.2.2 s hs
      refine zPl1_eq w (fun t ht => ?_) (fun t h1 h2 => ?_)
      · grind [zgI_sI]
      · grind [zgI_sI]
  · obtain ⟨n, u', q1, q2, q3, q4, q5, q6⟩ := hc
    have hent : zentv (zgI M 13 0 31) (10 + nI p) (zcur M 2 (nI p)) (x2 * 100) 2 (nI p) (zcur M 2 (nI p)) (x2 * 100) := ⟨rfl, rfl, Or.inr (Or.inr ⟨rfl, p, hp5, rfl, by rw [show (10 : Int32) = nI 10 from rfl, nI_add], by rw [hcur]; exact k1, hr'⟩)⟩
    obtain ⟨M1, M2, e1, e2, hM, f, f0⟩ := P_chg d n u' 2 p 1 2 (nI p) (10 + nI p) (x2 * 100) M ⟨by decide, by decide⟩ ⟨by decide, by decide, by decide, by decide⟩ q1 q2 q3 q6 hT (by rw [hcur]; exact same) hent
    rw [hcur] at e1 e2
    have hput : zput (zsI M 2 p 1 (x2 * 100)) 2 (nI p) (x2 * 100) = zsI (zsI M 2 p 1 (x2 * 100)) 71 0 p (x2 * 100) := by
      unfold zput
      rw [if_neg (by decide), if_neg (by decide), hc2]
    rw [hput] at f
    have ow : ∀ t, zown 2 p t = 6 := fun t => by
      rw [show zown 2 p t = if p < 10 then 6 else 12 from rfl, if_pos hp3]
    have e31 : zgI (zsI M1 2 p 1 (x2 * 100)) 13 0 31 = zgI M 13 0 31 := (f0 13 0 31 rfl).1
    have hq' : zpl (zsI M1 2 p 1 (x2 * 100)) (nI p) := by
      unfold zpl
      rw [e31]
      exact hq
    have hm := S_isPl (d + 1) (nI p) (zsI M1 2 p 1 (x2 * 100)) (by rw [e31]; exact hp.2.1)
    rw [if_pos hq'] at hm
    have rd : ∀ k i s, (k = 2 ∧ i < 10) ∨ (k = 12 ∧ s = 12) ∨ (k = 13 ∧ s = 31) ∨ (70 ≤ k ∧ k ≤ 75) → zgI M2 k i s = zgI (zsI (zsI M 2 p 1 (x2 * 100)) 71 0 p (x2 * 100)) k i s := fun k i s hk => (f k i s (by
      rcases hk with ⟨rfl, h⟩ | ⟨rfl, rfl⟩ | ⟨rfl, rfl⟩ | h
      · rw [show zown 2 i s = if i < 10 then 6 else 12 from rfl, if_pos h]; rfl
      · rfl
      · rfl
      · rcases (by omega : k = 70 ∨ k = 71 ∨ k = 72 ∨ k = 73 ∨ k = 74 ∨ k = 75) with rfl | rfl | rfl | rfl | rfl | rfl <;> rfl)).1
    have kp : yKp M M2 := ⟨fun s t hs t1 t2 => by rw [rd 2 s t (by omega)]; grind [zgI_sI], fun k s k1 k2 => by rw [rd k 0 s (by omega)]; grind [zgI_sI], by rw [rd 13 0 31 (by omega)]; rfl⟩
    refine ⟨zgI M 71 0 p, zsI M1 2 p 1 (x2 * 100), M2, ?_, ?_, ?_, hM, ?_, kp⟩
    · simp +decide only [B138_0, B138_5, B138_20, B138_54, hb, b1, b2, g1, same, e1, zbsome, zpu1, zpu0, cond_true, cond_false, zib0, zib1, zib_ite, zq00, zq20, zq22, zq90, zq99, zq40, zq44, zq100, zq1010, Bool.and_true, if_true, if_false, z1ne0, not_true_eq_false, not_false_eq_true, zite10, eq_self, and_true, true_and, and_false, false_and, ↓reduceIte, Int32.reduceLT, Int32.reduceLE, Int32.reduceAdd, Int32.reduceSub, Int32.reduceMul]
    · simp +decide only [B237_0, B237_5, B237_16, B237_29, B237_32, B237_33, hm, S_in, ok, h100, e2, zbsome, zpu1, zpu0, cond_true, cond_false, zib0, zib1, zib_ite, zq00, zq20, zq22, zq90, zq99, zq40, zq44, zq100, zq1010, Bool.and_true, if_true, if_false, z1ne0, not_true_eq_false, not_false_eq_true, zite10, eq_self, and_true, true_and, and_false, false_and, ↓reduceIte, Int32.reduceLT, Int32.reduceLE, Int32.reduceAdd, Int32.reduceSub, Int32.reduceMul]
    · refine zFr_trans (zFr_sI (zFr_sI (zFr_refl _ M) (by rw [ow]; rfl)) rfl) (zFr_mono f (fun n q => ?_))
      unfold zo2 at q
      rw [Bool.or_eq_false_iff] at q
      exact q.2
    · refine ⟨?_, ?_, fun s hs => ?_⟩
      · rw [rd 12 0 12 (by omega), rd 13 0 31 (by omega)]
        exact hp.1
      · rw [rd 13 0 31 (by omega)]
        exact hp.2.1
      · rw [rd 13 0 31 (by omega)] at hs
        have hs : (s : Int) < (zgI M 13 0 31).toInt := hs
        have hs10 : s < 10 := by have := hp.2.1.2; omega
        have w := hp.2.2 s hs
        by_cases e : s = p
        · subst e
          have y1 : zgI M2 2 s 1 = x2 * 100 := by rw [rd 2 s 1 (by omega)]; grind [zgI_sI]
          have y2 : zgI M2 71 0 s = x2 * 100 := by rw [rd 71 0 s (by omega)]; grind [zgI_sI]
          have z : ∀ t, t < 6 → t ≠ 1 → zgI M2 2 s t = zgI M 2 s t := fun t h1 h2 => by rw [rd 2 s t (by omega)]; grind [zgI_sI]
          have z2 : ∀ t, 70 ≤ t → t ≤ 75 → t ≠ 71 → zgI M2 t 0 s = zgI M t 0 s := fun t h1 h2 h3 => by rw [rd t 0 s (by omega)]; grind [zgI_sI]
          rw [y1, y2, z 0 (by omega) (by omega), z 2 (by omega) (by omega), z 3 (by omega) (by omega), z 4 (by omega) (by omega), z 5 (by omega) (by omega), z2 70 (by omega) (by omega) (by omega), z2 72 (by omega) (by omega) (by omega), z2 73 (by omega) (by omega) (by omega), z2 74 (by omega) (by omega) (by omega), z2 75 (by omega) (by omega) (by omega)]
          exact ⟨⟨w.1.1, rfl, w.1.2.2⟩, w.2.1, hr', w.2.2.2⟩
        · refine zPl1_eq w (fun t ht => ?_) (fun t h1 h2 => ?_)
          · rw [rd 2 s t (by omega)]; grind [zgI_sI]
          · rw [rd t 0 s (by omega)]; grind [zgI_sI]
/-- 'undo' -/
theorem Q28b (d : Nat) (M : zM) (hc : Rch M) (hb : zRb M) : ∃ (y : Int32) (M1 M2 : zM), zgo false (d + 3) 158 0 [zr 12 0] [] M = some (some (zi y), M1) ∧ zgo false (d + 3) 205 0 [zr 13 0] [] M1 = some (some (zi y), M2) ∧ zFr zm236 M M2 ∧ Rch M2 ∧ zRb M2 ∧ yKp M M2 := by
  obtain ⟨n, u, h1, h2, h3, h4, h5, h6⟩ := hc
  obtain _ | n := n
  · refine ⟨-5, M, M, ?_, ?_, zFr_refl _ M, ⟨0, u, h1, h2, h3, h4, h5, h6⟩, hb, yKp_refl M⟩
    · have h2' : zgI M 3 0 3 = 0 := h2
      simp +decide only [B158_0, B158_26, B158_41, B158_55, B158_58, h2', zbsome, zpu1, zpu0, cond_true, cond_false, zib0, zib1, zib_ite, zq00, zq20, zq22, zq90, zq99, zq40, zq44, zq100, zq1010, Bool.and_true, if_true, if_false, z1ne0, not_true_eq_false, not_false_eq_true, zite10, eq_self, and_true, true_and, and_false, false_and, ↓reduceIte, Int32.reduceLT, Int32.reduceLE, Int32.reduceAdd, Int32.reduceSub, Int32.reduceMul]
    · have h3' : zgI M 13 0 12 = 0 := h3
      simp +decide only [B205_0, B205_30, B205_61, h3', zbsome, zpu1, zpu0, cond_true, cond_false, zib0, zib1, zib_ite, zq00, zq20, zq22, zq90, zq99, zq40, zq44, zq100, zq1010, Bool.and_true, if_true, if_false, z1ne0, not_true_eq_false, not_false_eq_true, zite10, eq_self, and_true, true_and, and_false, false_and, ↓reduceIte, Int32.reduceLT, Int32.reduceLE, Int32.reduceAdd, Int32.reduceSub, Int32.reduceMul]
  have he := h6 n (by omega)
  obtain ⟨e1, e2, e3⟩ := he
  have he' : zE1 (zgI M 13 0 31) (zgI M 21 0 n) (zgI M 22 0 n) (zgI M 58 0 n) (zgI M 59 0 n) := by
    rw [e1]
    rcases e3 with ⟨a, w, b, c, e, f, g⟩ | ⟨a, b, c, e, f⟩ | ⟨a, p, b, c, e, f, g⟩
    · exact Or.inl ⟨a, w, b, c, e, f⟩
    · exact Or.inr (Or.inl ⟨a, b, c, e⟩)
    · exact Or.inr (Or.inr ⟨a, p, b, c, e, f⟩)
  obtain ⟨k, i, s, k', i', s', r1, r2, r3, r4, r5, r6⟩ := P_bec M hb _ _ _ _ he'
  have ne0 : ¬ nI (n + 1) = 0 := nI_ne0 (by omega) (by omega)
  have p1 : nI (n + 1) - 1 = nI n := nI_pred n
  have c0 : zgI (zsI (zsI M 3 0 3 (nI n)) k i s (zgI M 22 0 n)) 3 0 3 = nI n := by
    rw [zgI_sI, if_neg (by unfold yK6 at r4; omega)]; rfl
  have z1 : zin (nI n) 40 = true := zin_nI (by omega) (by omega)
  have c1 : (nI n).toNatClampNeg = n := nI_clamp (by omega)
  have rd : ∀ k1 s1, (k1 = 13 ∧ s1 ≠ 11) ∨ (58 ≤ k1 ∧ k1 ≤ 61) → zgI (zsI (zsI M 3 0 3 (nI n)) k i s (zgI M 22 0 n)) k1 0 s1 = zgI M k1 0 s1 := fun k1 s1 hk => by
    rw [zgI_sI, if_neg (by unfold yK6 at r4; omega), zgI_sI, if_neg (by omega)]
  have g1 : zgI (zsI (zsI (zsI (zsI M 3 0 3 (nI n)) k i s (zgI M 22 0 n)) 13 0 12 (nI n)) 13 0 13 (nI u + 1)) 13 0 12 = nI n := rfl
  refine ⟨nI n, zsI (zsI M 3 0 3 (nI n)) k i s (zgI M 22 0 n), zsI (zsI (zsI (zsI (zsI M 3 0 3 (nI n)) k i s (zgI M 22 0 n)) 13 0 12 (nI n)) 13 0 13 (nI u + 1)) k' i' s' (zgI M 22 0 n), ?_, ?_, ?_, ?_, ?_, yKp_sI (yKp_sI (yKp_sI (yKp_sI (yKp_sI (yKp_refl M) (by omega)) (by unfold yK6 at r4; omega)) (by omega)) (by omega)) (by unfold yK7 at r5; omega)⟩
  · have q1 := at21n false (d + 1) 0 n (zsI M 3 0 3 (nI n)) (by omega)
    have q2 := at22n false (d + 1) 0 n (zsI M 3 0 3 (nI n)) (by omega)
    have q3 : zgI (zsI M 3 0 3 (nI n)) 21 0 n = zgI M 21 0 n := rfl
    have q4 : zgI (zsI M 3 0 3 (nI n)) 22 0 n = zgI M 22 0 n := rfl
    have q5 : zgI (zsI M 3 0 3 (nI n)) 3 0 3 = nI n := rfl
    rw [q3] at q1
    rw [q4] at q2
    simp +decide only [B158_0, B158_26, B158_41, B158_55, B158_58, B16_0, B16_8, B17_0, B17_8, h2, ne0, p1, q5, q1, q2, r1 d zu (zsI M 3 0 3 (nI n)) rfl, c0, zbsome, zpu1, zpu0, cond_true, cond_false, zib0, zib1, zib_ite, zq00, zq20, zq22, zq90, zq99, zq40, zq44, zq100, zq1010, Bool.and_true, if_true, if_false, z1ne0, not_true_eq_false, not_false_eq_true, zite10, eq_self, and_true, true_and, and_false, false_and, ↓reduceIte, Int32.reduceLT, Int32.reduceLE, Int32.reduceAdd, Int32.reduceSub, Int32.reduceMul]
  · have q0 := rd 13 12 (by omega)
    have q1 := rd 13 13 (by omega)
    have q6 : zgI (zsI (zsI (zsI M 3 0 3 (nI n)) k i s (zgI M 22 0 n)) 13 0 12 (nI n)) 13 0 13 = nI u := (by rw [← h5]; exact q1)
    have q2 : zgI (zsI (zsI (zsI (zsI M 3 0 3 (nI n)) k i s (zgI M 22 0 n)) 13 0 12 (nI n)) 13 0 13 (nI u + 1)) 58 0 n = zgI M 58 0 n := rd 58 n (by omega)
    have q3 : zgI (zsI (zsI (zsI (zsI M 3 0 3 (nI n)) k i s (zgI M 22 0 n)) 13 0 12 (nI n)) 13 0 13 (nI u + 1)) 59 0 n = zgI M 59 0 n := rd 59 n (by omega)
    have q4 : zgI (zsI (zsI (zsI (zsI M 3 0 3 (nI n)) k i s (zgI M 22 0 n)) 13 0 12 (nI n)) 13 0 13 (nI u + 1)) 60 0 n = zgI M 22 0 n := (rd 60 n (by omega)).trans e1.symm
    have q5 := S_put (d + 2) (zgI M 58 0 n) (zgI M 59 0 n) (zgI M 22 0 n) (zsI (zsI (zsI (zsI M 3 0 3 (nI n)) k i s (zgI M 22 0 n)) 13 0 12 (nI n)) 13 0 13 (nI u + 1)) r3
    rw [r2] at q5
    have q7 : zgI (zsI (zsI (zsI (zsI (zsI M 3 0 3 (nI n)) k i s (zgI M 22 0 n)) 13 0 12 (nI n)) 13 0 13 (nI u + 1)) k' i' s' (zgI M 22 0 n)) 13 0 12 = nI n := by
      rw [zgI_sI, if_neg (by unfold yK7 at r5; omega)]; rfl
    simp +decide only [B205_0, B205_30, B205_61, q0, h3, ne0, p1, q6, g1, z1, c1, q2, q3, q4, q5, q7, zbsome, zpu1, zpu0, cond_true, cond_false, zib0, zib1, zib_ite, zq00, zq20, zq22, zq90, zq99, zq40, zq44, zq100, zq1010, Bool.and_true, if_true, if_false, z1ne0, not_true_eq_false, not_false_eq_true, zite10, eq_self, and_true, true_and, and_false, false_and, ↓reduceIte, Int32.reduceLT, Int32.reduceLE, Int32.reduceAdd, Int32.reduceSub, Int32.reduceMul]
  · exact zFr_sI (zFr_sI (zFr_sI (zFr_sI (zFr_sI (zFr_refl _ M) rfl) (yK6_own r4)) rfl) rfl) (yK7_own r5)
  · refine ⟨n, u + 1, by omega, ?_, ?_, ?_, ?_, fun t ht => ?_⟩
    · rw [zgI_sI, if_neg (by unfold yK7 at r5; omega)]
      exact c0
    · rw [zgI_sI, if_neg (by unfold yK7 at r5; omega)]; rfl
    · rw [zgI_sI, if_neg (by unfold yK7 at r5; omega)]
      show zgI (zsI (zsI M 3 0 3 (nI n)) k i s (zgI M 22 0 n)) 3 0 4 = _
      rw [zgI_sI, if_neg (by unfold yK6 at r4; omega)]
      show zgI M 3 0 4 = _
      rw [h4]
      congr 1
      omega
    · rw [zgI_sI, if_neg (by unfold yK7 at r5; omega)]
      exact nI_1 u
    · have rd2 : ∀ k1 s1, (k1 = 13 ∧ s1 = 31) ∨ (58 ≤ k1 ∧ k1 ≤ 61) ∨ (21 ≤ k1 ∧ k1 ≤ 23) → zgI (zsI (zsI (zsI (zsI (zsI M 3 0 3 (nI n)) k i s (zgI M 22 0 n)) 13 0 12 (nI n)) 13 0 13 (nI u + 1)) k' i' s' (zgI M 22 0 n)) k1 0 s1 = zgI M k1 0 s1 := fun k1 s1 hk => by
        rw [zgI_sI, if_neg (by unfold yK7 at r5; omega), zgI_sI, if_neg (by omega), zgI_sI, if_neg (by omega), zgI_sI, if_neg (by unfold yK6 at r4; omega), zgI_sI, if_neg (by omega)]
      unfold zent
      rw [rd2 13 31 (by omega), rd2 21 t (by omega), rd2 22 t (by omega), rd2 23 t (by omega), rd2 58 t (by omega), rd2 59 t (by omega), rd2 60 t (by omega), rd2 61 t (by omega)]
      exact h6 t (by omega)
  · refine zRb_eq r6 (fun a b c q => ⟨?_, rfl, rfl⟩)
    have ne : ∀ x : Nat, ¬ (a = 3 ∧ b = 0 ∧ c = x ∧ (x = 3 ∨ x = 4)) := fun x q1 => by
      obtain ⟨rfl, rfl, rfl, rfl | rfl⟩ := q1
      · cases q
      · cases q
    have ne2 : ∀ x : Nat, ¬ (a = 13 ∧ b = 0 ∧ c = x ∧ (x = 12 ∨ x = 13)) := fun x q1 => by
      obtain ⟨rfl, rfl, rfl, rfl | rfl⟩ := q1
      · cases q
      · cases q
    have n3 := ne 3
    have n12 := ne2 12
    have n13 := ne2 13
    simp only [zgI_sI]
    grind
/-- 'redo' -/
theorem Q29b (d : Nat) (M : zM) (hc : Rch M) (hb : zRb M) : ∃ (y : Int32) (M1 M2 : zM), zgo false (d + 3) 159 0 [zr 12 0] [] M = some (some (zi y), M1) ∧ zgo false (d + 3) 206 0 [zr 13 0] [] M1 = some (some (zi y), M2) ∧ zFr zm236 M M2 ∧ Rch M2 ∧ zRb M2 ∧ yKp M M2 := by
  obtain ⟨n, u, h1, h2, h3, h4, h5, h6⟩ := hc
  obtain _ | u := u
  · refine ⟨-5, M, M, ?_, ?_, zFr_refl _ M, ⟨n, 0, h1, h2, h3, h4, h5, h6⟩, hb, yKp_refl M⟩
    · have c : ¬ nI n < nI (n + 0) := nI_nlt (by omega) (by omega)
      simp +decide only [B159_0, B159_35, B159_49, B159_52, h2, h4, c, zbsome, zpu1, zpu0, cond_true, cond_false, zib0, zib1, zib_ite, zq00, zq20, zq22, zq90, zq99, zq40, zq44, zq100, zq1010, Bool.and_true, if_true, if_false, z1ne0, not_true_eq_false, not_false_eq_true, zite10, eq_self, and_true, true_and, and_false, false_and, ↓reduceIte, Int32.reduceLT, Int32.reduceLE, Int32.reduceAdd, Int32.reduceSub, Int32.reduceMul]
    · have h5' : zgI M 13 0 13 = 0 := h5
      simp +decide only [B206_0, B206_41, B206_61, h5', zbsome, zpu1, zpu0, cond_true, cond_false, zib0, zib1, zib_ite, zq00, zq20, zq22, zq90, zq99, zq40, zq44, zq100, zq1010, Bool.and_true, if_true, if_false, z1ne0, not_true_eq_false, not_false_eq_true, zite10, eq_self, and_true, true_and, and_false, false_and, ↓reduceIte, Int32.reduceLT, Int32.reduceLE, Int32.reduceAdd, Int32.reduceSub, Int32.reduceMul]
  have he := h6 n (by omega)
  obtain ⟨e1, e2, e3⟩ := he
  have he' : zE1 (zgI M 13 0 31) (zgI M 21 0 n) (zgI M 23 0 n) (zgI M 58 0 n) (zgI M 59 0 n) := by
    rw [e2]
    rcases e3 with ⟨a, w, b, c, e, f, g⟩ | ⟨a, b, c, e, f⟩ | ⟨a, p, b, c, e, f, g⟩
    · exact Or.inl ⟨a, w, b, c, e, g⟩
    · exact Or.inr (Or.inl ⟨a, b, c, f⟩)
    · exact Or.inr (Or.inr ⟨a, p, b, c, e, g⟩)
  obtain ⟨k, i, s, k', i', s', r1, r2, r3, r4, r5, r6⟩ := P_bec M hb _ _ _ _ he'
  have lt : nI n < nI (n + (u + 1)) := nI_lt (by omega) (by omega)
  have ne0 : ¬ nI (u + 1) = 0 := nI_ne0 (by omega) (by omega)
  have z1 : zin (nI n) 40 = true := zin_nI (by omega) (by omega)
  have c1 : (nI n).toNatClampNeg = n := nI_clamp (by omega)
  have hs1 : nI n + 1 = nI (n + 1) := nI_1 n
  have c3 : ∀ t, t = 3 ∨ t = 4 → zgI (zsI M k i s (zgI M 23 0 n)) 3 0 t = zgI M 3 0 t := fun t ht => by
    rw [zgI_sI, if_neg (by unfold yK6 at r4; omega)]
  have rd : ∀ k1 s1, (k1 = 13 ∧ s1 ≠ 11) ∨ (58 ≤ k1 ∧ k1 ≤ 61) → zgI (zsI (zsI M k i s (zgI M 23 0 n)) 3 0 3 (nI (n + 1))) k1 0 s1 = zgI M k1 0 s1 := fun k1 s1 hk => by
    rw [zgI_sI, if_neg (by omega), zgI_sI, if_neg (by unfold yK6 at r4; omega)]
  have rd' : ∀ s1, s1 ≠ 11 → zgI (zsI (zsI (zsI M k i s (zgI M 23 0 n)) 3 0 3 (nI (n + 1))) k' i' s' (zgI M 23 0 n)) 13 0 s1 = zgI M 13 0 s1 := fun s1 hk => by
    rw [zgI_sI, if_neg (by unfold yK7 at r5; omega)]
    exact rd 13 s1 (by omega)
  refine ⟨nI u, zsI (zsI M k i s (zgI M 23 0 n)) 3 0 3 (nI (n + 1)), zsI (zsI (zsI (zsI (zsI M k i s (zgI M 23 0 n)) 3 0 3 (nI (n + 1))) k' i' s' (zgI M 23 0 n)) 13 0 12 (nI (n + 1))) 13 0 13 (nI u), ?_, ?_, ?_, ?_, ?_, yKp_sI (yKp_sI (yKp_sI (yKp_sI (yKp_sI (yKp_refl M) (by unfold yK6 at r4; omega)) (by omega)) (by unfold yK7 at r5; omega)) (by omega)) (by omega)⟩
  · have q1 := at21n false (d + 1) 0 n M (by omega)
    have q2 := at23n false (d + 1) 0 n M (by omega)
    have q3 : zgI (zsI (zsI M k i s (zgI M 23 0 n)) 3 0 3 (nI (n + 1))) 3 0 4 = nI (n + (u + 1)) := (c3 4 (by omega)).trans h4
    have q4 : zgI (zsI (zsI M k i s (zgI M 23 0 n)) 3 0 3 (nI (n + 1))) 3 0 3 = nI (n + 1) := rfl
    have q5 : nI (n + (u + 1)) - nI (n + 1) = nI u := by
      rw [pk_sub (by omega)]
      congr 1
      omega
    simp +decide only [B159_0, B159_35, B159_49, B159_52, B16_0, B16_8, B18_0, B18_8, h2, h4, lt, q1, q2, r1 d zu M rfl, c3 3 (by omega), hs1, q3, q4, q5, zbsome, zpu1, zpu0, cond_true, cond_false, zib0, zib1, zib_ite, zq00, zq20, zq22, zq90, zq99, zq40, zq44, zq100, zq1010, Bool.and_true, if_true, if_false, z1ne0, not_true_eq_false, not_false_eq_true, zite10, eq_self, and_true, true_and, and_false, false_and, ↓reduceIte, Int32.reduceLT, Int32.reduceLE, Int32.reduceAdd, Int32.reduceSub, Int32.reduceMul]
  · have q0 := rd 13 12 (by omega)
    have q1 := rd 13 13 (by omega)
    have q2 := rd 58 n (by omega)
    have q3 := rd 59 n (by omega)
    have q4 := (rd 61 n (by omega)).trans e2.symm
    have q5 := S_put (d + 2) (zgI M 58 0 n) (zgI M 59 0 n) (zgI M 23 0 n) (zsI (zsI M k i s (zgI M 23 0 n)) 3 0 3 (nI (n + 1))) r3
    rw [r2] at q5
    have q6 := (rd' 12 (by omega)).trans h3
    have q7 : zgI (zsI (zsI (zsI (zsI M k i s (zgI M 23 0 n)) 3 0 3 (nI (n + 1))) k' i' s' (zgI M 23 0 n)) 13 0 12 (nI (n + 1))) 13 0 13 = nI (u + 1) := (rd' 13 (by omega)).trans h5
    have q8 : nI (u + 1) - 1 = nI u := nI_pred u
    have q9 : zgI (zsI (zsI (zsI (zsI (zsI M k i s (zgI M 23 0 n)) 3 0 3 (nI (n + 1))) k' i' s' (zgI M 23 0 n)) 13 0 12 (nI (n + 1))) 13 0 13 (nI u)) 13 0 13 = nI u := rfl
    simp +decide only [B206_0, B206_41, B206_61, q0, q1, h3, h5, ne0, z1, c1, q2, q3, q4, q5, q6, hs1, q7, q8, q9, zbsome, zpu1, zpu0, cond_true, cond_false, zib0, zib1, zib_ite, zq00, zq20, zq22, zq90, zq99, zq40, zq44, zq100, zq1010, Bool.and_true, if_true, if_false, z1ne0, not_true_eq_false, not_false_eq_true, zite10, eq_self, and_true, true_and, and_false, false_and, ↓reduceIte, Int32.reduceLT, Int32.reduceLE, Int32.reduceAdd, Int32.reduceSub, Int32.reduceMul]
  · exact zFr_sI (zFr_sI (zFr_sI (zFr_sI (zFr_sI (zFr_refl _ M) (yK6_own r4)) rfl) (yK7_own r5)) rfl) rfl
  · refine ⟨n + 1, u, by omega, ?_, rfl, ?_, rfl, fun t ht => ?_⟩
    · show zgI (zsI (zsI (zsI M k i s (zgI M 23 0 n)) 3 0 3 (nI (n + 1))) k' i' s' (zgI M 23 0 n)) 3 0 3 = _
      rw [zgI_sI, if_neg (by unfold yK7 at r5; omega)]; rfl
    · show zgI (zsI (zsI (zsI M k i s (zgI M 23 0 n)) 3 0 3 (nI (n + 1))) k' i' s' (zgI M 23 0 n)) 3 0 4 = _
      rw [zgI_sI, if_neg (by unfold yK7 at r5; omega)]
      show zgI (zsI M k i s (zgI M 23 0 n)) 3 0 4 = _
      rw [c3 4 (by omega), h4]
      congr 1
      omega
    · have rd2 : ∀ k1 s1, (k1 = 13 ∧ s1 = 31) ∨ (58 ≤ k1 ∧ k1 ≤ 61) ∨ (21 ≤ k1 ∧ k1 ≤ 23) → zgI (zsI (zsI (zsI (zsI (zsI M k i s (zgI M 23 0 n)) 3 0 3 (nI (n + 1))) k' i' s' (zgI M 23 0 n)) 13 0 12 (nI (n + 1))) 13 0 13 (nI u)) k1 0 s1 = zgI M k1 0 s1 := fun k1 s1 hk => by
        rw [zgI_sI, if_neg (by omega), zgI_sI, if_neg (by omega), zgI_sI, if_neg (by unfold yK7 at r5; omega), zgI_sI, if_neg (by omega), zgI_sI, if_neg (by unfold yK6 at r4; omega)]
      unfold zent
      rw [rd2 13 31 (by omega), rd2 21 t (by omega), rd2 22 t (by omega), rd2 23 t (by omega), rd2 58 t (by omega), rd2 59 t (by omega), rd2 60 t (by omega), rd2 61 t (by omega)]
      exact h6 t (by omega)
  · refine zRb_eq r6 (fun a b c q => ⟨?_, rfl, rfl⟩)
    have ne : ∀ x : Nat, ¬ (a = 3 ∧ b = 0 ∧ c = x ∧ (x = 3 ∨ x = 4)) := fun x q1 => by
      obtain ⟨rfl, rfl, rfl, rfl | rfl⟩ := q1
      · cases q
      · cases q
    have ne2 : ∀ x : Nat, ¬ (a = 13 ∧ b = 0 ∧ c = x ∧ (x = 12 ∨ x = 13)) := fun x q1 => by
      obtain ⟨rfl, rfl, rfl, rfl | rfl⟩ := q1
      · cases q
      · cases q
    have n3 := ne 3
    have n12 := ne2 12
    have n13 := ne2 13
    simp only [zgI_sI]
    grind
