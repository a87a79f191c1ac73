/-! ===== 'text' ===== -/
theorem yText {n : Nat} {t : Nat → Nat} (dA dB : Nat) (x1 : Int32) (u2 : zV) : ∀ (f p : Nat) (A B : zM) (T : List (List yOp × List yOp)), n < p + f → yRe n t A B p p T → ∃ (v : Option zV) (A' B' : zM), zgo false (dA + 62) 83 12 [zr 8 0, zi (nI T.length)] [] A = some (v, A') ∧ ((zgo false (dB + 61) 223 0 [zr 13 0, zu] [] B).bind fun q => zgo false (dB + 62) 224 42 [zr 13 0, zi x1, u2] (zpush q.1 []) q.2) = zgo false (dB + 62) 224 97 [zr 13 0, zi x1, u2] [] B' ∧ zFo yGa A A' ∧ zFo yGb B B' ∧ ((v = some (zi 1) ∧ zgI B' 13 0 21 = -1 ∧ ∃ T', yRe n t A' B' n (n + 1) T') ∨ (v = some (zi 0) ∧ ∃ q, q ≤ n ∧ zgI A' 8 0 3 = nI q ∧ zgI B' 13 0 21 = nI q))
  | 0, p, A, B, T, hf, R => by
    have := R.1.1
    omega
  | f + 1, p, A, B, T, hf, R => by
    have hT := R.2.2.2.2.2.2.2.1
    have hU := R.2.2.2.2.2.2.2.2.1
    have hn := hT.1
    have hlen : 2 * T.length ≤ p := R.1.2.2.2
    have hp := R.1.1
    have c120 : ¬ (120 : Int32) < nI T.length := nI_nlt (a := 120) (by omega) (by omega)
    obtain ⟨v, A1, B1, e1, e2, f1, g1, r⟩ := yLine dA dB p A B T zu R
    have kc : zgo false (dA + 62) 83 12 [zr 8 0, zi (nI T.length)] [] A = zgo false (dA + 62) 83 22 [zr 8 0, zi (nI T.length)] (zpush v []) A1 := by
      rw [B83_12, if_neg c120, e1]
      rfl
    rw [kc, e2, zbsome]
    have hT1 := yTpA_g hT f1
    have hU1 := yTpB_g hU g1
    rcases r with ⟨hv, q, p', hp', R'⟩ | ⟨q, h, hv, q1, q2, d1, d3, d4⟩
    · subst hv
      obtain ⟨⟨a1, a2, a3, a4⟩, b1, b2, b3, b4, b5, b6, hT', hU', hS, hM, b7, hW, hN⟩ := R'
      have hL := fun d => S211y d hT' hU' b3 a1
      have hSg := fun d => S89y d hT' b1 a1
      have hc : yC n t p' ≤ 256 := yC_le hT.2.1 p'
      have no0 : ¬ (0 : Int32) ≤ -1 := by decide
      by_cases hn' : p' < n
      · have c1 : nI p' < nI n := nI_lt hn' (by omega)
        have c2 : ¬ nI n ≤ nI p' := nI_ge hn' (by omega)
        by_cases h59 : yC n t p' = 59
        · have R2 : yRe n t (zsI A1 8 0 3 (nI (p' + 1))) (zsI B1 13 0 20 (nI (p' + 1))) (p' + 1) (p' + 1) (T ++ [q]) := ⟨⟨by omega, a2, by omega, a4⟩, rfl, b2, rfl, b4, b5, b6, hT', hU', ySg_fr hS (fun s _ _ => by rw [zgI_sI, if_neg (by omega)]), yMl_lo hM (fun k s k1 _ _ => by rw [zgI_sI, if_neg (by omega)]) (fun k s k1 _ _ => by rw [zgI_sI, if_neg (by omega)]), b7, hW, hN⟩
          obtain ⟨v, A2, B2, e3, e4, f2, g2, r⟩ := yText dA dB x1 u2 f (p' + 1) _ _ _ (by omega) R2
          refine ⟨v, A2, B2, ?_, ?_, zFo_trans f1 (zFo_trans (zFo_sI (zFo_refl _ A1) ⟨rfl, Or.inl ⟨rfl, Or.inl rfl⟩⟩) f2), zFo_trans g1 (zFo_trans (zFo_sI (zFo_refl _ B1) ⟨rfl, by omega⟩) g2), r⟩
          · rw [← e3]
            have l1 : (T ++ [q]).length = T.length + 1 := by rw [List.length_append]; rfl
            simp +decide only [B83_22, B83_44, b1, hT'.2.2.1, c1, hSg, yS59 hc, h59, nI_1, l1, zbsome, zpu1, zpu0, cond_true, cond_false, zib0, zib1, zib_ite, zq00, zq20, zq22, zq90, zq99, zq40, zq44, zq100, zq1010, Bool.and_true, if_true, if_false, z1ne0, not_true_eq_false, not_false_eq_true, zite10, eq_self, and_true, true_and, and_false, false_and, ↓reduceIte, Int32.reduceLT, Int32.reduceLE, Int32.reduceAdd, Int32.reduceSub, Int32.reduceMul]
          · obtain ⟨v', A1', B1', -, e5, -⟩ := yLine dA dB (p' + 1) _ _ _ zu R2
            rw [← e4, e5]
            simp +decide only [B224_42, B224_53, B224_72, b4, no0, hL, yL59 hc, h59, b3, nI_1, e5, zbsome, zpu1, zpu0, cond_true, cond_false, zib0, zib1, zib_ite, zq00, zq20, zq22, zq90, zq99, zq40, zq44, zq100, zq1010, Bool.and_true, if_true, if_false, z1ne0, not_true_eq_false, not_false_eq_true, zite10, eq_self, and_true, true_and, and_false, false_and, ↓reduceIte, Int32.reduceLT, Int32.reduceLE, Int32.reduceAdd, Int32.reduceSub, Int32.reduceMul]
        · refine ⟨some (zi 0), A1, zsI B1 13 0 21 (nI p'), ?_, ?_, f1, zFo_trans g1 (zFo_sI (zFo_refl _ B1) ⟨rfl, by omega⟩), Or.inr ⟨rfl, p', a1, b1, rfl⟩⟩
          · simp +decide only [B83_22, B83_44, b1, hT'.2.2.1, c1, hSg, yS59 hc, h59, zbsome, zpu1, zpu0, cond_true, cond_false, zib0, zib1, zib_ite, zq00, zq20, zq22, zq90, zq99, zq40, zq44, zq100, zq1010, Bool.and_true, if_true, if_false, z1ne0, not_true_eq_false, not_false_eq_true, zite10, eq_self, and_true, true_and, and_false, false_and, ↓reduceIte, Int32.reduceLT, Int32.reduceLE, Int32.reduceAdd, Int32.reduceSub, Int32.reduceMul]
          · simp +decide only [B224_42, B224_53, B224_75, b4, no0, hL, yL59 hc, h59, b3, hU'.1, c2, S212y _ b4 b3, zbsome, zpu1, zpu0, cond_true, cond_false, zib0, zib1, zib_ite, zq00, zq20, zq22, zq90, zq99, zq40, zq44, zq100, zq1010, Bool.and_true, if_true, if_false, z1ne0, not_true_eq_false, not_false_eq_true, zite10, eq_self, and_true, true_and, and_false, false_and, ↓reduceIte, Int32.reduceLT, Int32.reduceLE, Int32.reduceAdd, Int32.reduceSub, Int32.reduceMul]
      · have hpn : p' = n := by omega
        subst hpn
        have c1 : ¬ nI p' < nI p' := nI_nlt (Nat.le_refl _) (by omega)
        have c2 : nI p' ≤ nI p' := nI_le (Nat.le_refl _) (by omega)
        have h59 : ¬ yC p' t p' = 59 := by
          unfold yC
          rw [if_neg (by omega)]
          decide
        refine ⟨some (zi 1), A1, B1, ?_, ?_, f1, g1, Or.inl ⟨rfl, b4, T ++ [q], ⟨a1, a2, a3, a4⟩, b1, b2, b3, b4, b5, b6, hT', hU', hS, hM, b7, hW, hN⟩⟩
        · simp +decide only [B83_22, b1, hT'.2.2.1, c1, zbsome, zpu1, zpu0, cond_true, cond_false, zib0, zib1, zib_ite, zq00, zq20, zq22, zq90, zq99, zq40, zq44, zq100, zq1010, Bool.and_true, if_true, if_false, z1ne0, not_true_eq_false, not_false_eq_true, zite10, eq_self, and_true, true_and, and_false, false_and, ↓reduceIte, Int32.reduceLT, Int32.reduceLE, Int32.reduceAdd, Int32.reduceSub, Int32.reduceMul]
        · simp +decide only [B224_42, B224_53, B224_75, b4, no0, hL, yL59 hc, h59, b3, hU'.1, c2, zbsome, zpu1, zpu0, cond_true, cond_false, zib0, zib1, zib_ite, zq00, zq20, zq22, zq90, zq99, zq40, zq44, zq100, zq1010, Bool.and_true, if_true, if_false, z1ne0, not_true_eq_false, not_false_eq_true, zite10, eq_self, and_true, true_and, and_false, false_and, ↓reduceIte, Int32.reduceLT, Int32.reduceLE, Int32.reduceAdd, Int32.reduceSub, Int32.reduceMul]
    · have km : zgo false (dB + 62) 224 42 [zr 13 0, zi x1, u2] (zpush none []) B1 = zgo false (dB + 62) 224 97 [zr 13 0, zi x1, u2] [] B1 := by
        simp +decide only [B224_42, B224_75, d3, yPos0 (show q < 2 ^ 31 by omega), zbsome, zpu1, zpu0, cond_true, cond_false, zib0, zib1, zib_ite, zq00, zq20, zq22, zq90, zq99, zq40, zq44, zq100, zq1010, Bool.and_true, if_true, if_false, z1ne0, not_true_eq_false, not_false_eq_true, zite10, eq_self, and_true, true_and, and_false, false_and, ↓reduceIte, Int32.reduceLT, Int32.reduceLE, Int32.reduceAdd, Int32.reduceSub, Int32.reduceMul]
      refine ⟨some (zi 0), A1, B1, ?_, km, f1, g1, Or.inr ⟨rfl, q, q1, d1, d3⟩⟩
      rcases hv with hv | ⟨hv, hq, hd⟩
      · subst hv
        simp +decide only [B83_22, zbsome, zpu1, zpu0, cond_true, cond_false, zib0, zib1, zib_ite, zq00, zq20, zq22, zq90, zq99, zq40, zq44, zq100, zq1010, Bool.and_true, if_true, if_false, z1ne0, not_true_eq_false, not_false_eq_true, zite10, eq_self, and_true, true_and, and_false, false_and, ↓reduceIte, Int32.reduceLT, Int32.reduceLE, Int32.reduceAdd, Int32.reduceSub, Int32.reduceMul]
      · subst hv
        have c1 : nI q < nI n := nI_lt hq (by omega)
        have hcq := yC_eq (t := t) hq
        unfold yDg at hd
        have hc2 : yC n t q ≤ 256 := yC_le hT.2.1 q
        simp +decide only [B83_22, B83_44, d1, hT1.2.2.1, c1, S89y _ hT1 d1 q1, yS59 hc2, show ¬ yC n t q = 59 by omega, zbsome, zpu1, zpu0, cond_true, cond_false, zib0, zib1, zib_ite, zq00, zq20, zq22, zq90, zq99, zq40, zq44, zq100, zq1010, Bool.and_true, if_true, if_false, z1ne0, not_true_eq_false, not_false_eq_true, zite10, eq_self, and_true, true_and, and_false, false_and, ↓reduceIte, Int32.reduceLT, Int32.reduceLE, Int32.reduceAdd, Int32.reduceSub, Int32.reduceMul]
/-! taken over -/
theorem L122 (d u z : Nat) (hz : z ≤ 128) : ∀ (j k : Nat) (M : zM), k + j = z → ∃ M', zgo false (d + 1) 122 2 [zr 11 u, zr 44 0, zi (nI z), zi (nI k)] [] M = some (none, M') ∧ zFo (fun a b c => b = u ∧ ((a = 48 ∧ k ≤ c) ∨ (a = 11 ∧ c = 2))) M M' ∧ zgI M' 11 u 2 = nI z ∧ ∀ s, k ≤ s → s < z → zgI M' 48 u s = zgI M 44 0 s
  | 0, k, M, hk => by
    have hk : k = z := hk
    subst hk
    refine ⟨zsI M 11 u 2 (nI k), ?_, zFo_sI (zFo_refl _ M) ⟨rfl, Or.inr ⟨rfl, rfl⟩⟩, by simp [zgI_sI], fun s s1 s2 => by omega⟩
    rw [B122_2, if_pos (nI_le (by omega) (by omega))]
  | j + 1, k, M, hk => by
    obtain ⟨M', e, f, v2, v⟩ := L122 d u z hz j (k + 1) (zsI M 48 u k (zgI M 44 0 k)) (by omega)
    refine ⟨M', ?_, zFo_trans (zFo_sI (zFo_refl _ M) ⟨rfl, Or.inl ⟨rfl, Nat.le_refl _⟩⟩) (zFo_mono f (fun a b c q => ⟨q.1, q.2.imp (fun r => ⟨r.1, by omega⟩) id⟩)), v2, fun s s1 s2 => ?_⟩
    · rw [B122_2, if_neg (nI_ge (by omega) (by omega)), at44n _ _ _ _ _ (by omega), zbsome]
      show zgo false (d + 1) 122 17 [zr 11 u, zr 44 0, zi (nI z), zi (nI k)] [zi (zgI M 44 0 k), zi (nI k), zr 48 u] M = _
      rw [B122_17, se48n _ _ _ _ _ _ (by omega), zbsome, zpu0, B122_20, nI_1]
      exact e
    · rcases Nat.lt_or_ge k s with q | q
      · rw [v s (by omega) s2, zgI_sI, if_neg (by omega)]
      · have q : s = k := by omega
        subst q
        rw [(f 48 u s (by omega)).1, zgI_sI, if_pos ⟨rfl, rfl, rfl⟩]
/-- the tags, from the text of use 1 -/
theorem L33 (d : Nat) (T : List (List yOp × List yOp)) (hw : yWT T) (hl : yLn T) : ∀ (j v : Nat) (M : zM), v + j = 11 → 1 ≤ v → yCl M 1 T → ∃ M', zgo false (d + 4) 33 2 [zr 5 0, zi (nI v)] [] M = some (none, M') ∧ zFo (fun a b c => (b = 0 ∧ ((a = 30 ∧ v ≤ c) ∨ a = 31)) ∨ (b = 1 ∧ (a = 49 ∨ (a = 11 ∧ c = 3)))) M M' ∧ ∀ s, v ≤ s → s ≤ 10 → zgI M' 30 0 s = yTag T s
  | 0, v, M, hv, h1, hc => by
    have hv : v = 11 := hv
    subst hv
    refine ⟨M, ?_, zFo_refl _ M, fun s s1 s2 => by omega⟩
    rw [B33_2, if_pos (by decide)]
  | j + 1, v, M, hv, h1, hc => by
    obtain ⟨M1, e1, f1, v1⟩ := S121 (d + 2) zu M
    have f2 : zFo (fun a b _ => a = 31 ∧ b = 0) M (zsI M1 31 0 4 (nI v)) := zFo_trans f1 (zFo_sI (zFo_refl _ M1) ⟨rfl, rfl⟩)
    have hc2 : yCl (zsI M1 31 0 4 (nI v)) 1 T := yCl_fr hc ((f2 11 1 2 (by omega)).1) (fun s => (f2 48 1 s (by omega)).1)
    obtain ⟨M2, e2, f3⟩ := S124 d 1 zu zu zu T (zsI M1 31 0 4 (nI v)) hw hl hc2
    have nm : yTx (fun k => zgI (zsI M1 31 0 4 (nI v)) 31 0 k) T = yTx (fun k => if k = 4 then nI v else 0) T := yTx_congr (fun k hk => by
      rw [zgI_sI]
      by_cases q : k = 4
      · rw [if_pos ⟨rfl, rfl, q⟩, if_pos q]
      · rw [if_neg (by omega), if_neg q]
        exact v1 k hk) hw
    rw [nm] at e2
    have f4 : zFo (fun a b c => (b = 0 ∧ ((a = 30 ∧ v ≤ c) ∨ a = 31)) ∨ (b = 1 ∧ (a = 49 ∨ (a = 11 ∧ c = 3)))) M (zsI M2 30 0 v (yTag T v)) := zFo_trans (zFo_mono f2 (fun a b c q => Or.inl ⟨q.2, Or.inr q.1⟩)) (zFo_trans (zFo_mono f3 (fun a b c q => Or.inr q)) (zFo_sI (zFo_refl _ M2) (Or.inl ⟨rfl, Or.inl ⟨rfl, Nat.le_refl _⟩⟩)))
    obtain ⟨M', e, f, w⟩ := L33 d T hw hl j (v + 1) (zsI M2 30 0 v (yTag T v)) (by omega) (by omega) (yCl_fr hc ((f4 11 1 2 (by omega)).1) (fun s => (f4 48 1 s (by omega)).1))
    refine ⟨M', ?_, zFo_trans f4 (zFo_mono f (fun a b c q => by omega)), fun s s1 s2 => ?_⟩
    · have c10 : ¬ (10 : Int32) < nI v := nI_nlt (a := 10) (by omega) (by omega)
      have k4 : ∀ M, zgo false (d + 3) 170 0 [zr 31 0, zi 4, zi (nI v)] [] M = some (none, zsI M 31 0 4 (nI v)) := fun M => se31n _ _ _ 4 _ _ (by omega)
      rw [B33_2, if_neg c10, e1, zbsome, zpu0, B33_15, k4, zbsome, zpu0, B33_24, e2, zbsome]
      show zgo false (d + 4) 33 40 [zr 5 0, zi (nI v)] [zi (yTx (fun k => if k = 4 then nI v else 0) T), zi (nI v), zr 30 0] M2 = _
      rw [B33_40, S171y _ _ _ _ _ _ (by decide), zbsome]
      show zgo false (d + 4) 33 47 [zr 5 0, zi (nI v)] [zi (yTag T v), zi (nI v), zr 30 0] M2 = _
      rw [B33_47, se30n _ _ _ _ _ _ (by omega), zbsome, zpu0, B33_50, nI_1]
      exact e
    · rcases Nat.lt_or_ge v s with q | q
      · exact w s (by omega) s2
      · have q : s = v := by omega
        subst q
        rw [(f 30 0 s (by omega)).1, zgI_sI, if_pos ⟨rfl, rfl, rfl⟩]
/-! taken over, by the model -/
theorem L224a (d u m : Nat) (hu : u < 4) (hm : m ≤ 130) : ∀ (j i : Nat) (B : zM), i + j = m → zgI B 13 0 23 = nI m → ∃ B', zgo false d 224 119 [zr 13 0, zi (nI u), zi (nI i)] [] B = zgo false d 224 119 [zr 13 0, zi (nI u), zi (nI m)] [] B' ∧ zFo (fun a b c => b = 0 ∧ (a = 63 ∨ a = 64) ∧ 130 * u + i ≤ c ∧ c < 130 * u + 130) B B' ∧ ∀ s, i ≤ s → s < m → zgI B' 63 0 (130 * u + s) = (zgI B 63 0 (520 + s)).toInt8.toInt32 ∧ zgI B' 64 0 (130 * u + s) = zgI B 64 0 (520 + s)
  | 0, i, B, hi, h => by
    have hi : i = m := hi
    subst hi
    exact ⟨B, rfl, zFo_refl _ B, fun s s1 s2 => by omega⟩
  | j + 1, i, B, hi, h => by
    have hx : (520 : Int32) + nI i = nI (520 + i) := by rw [show (520 : Int32) = nI 520 from rfl, nI_add]
    have hy : 130 * nI u + nI i = nI (130 * u + i) := by rw [show (130 : Int32) = nI 130 from rfl, pk_mul, nI_add]
    have zx : zin (nI (520 + i)) 650 = true := zin_nI (by omega) (by omega)
    have zy : zin (nI (130 * u + i)) 650 = true := zin_nI (by omega) (by omega)
    have cx : (nI (520 + i)).toNatClampNeg = 520 + i := nI_clamp (by omega)
    have cy : (nI (130 * u + i)).toNatClampNeg = 130 * u + i := nI_clamp (by omega)
    let C := zsI (zsI B 63 0 (130 * u + i) (zgI B 63 0 (520 + i)).toInt8.toInt32) 64 0 (130 * u + i) (zgI B 64 0 (520 + i))
    have fC : zFo (fun a b c => b = 0 ∧ (a = 63 ∨ a = 64) ∧ 130 * u + i ≤ c ∧ c < 130 * u + 130) B C := zFo_sI (zFo_sI (zFo_refl _ B) ⟨rfl, Or.inl rfl, by omega, by omega⟩) ⟨rfl, Or.inr rfl, by omega, by omega⟩
    obtain ⟨B', e, f, v⟩ := L224a d u m hu hm j (i + 1) C (by omega) h
    refine ⟨B', ?_, zFo_trans fC (zFo_mono f (fun a b c q => by omega)), fun s s1 s2 => ?_⟩
    · rw [← e, B224_119, if_neg (by rw [h]; exact nI_ge (by omega) (by omega))]
      have e64 : ∀ w, zgI (zsI B 63 0 (130 * u + i) w) 64 0 (520 + i) = zgI B 64 0 (520 + i) := fun w => by rw [zgI_sI, if_neg (by omega)]
      simp +decide only [hx, hy, zx, zy, cx, cy, B224_149, B224_171, nI_1, e64, zbsome, zpu1, zpu0, cond_true, cond_false, zib0, zib1, zib_ite, zq00, zq20, zq22, zq90, zq99, zq40, zq44, zq100, zq1010, Bool.and_true, if_true, if_false, z1ne0, not_true_eq_false, not_false_eq_true, zite10, eq_self, and_true, true_and, and_false, false_and, ↓reduceIte, Int32.reduceLT, Int32.reduceLE, Int32.reduceAdd, Int32.reduceSub, Int32.reduceMul]
      rfl
    · rcases Nat.lt_or_ge i s with q | q
      · have w := v s (by omega) s2
        rw [w.1, w.2]
        exact ⟨by rw [(fC 63 0 (520 + s) (by omega)).1], (fC 64 0 (520 + s) (by omega)).1⟩
      · have q : s = i := by omega
        subst q
        rw [(f 63 0 (130 * u + s) (by omega)).1, (f 64 0 (130 * u + s) (by omega)).1]
        refine ⟨?_, ?_⟩
        · rw [zgI_sI, if_neg (by omega), zgI_sI, if_pos ⟨rfl, rfl, rfl⟩]
        · rw [zgI_sI, if_pos ⟨rfl, rfl, rfl⟩]
theorem L224b (d u m : Nat) (hu : u < 4) (hm : m ≤ 61) : ∀ (j i : Nat) (B : zM), i + j = m → zgI B 65 0 u = nI m → ∃ B', zgo false d 224 191 [zr 13 0, zi (nI u), zi (nI i)] [] B = some (some (zi 1), B') ∧ zFo (fun a b c => b = 0 ∧ (a = 66 ∨ a = 67) ∧ 61 * u + i ≤ c ∧ c < 61 * u + 61) B B' ∧ ∀ s, i ≤ s → s < m → zgI B' 66 0 (61 * u + s) = (zgI B 66 0 (244 + s)).toInt16.toInt32 ∧ zgI B' 67 0 (61 * u + s) = (zgI B 67 0 (244 + s)).toInt16.toInt32
  | 0, i, B, hi, h => by
    have hi : i = m := hi
    subst hi
    have zu5 : zin (nI u) 5 = true := zin_nI (by omega) (by omega)
    have cu : (nI u).toNatClampNeg = u := nI_clamp (by omega)
    refine ⟨B, ?_, zFo_refl _ B, fun s s1 s2 => by omega⟩
    rw [B224_191, if_pos zu5, cu, h, if_pos (nI_le (Nat.le_refl _) (by omega))]
  | j + 1, i, B, hi, h => by
    have zu5 : zin (nI u) 5 = true := zin_nI (by omega) (by omega)
    have cu : (nI u).toNatClampNeg = u := nI_clamp (by omega)
    have hx : (244 : Int32) + nI i = nI (244 + i) := by rw [show (244 : Int32) = nI 244 from rfl, nI_add]
    have hy : 61 * nI u + nI i = nI (61 * u + i) := by rw [show (61 : Int32) = nI 61 from rfl, pk_mul, nI_add]
    have zx : zin (nI (244 + i)) 305 = true := zin_nI (by omega) (by omega)
    have zy : zin (nI (61 * u + i)) 305 = true := zin_nI (by omega) (by omega)
    have cx : (nI (244 + i)).toNatClampNeg = 244 + i := nI_clamp (by omega)
    have cy : (nI (61 * u + i)).toNatClampNeg = 61 * u + i := nI_clamp (by omega)
    let C := zsI (zsI B 66 0 (61 * u + i) (zgI B 66 0 (244 + i)).toInt16.toInt32) 67 0 (61 * u + i) (zgI B 67 0 (244 + i)).toInt16.toInt32
    have fC : zFo (fun a b c => b = 0 ∧ (a = 66 ∨ a = 67) ∧ 61 * u + i ≤ c ∧ c < 61 * u + 61) B C := zFo_sI (zFo_sI (zFo_refl _ B) ⟨rfl, Or.inl rfl, by omega, by omega⟩) ⟨rfl, Or.inr rfl, by omega, by omega⟩
    obtain ⟨B', e, f, v⟩ := L224b d u m hu hm j (i + 1) C (by omega) h
    refine ⟨B', ?_, zFo_trans fC (zFo_mono f (fun a b c q => by omega)), fun s s1 s2 => ?_⟩
    · rw [← e, B224_191, if_pos zu5, cu, h, if_neg (nI_ge (by omega) (by omega))]
      have e67 : ∀ w, zgI (zsI B 66 0 (61 * u + i) w) 67 0 (244 + i) = zgI B 67 0 (244 + i) := fun w => by rw [zgI_sI, if_neg (by omega)]
      simp +decide only [hx, hy, zx, zy, cx, cy, B224_222, B224_243, nI_1, e67, zbsome, zpu1, zpu0, cond_true, cond_false, zib0, zib1, zib_ite, zq00, zq20, zq22, zq90, zq99, zq40, zq44, zq100, zq1010, Bool.and_true, if_true, if_false, z1ne0, not_true_eq_false, not_false_eq_true, zite10, eq_self, and_true, true_and, and_false, false_and, ↓reduceIte, Int32.reduceLT, Int32.reduceLE, Int32.reduceAdd, Int32.reduceSub, Int32.reduceMul]
      rfl
    · rcases Nat.lt_or_ge i s with q | q
      · have w := v s (by omega) s2
        rw [w.1, w.2]
        exact ⟨by rw [(fC 66 0 (244 + s) (by omega)).1], by rw [(fC 67 0 (244 + s) (by omega)).1]⟩
      · have q : s = i := by omega
        subst q
        rw [(f 66 0 (61 * u + s) (by omega)).1, (f 67 0 (61 * u + s) (by omega)).1]
        refine ⟨?_, ?_⟩
        · rw [zgI_sI, if_neg (by omega), zgI_sI, if_pos ⟨rfl, rfl, rfl⟩]
        · rw [zgI_sI, if_pos ⟨rfl, rfl, rfl⟩]
theorem yMa_byte {o : yOp} (h : yOk o) : (yMa o).toInt8.toInt32 = yMa o := by
  obtain n | k | s := o
  · rfl
  · rfl
  · rcases h with rfl | rfl | h
    · rfl
    · rfl
    · rw [yMa_bin h, yByt (by have := ySgn_lt h; omega)]
theorem yMg_cp {B B' : zM} {u : Nat} : ∀ {l : List yOp} {i : Nat}, yMg B 4 i l → (∀ o, o ∈ l → yOk o) → (∀ s, i ≤ s → s < i + l.length → zgI B' 63 0 (130 * u + s) = (zgI B 63 0 (520 + s)).toInt8.toInt32 ∧ zgI B' 64 0 (130 * u + s) = zgI B 64 0 (520 + s)) → yMg B' u i l
  | [], _, _, _, _ => trivial
  | o :: r, i, h, ho, e => by
    have l1 : (o :: r).length = r.length + 1 := rfl
    have w := e i (Nat.le_refl _) (by omega)
    exact ⟨by rw [w.1, h.1]; exact yMa_byte (ho o List.mem_cons_self), fun q => w.2.trans (h.2.1 q), yMg_cp h.2.2 (fun o' ho' => ho o' (List.mem_cons_of_mem _ ho')) (fun s s1 s2 => e s (by omega) (by omega))⟩
theorem yMl_cp {B B' : zM} {u : Nat} : ∀ {T : List (List yOp × List yOp)} {li f : Nat}, yMl B 4 li f T → yWT T → f + yTl T ≤ 130 → (∀ s, li ≤ s → s < li + T.length → zgI B' 66 0 (61 * u + s) = (zgI B 66 0 (244 + s)).toInt16.toInt32 ∧ zgI B' 67 0 (61 * u + s) = (zgI B 67 0 (244 + s)).toInt16.toInt32) → (∀ s, f ≤ s → s < f + yTl T → zgI B' 63 0 (130 * u + s) = (zgI B 63 0 (520 + s)).toInt8.toInt32 ∧ zgI B' 64 0 (130 * u + s) = zgI B 64 0 (520 + s)) → yMl B' u li f T
  | [], _, _, _, _, _, _, _ => trivial
  | q :: r, li, f, h, hw, hf, e1, e2 => by
    have l1 : (q :: r).length = r.length + 1 := rfl
    have l2 : yTl (q :: r) = q.1.length + q.2.length + yTl r := rfl
    have w := e1 li (Nat.le_refl _) (by omega)
    obtain ⟨w1, w2⟩ := hw q List.mem_cons_self
    refine ⟨?_, ?_, yMg_cp h.2.2.1 (fun o ho => ?_) (fun s s1 s2 => e2 s s1 (by rw [List.length_append] at s2; omega)), yMl_cp h.2.2.2 (fun q' hq' => hw q' (List.mem_cons_of_mem _ hq')) (by omega) (fun s s1 s2 => e1 s (by omega) (by omega)) (fun s s1 s2 => e2 s (by omega) (by omega))⟩
    · rw [w.1, show 244 + li = 61 * 4 + li from rfl, h.1, y16 _ (by omega)]
    · rw [w.2, show 244 + li = 61 * 4 + li from rfl, h.2.1, y16 _ (by omega)]
    · rcases List.mem_append.mp ho with ho | ho
      · rcases w1 with w1 | w1
        · rw [w1] at ho
          cases ho
        · exact w1.1 o ho
      · exact w2.1 o ho
theorem yTx_st {T : Nat → List (List yOp × List yOp)} {M M' : zM} {u : Nat} {T' : List (List yOp × List yOp)} (hu : u < 4) (h : ∀ u', u' < 4 → yTxt M M u' (T u')) (hW : yWT T') (hN : yLn T') (hc : yCl M' u T') (hm : yMt M' u T') (e : ∀ u', u' < 4 → ¬ u' = u → zgI M' 11 u' 2 = zgI M 11 u' 2 ∧ ∀ s, zgI M' 48 u' s = zgI M 48 u' s) (e1 : ∀ k s, (k = 63 ∨ k = 64) → s < 520 → (s < 130 * u ∨ 130 * u + 130 ≤ s) → zgI M' k 0 s = zgI M k 0 s) (e2 : ∀ k s, (k = 66 ∨ k = 67) → s < 244 → (s < 61 * u ∨ 61 * u + 61 ≤ s) → zgI M' k 0 s = zgI M k 0 s) (e3 : ∀ s, s < 4 → ¬ s = u → zgI M' 65 0 s = zgI M 65 0 s) : ∀ u', u' < 4 → yTxt M' M' u' (if u' = u then T' else T u') := by
  intro u' hu'
  by_cases q : u' = u
  · subst q
    rw [if_pos rfl]
    exact ⟨hW, hN, hc, hm⟩
  · rw [if_neg q]
    obtain ⟨a, b, c, d1, d2, d3, d4⟩ := h u' hu'
    exact ⟨a, b, yCl_fr c (e u' hu' q).1 (e u' hu' q).2, (e3 u' hu' q).trans d1, d2, d3, yMl_lo d4 (fun k s hk s1 s2 => e2 k s hk (by omega) (by omega)) (fun k s hk s1 s2 => e1 k s hk (by omega) (by omega))⟩
theorem ySg_cp {M M' : zM} {k i k' i' : Nat} : ∀ {l : List Int32} {j : Nat}, ySg M k i j l → (∀ s, j ≤ s → s < j + l.length → zgI M' k' i' s = zgI M k i s) → ySg M' k' i' j l
  | [], _, _, _ => trivial
  | x :: r, j, h, e => by
    have l1 : (x :: r).length = r.length + 1 := rfl
    exact ⟨(e j (Nat.le_refl _) (by omega)).trans h.1, ySg_cp h.2 (fun s s1 s2 => e s (by omega) (by omega))⟩
def ycF0 (a b c : Nat) : Prop := b = 0 ∧ ((a = 8 ∧ 2 ≤ c ∧ c ≤ 4) ∨ a = 44)
def ycF (u a b c : Nat) : Prop := ycF0 a b c ∨ (b = 0 ∧ u = 1 ∧ ((a = 30 ∧ 1 ≤ c) ∨ a = 31)) ∨ (b = u ∧ (a = 48 ∨ (a = 11 ∧ (c = 2 ∨ c = 3)) ∨ a = 49))
def ymF0 (a b c : Nat) : Prop := b = 0 ∧ ((a = 13 ∧ 19 ≤ c ∧ c ≤ 23) ∨ ((a = 63 ∨ a = 64) ∧ 520 ≤ c) ∨ (a = 65 ∧ c = 4) ∨ ((a = 66 ∨ a = 67) ∧ 244 ≤ c))
def ymF (u a b c : Nat) : Prop := ymF0 a b c ∨ (b = 0 ∧ (((a = 63 ∨ a = 64) ∧ 130 * u ≤ c ∧ c < 130 * u + 130) ∨ (a = 65 ∧ c = u) ∨ ((a = 66 ∨ a = 67) ∧ 61 * u ≤ c ∧ c < 61 * u + 61)))
/-- 'textBecomes' -/
theorem S187 (d u : Nat) (u2 : zV) (T : List (List yOp × List yOp)) (A : zM) (hu : u < 4) (hw : yWT T) (hl : yLn T) (hz : (yFl T).length ≤ 128) (h4 : zgI A 8 0 4 = nI (yFl T).length) (hS : ySg A 44 0 0 (yFl T)) : ∃ A', zgo false (d + 6) 187 0 [zr 12 0, zi (nI u), u2] [] A = some (none, A') ∧ zFo (fun a b c => (b = 0 ∧ u = 1 ∧ ((a = 30 ∧ 1 ≤ c) ∨ a = 31)) ∨ (b = u ∧ (a = 48 ∨ (a = 11 ∧ (c = 2 ∨ c = 3)) ∨ a = 49))) A A' ∧ yCl A' u T ∧ (u = 1 → ∀ v, 1 ≤ v → v ≤ 10 → zgI A' 30 0 v = yTag T v) := by
  obtain ⟨A1, e1, f1, v1, v2⟩ := L122 (d + 4) u _ hz (yFl T).length 0 A (by omega)
  have c1 : yCl A1 u T := ⟨v1, hz, ySg_cp hS (fun s s1 s2 => v2 s s1 (by omega))⟩
  have k0 : zgo false (d + 6) 187 0 [zr 12 0, zi (nI u), u2] [] A = zgo false (d + 6) 187 32 [zr 12 0, zi (nI u), zr 11 u] [] A1 := by
    have e32 : zgo false (d + 5) 32 0 [zr 5 0, zi (nI u)] [] A = some (some (zr 11 u), A) := by
      rw [B32_0]
      rcases (by omega : u = 0 ∨ u = 1 ∨ u = 2 ∨ u = 3) with rfl | rfl | rfl | rfl <;> rfl
    have e1' : zgo false (d + 5) 122 0 [zr 11 u, zr 44 0, zi (nI (yFl T).length), zu] [] A = some (none, A1) := by
      rw [B122_0]
      exact e1
    rw [B187_0, e32, zbsome]
    show zgo false (d + 6) 187 8 [zr 12 0, zi (nI u), u2] [zr 11 u] A = _
    rw [B187_8, h4, e1']
    rfl
  rw [k0, B187_32]
  by_cases h : u = 1
  · subst h
    obtain ⟨A2, e2, f2, v3⟩ := L33 (d + 1) T hw hl 10 1 A1 rfl (by omega) c1
    have e2' : zgo false (d + 5) 33 0 [zr 5 0, zu] [] A1 = some (none, A2) := by
      rw [B33_0]
      exact e2
    refine ⟨A2, ?_, zFo_trans (zFo_mono f1 (fun a b c q => by omega)) (zFo_mono f2 (fun a b c q => by omega)), yCl_fr c1 ((f2 11 1 2 (by omega)).1) (fun s => (f2 48 1 s (by omega)).1), fun _ => v3⟩
    rw [if_pos (show nI 1 = 1 from rfl), e2']
    exact B187_44 _ _ _ _ _
  · have : ¬ nI u = 1 := by
      rw [show (1 : Int32) = nI 1 from rfl, nI_eq (by omega) (by omega)]
      exact h
    refine ⟨A1, ?_, zFo_mono f1 (fun a b c q => by omega), c1, fun q => absurd q h⟩
    rw [if_neg this, B187_44]
theorem yTextQ (d u : Nat) (u2 u3 u4 : zV) (M : zM) (hu : u < 4) (n : Nat) (t : Nat → Nat) (hT : yTpA M n t) : ∀ B, yTpB B n t → ∃ (y : Int32) (C B' : zM), zgo false (d + 64) 134 0 [zr 12 0, zi (nI u), u2, u3] [] M = some (some (zi y), C) ∧ zgo false (d + 64) 224 0 [zr 13 0, zi (nI u), u4] [] B = some (some (zi y), B') ∧ zgI C 8 0 2 = 0 ∧ zgI B' 13 0 19 = 0 ∧ ((zFo ycF0 M C ∧ zFo ymF0 B B') ∨ (zFo (ycF u) M C ∧ zFo (ymF u) B B' ∧ ∃ T', yWT T' ∧ yLn T' ∧ yCl C u T' ∧ yMt B' u T' ∧ (u = 1 → ∀ v, 1 ≤ v → v ≤ 10 → zgI C 30 0 v = yTag T' v))) := by
  intro B hU
  have hn := hT.1
  let A0 := zsI (zsI M 8 0 3 0) 8 0 4 0
  let B0 := zsI (zsI (zsI (zsI (zsI B 13 0 20 0) 13 0 21 (-1)) 13 0 22 0) 13 0 23 0) 65 0 4 0
  have fA : zFo yGa M A0 := zFo_sI (zFo_sI (zFo_refl _ M) ⟨rfl, Or.inl ⟨rfl, Or.inl rfl⟩⟩) ⟨rfl, Or.inl ⟨rfl, Or.inr rfl⟩⟩
  have fB : zFo yGb B B0 := zFo_sI (zFo_sI (zFo_sI (zFo_sI (zFo_sI (zFo_refl _ B) ⟨rfl, by omega⟩) ⟨rfl, by omega⟩) ⟨rfl, by omega⟩) ⟨rfl, by omega⟩) ⟨rfl, by omega⟩
  have R0 : yRe n t A0 B0 0 0 [] := ⟨⟨Nat.zero_le _, Nat.le_refl _, Nat.le_refl _, Nat.le_refl _⟩, rfl, rfl, rfl, rfl, rfl, rfl, yTpA_g hT fA, yTpB_g hU fB, trivial, trivial, rfl, fun q hq => (List.not_mem_nil hq).elim, fun q hq => (List.not_mem_nil hq).elim⟩
  obtain ⟨v, A1, B1, e1, e2, f1, g1, r⟩ := yText (d + 1) (d + 2) (nI u) u4 (n + 1) 0 A0 B0 [] (by omega) R0
  have fA1 : zFo ycF0 M A1 := zFo_mono (zFo_trans fA f1) (fun a b c q => by unfold yGa at q; unfold ycF0; omega)
  have fB1 : zFo ymF0 B B1 := zFo_mono (zFo_trans fB g1) (fun a b c q => by unfold yGb at q; unfold ymF0; omega)
  have kc : zgo false (d + 64) 134 0 [zr 12 0, zi (nI u), u2, u3] [] M = zgo false (d + 64) 134 18 [zr 12 0, zi (nI u), u2, u3] (zpush v []) A1 := by
    have c1 : ¬ nI u < 0 := nI_pos (by omega)
    have c2 : nI u < 4 := nI_lt (b := 4) hu (by omega)
    have e1' : zgo false (d + 63) 83 0 [zr 8 0, zu] [] M = some (v, A1) := by
      rw [B83_0]
      exact e1
    rw [B134_0, if_neg c1, if_pos c2, e1']
    rfl
  have km : zgo false (d + 64) 224 0 [zr 13 0, zi (nI u), u4] [] B = zgo false (d + 64) 224 97 [zr 13 0, zi (nI u), u4] [] B1 := by
    have c1 : 0 ≤ nI u ∧ nI u ≤ 3 := ⟨nI_pos' (by omega), nI_le (b := 3) (by omega) (by omega)⟩
    have zi45 : zin 4 5 = true := rfl
    have c4 : (4 : Int32).toNatClampNeg = 4 := rfl
    have e2' : ((zgo false (d + 63) 223 0 [zr 13 0, zu] [] B0).bind fun q => zgo false (d + 64) 224 42 [zr 13 0, zi (nI u), u4] (zpush q.1 []) q.2) = zgo false (d + 64) 224 97 [zr 13 0, zi (nI u), u4] [] B1 := e2
    rw [← e2']
    simp +decide only [B224_0, B224_6, B224_26, S_in, c1, zi45, c4, zbsome, zpu1, zpu0, cond_true, cond_false, zib0, zib1, zib_ite, zq00, zq20, zq22, zq90, zq99, zq40, zq44, zq100, zq1010, Bool.and_true, if_true, if_false, z1ne0, not_true_eq_false, not_false_eq_true, zite10, eq_self, and_true, true_and, and_false, false_and, ↓reduceIte, Int32.reduceLT, Int32.reduceLE, Int32.reduceAdd, Int32.reduceSub, Int32.reduceMul]
    rfl
  rw [kc, km]
  rcases r with ⟨hv, h21, T', R'⟩ | ⟨hv, q, hq, d1, d3⟩
  · subst hv
    obtain ⟨⟨a1, a2, a3, a4⟩, b1, b2, b3, b4, b5, b6, hT', hU', hS, hM, b7, hW, hN⟩ := R'
    obtain ⟨A2, e3, f2, c2, tg⟩ := S187 (d + 57) u zu T' A1 hu hW hN (by omega) b2 hS
    have e3 : zgo false (d + 63) 187 0 [zr 12 0, zi (nI u), zu] [] A1 = some (none, A2) := e3
    obtain ⟨B2, e4, g2, w2⟩ := L224a (d + 64) u (yTl T') hu (by omega) (yTl T') 0 (zsI B1 13 0 19 0) (by omega) b6
    have w65 : zgI (zsI B2 65 0 u (nI T'.length)) 65 0 u = nI T'.length := by rw [zgI_sI, if_pos ⟨rfl, rfl, rfl⟩]
    obtain ⟨B3, e5, g3, w3⟩ := L224b (d + 64) u T'.length hu (by omega) T'.length 0 (zsI B2 65 0 u (nI T'.length)) (by omega) w65
    have fB3 : zFo (ymF u) B B3 := zFo_trans (zFo_mono fB1 (fun a b c q => Or.inl q)) (zFo_trans (zFo_sI (zFo_refl _ B1) (Or.inl ⟨rfl, by omega⟩)) (zFo_trans (zFo_mono g2 (fun a b c q => Or.inr ⟨q.1, Or.inl ⟨q.2.1, by omega, by omega⟩⟩)) (zFo_trans (zFo_sI (zFo_refl _ B2) (Or.inr ⟨rfl, Or.inr (Or.inl ⟨rfl, rfl⟩)⟩)) (zFo_mono g3 (fun a b c q => Or.inr ⟨q.1, Or.inr (Or.inr ⟨q.2.1, by omega, by omega⟩)⟩)))))
    refine ⟨1, zsI A2 8 0 2 0, B3, ?_, ?_, rfl, ?_, Or.inr ⟨zFo_sI (zFo_trans (zFo_mono fA1 (fun a b c q => Or.inl q)) (zFo_mono f2 (fun a b c q => Or.inr q))) (Or.inl ⟨rfl, Or.inl ⟨rfl, by omega, by omega⟩⟩), fB3, T', hW, hN, yCl_fr c2 (by rw [zgI_sI, if_neg (by omega)]) (fun s => by rw [zgI_sI, if_neg (by omega)]), ⟨?_, by omega, by omega, ?_⟩, fun q v v1 v2 => by rw [zgI_sI, if_neg (by omega)]; exact tg q v v1 v2⟩⟩
    · simp +decide only [B134_18, B134_36, B134_56, e3, zbsome, zpu1, zpu0, cond_true, cond_false, zib0, zib1, zib_ite, zq00, zq20, zq22, zq90, zq99, zq40, zq44, zq100, zq1010, Bool.and_true, if_true, if_false, z1ne0, not_true_eq_false, not_false_eq_true, zite10, eq_self, and_true, true_and, and_false, false_and, ↓reduceIte, Int32.reduceLT, Int32.reduceLE, Int32.reduceAdd, Int32.reduceSub, Int32.reduceMul]
    · have h21' : zgI (zsI B1 13 0 19 0) 13 0 21 = -1 := h21
      have n1 : (-1 : Int32) < 0 := by decide
      have c23 : zgI B2 13 0 23 ≤ nI (yTl T') := by
        rw [(g2 13 0 23 (by omega)).1]
        show zgI B1 13 0 23 ≤ _
        rw [b6]
        exact nI_le (Nat.le_refl _) (by omega)
      have e65 : zgI B2 65 0 4 = nI T'.length := ((g2 65 0 4 (by omega)).1).trans b7
      have zi45 : zin 4 5 = true := rfl
      have c4 : (4 : Int32).toNatClampNeg = 4 := rfl
      have zu5 : zin (nI u) 5 = true := zin_nI (by omega) (by omega)
      have cu : (nI u).toNatClampNeg = u := nI_clamp (by omega)
      rw [B224_97, h21', if_pos n1]
      refine Eq.trans e4 ?_
      rw [B224_119, if_pos c23, if_pos zi45, if_pos zu5, c4, cu, e65]
      exact e5
    · rw [(g3 13 0 19 (by omega)).1, zgI_sI, if_neg (by omega), (g2 13 0 19 (by omega)).1]
      rfl
    · rw [(g3 65 0 u (by omega)).1]
      exact w65
    · refine yMl_cp hM hW (by omega) (fun s s1 s2 => ?_) (fun s s1 s2 => ?_)
      · have w := w3 s s1 (by omega)
        rw [w.1, w.2, zgI_sI, if_neg (by omega), zgI_sI, if_neg (by omega), (g2 66 0 _ (by omega)).1, (g2 67 0 _ (by omega)).1]
        exact ⟨rfl, rfl⟩
      · have w := w2 s s1 (by omega)
        rw [(g3 63 0 _ (by omega)).1, (g3 64 0 _ (by omega)).1, zgI_sI, if_neg (by omega), zgI_sI, if_neg (by omega), w.1, w.2]
        exact ⟨rfl, rfl⟩
  · subst hv
    refine ⟨-100 - nI q, zsI A1 8 0 2 0, zsI B1 13 0 19 0, ?_, ?_, rfl, rfl, Or.inl ⟨zFo_sI fA1 ⟨rfl, Or.inl ⟨rfl, by omega, by omega⟩⟩, zFo_sI fB1 ⟨rfl, by omega⟩⟩⟩
    · simp +decide only [B134_18, B134_36, B134_56, d1, zbsome, zpu1, zpu0, cond_true, cond_false, zib0, zib1, zib_ite, zq00, zq20, zq22, zq90, zq99, zq40, zq44, zq100, zq1010, Bool.and_true, if_true, if_false, z1ne0, not_true_eq_false, not_false_eq_true, zite10, eq_self, and_true, true_and, and_false, false_and, ↓reduceIte, Int32.reduceLT, Int32.reduceLE, Int32.reduceAdd, Int32.reduceSub, Int32.reduceMul]
    · have d3' : zgI (zsI B1 13 0 19 0) 13 0 21 = nI q := d3
      rw [B224_97, d3', if_neg (nI_pos (by omega))]
def zm45 (n : Nat) : Bool := zo2 4 5 n || zo 12 n
/-- 'text' -/
theorem Q4 (d : Nat) (x : Int32) (u2 u3 u4 : zV) (M : zM) (hT : Rtp M) (hX : Rtx M) : ∃ (y : Int32) (M1 M2 : zM), zgo false (d + 64) 134 0 [zr 12 0, zi x, u2, u3] [] M = some (some (zi y), M1) ∧ zgo false (d + 64) 224 0 [zr 13 0, zi x, u4] [] M1 = some (some (zi y), M2) ∧ zFr zm45 M M2 ∧ Rtp M2 ∧ Rtx M2 := by
  by_cases ok : 0 ≤ x ∧ x ≤ 3
  case neg =>
    refine ⟨-1, M, M, ?_, ?_, zFr_refl _ M, hT, hX⟩
    · by_cases c : x < 0
      · simp +decide only [B134_0, B134_9, c, zbsome, zpu1, zpu0, cond_true, cond_false, zib0, zib1, zib_ite, zq00, zq20, zq22, zq90, zq99, zq40, zq44, zq100, zq1010, Bool.and_true, if_true, if_false, z1ne0, not_true_eq_false, not_false_eq_true, zite10, eq_self, and_true, true_and, and_false, false_and, ↓reduceIte, Int32.reduceLT, Int32.reduceLE, Int32.reduceAdd, Int32.reduceSub, Int32.reduceMul]
      · have c2 : ¬ x < 4 := by grind
        simp +decide only [B134_0, B134_9, c, c2, zbsome, zpu1, zpu0, cond_true, cond_false, zib0, zib1, zib_ite, zq00, zq20, zq22, zq90, zq99, zq40, zq44, zq100, zq1010, Bool.and_true, if_true, if_false, z1ne0, not_true_eq_false, not_false_eq_true, zite10, eq_self, and_true, true_and, and_false, false_and, ↓reduceIte, Int32.reduceLT, Int32.reduceLE, Int32.reduceAdd, Int32.reduceSub, Int32.reduceMul]
    · simp +decide only [B224_0, B224_6, S_in, ok, zbsome, zpu1, zpu0, cond_true, cond_false, zib0, zib1, zib_ite, zq00, zq20, zq22, zq90, zq99, zq40, zq44, zq100, zq1010, Bool.and_true, if_true, if_false, z1ne0, not_true_eq_false, not_false_eq_true, zite10, eq_self, and_true, true_and, and_false, false_and, ↓reduceIte, Int32.reduceLT, Int32.reduceLE, Int32.reduceAdd, Int32.reduceSub, Int32.reduceMul]
  obtain ⟨u, hu, rfl⟩ := zin_of (zin4.mpr ⟨by grind, by grind⟩ : zin x 4 = true)
  obtain ⟨n, t, hn, t1, t2, t3⟩ := hT
  obtain ⟨T, h1, h2⟩ := hX
  have hA : yTpA M n t := ⟨hn, fun s hs => (t3 s hs).1, t1, fun s hs => (t3 s hs).2.1⟩
  have hB : yTpB M n t := ⟨t2, fun s hs => (t3 s hs).2.2⟩
  obtain ⟨y0, C, Bd, e0, -, -, -, r0⟩ := yTextQ d u u2 u3 u4 M hu n t hA M hB
  have fC : zFo (ycF u) M C := r0.elim (fun q => zFo_mono q.1 (fun a b c q => Or.inl q)) (fun q => q.1)
  have hC : yTpB C n t := ⟨((fC 13 0 19 (by unfold ycF ycF0; omega)).1).trans t2, fun s hs => ((fC 62 0 s (by unfold ycF ycF0; omega)).1).trans (t3 s hs).2.2⟩
  obtain ⟨y, C', B', e1, e2, z1, z2, r⟩ := yTextQ d u u2 u3 u4 M hu n t hA C hC
  have hc : some (some (zi y0), C) = some (some (zi y), C') := e0.symm.trans e1
  injection hc with hc
  injection hc with hy hC'
  subst hC'
  have own0 : ∀ a b c, ycF0 a b c ∨ ymF0 a b c → (zo 4 (zown a b c) || zo 12 (zown a b c)) = true := by
    intro a b c q
    rcases q with ⟨rfl, ⟨rfl, q⟩ | rfl⟩ | ⟨rfl, ⟨rfl, q⟩ | ⟨rfl | rfl, q⟩ | ⟨rfl, rfl⟩ | ⟨rfl | rfl, q⟩⟩
    · rcases (by omega : c = 2 ∨ c = 3 ∨ c = 4) with rfl | rfl | rfl <;> rfl
    · rfl
    · rcases (by omega : c = 19 ∨ c = 20 ∨ c = 21 ∨ c = 22 ∨ c = 23) with rfl | rfl | rfl | rfl | rfl <;> rfl
    · rw [show zown 63 0 c = (if c < 520 then 5 else 12) + 20 from rfl, if_neg (by omega)]; rfl
    · rw [show zown 64 0 c = (if c < 520 then 5 else 12) + 20 from rfl, if_neg (by omega)]; rfl
    · rfl
    · rw [show zown 66 0 c = (if c < 244 then 5 else 12) + 20 from rfl, if_neg (by omega)]; rfl
    · rw [show zown 67 0 c = (if c < 244 then 5 else 12) + 20 from rfl, if_neg (by omega)]; rfl
  have w0 : ∀ n, (zo 4 n || zo 12 n) = true → zm45 n = true := by
    intro n q
    unfold zm45 zo2
    rcases Bool.or_eq_true_iff.mp q with q | q <;> rw [q] <;> simp
  have own : ∀ a b c, ycF u a b c ∨ ymF u a b c → zm45 (zown a b c) = true := by
    intro a b c q
    rcases q with (q | ⟨rfl, -, ⟨rfl, q⟩ | rfl⟩ | ⟨rfl, rfl | ⟨rfl, rfl | rfl⟩ | rfl⟩) | (q | ⟨rfl, ⟨rfl | rfl, q⟩ | ⟨rfl, rfl⟩ | ⟨rfl | rfl, q⟩⟩)
    · exact w0 _ (own0 a b c (Or.inl q))
    · rfl
    · rfl
    · rfl
    · rfl
    · rfl
    · rfl
    · exact w0 _ (own0 a b c (Or.inr q))
    · rw [show zown 63 0 c = (if c < 520 then 5 else 12) + 20 from rfl, if_pos (by omega)]; rfl
    · rw [show zown 64 0 c = (if c < 520 then 5 else 12) + 20 from rfl, if_pos (by omega)]; rfl
    · rw [show zown 65 0 c = (if c < 4 then 5 else 12) + 20 from rfl, if_pos (by omega)]; rfl
    · rw [show zown 66 0 c = (if c < 244 then 5 else 12) + 20 from rfl, if_pos (by omega)]; rfl
    · rw [show zown 67 0 c = (if c < 244 then 5 else 12) + 20 from rfl, if_pos (by omega)]; rfl
  have fr : zFr zm45 M B' ∧ zFo (ymF u) C B' := by
    rcases r with ⟨fa, fb⟩ | ⟨fa, fb, -⟩
    · exact ⟨zFr_trans (zFr_of fa (fun a b c q => own a b c (Or.inl (Or.inl q)))) (zFr_of fb (fun a b c q => own a b c (Or.inr (Or.inl q)))), zFo_mono fb (fun a b c q => Or.inl q)⟩
    · exact ⟨zFr_trans (zFr_of fa (fun a b c q => own a b c (Or.inl q))) (zFr_of fb (fun a b c q => own a b c (Or.inr q))), fb⟩
  obtain ⟨fr, fC'⟩ := fr
  refine ⟨y, C, B', e1, e2, fr, ⟨0, t, Nat.zero_le _, ((fC' 8 0 2 (by unfold ymF ymF0; omega)).1).trans z1, z2, fun s hs => absurd hs (Nat.not_lt_zero _)⟩, ?_⟩
  rcases r with ⟨fa, fb⟩ | ⟨fa, fb, T', hW, hN, hcl, hmt, htg⟩
  · exact Rtx_fr (m := fun n => zo 4 n || zo 12 n) (zFr_trans (zFr_of fa (fun a b c q => own0 a b c (Or.inl q))) (zFr_of fb (fun a b c q => own0 a b c (Or.inr q)))) rfl rfl ⟨T, h1, h2⟩
  · refine ⟨fun u' => if u' = u then T' else T u', yTx_st hu h1 hW hN (yCl_fr hcl ((fb 11 u 2 (by unfold ymF ymF0; omega)).1) (fun s => (fb 48 u s (by unfold ymF ymF0; omega)).1)) hmt (fun u' hu' q => ⟨?_, fun s => ?_⟩) (fun k s hk s1 s2 => ?_) (fun k s hk s1 s2 => ?_) (fun s s1 s2 => ?_), fun v v1 v2 => ?_⟩
    · rw [(fb 11 u' 2 (by unfold ymF ymF0; omega)).1, (fa 11 u' 2 (by unfold ycF ycF0; omega)).1]
    · rw [(fb 48 u' s (by unfold ymF ymF0; omega)).1, (fa 48 u' s (by unfold ycF ycF0; omega)).1]
    · rw [(fb k 0 s (by unfold ymF ymF0; omega)).1, (fa k 0 s (by unfold ycF ycF0; omega)).1]
    · rw [(fb k 0 s (by unfold ymF ymF0; omega)).1, (fa k 0 s (by unfold ycF ycF0; omega)).1]
    · rw [(fb 65 0 s (by unfold ymF ymF0; omega)).1, (fa 65 0 s (by unfold ycF ycF0; omega)).1]
    · rw [(fb 30 0 v (by unfold ymF ymF0; omega)).1]
      by_cases q : u = 1
      · subst q
        exact htg rfl v v1 v2
      · have q' : ¬ 1 = u := fun z => q z.symm
        show _ = yTag (if 1 = u then T' else T 1) v
        rw [if_neg q', (fa 30 0 v (by unfold ycF ycF0; omega)).1]
        exact h2 v v1 v2
