/-! ===== one play of the law; the end of it ===== -/
theorem sAnd (v : Int32) : ∃ m, m < 16777216 ∧ v &&& 16777215 = nI m := by
  refine ⟨(v &&& 16777215).toBitVec.toNat, ?_, ?_⟩
  · show (v.toBitVec &&& (16777215 : Int32).toBitVec).toNat < 16777216
    rw [BitVec.toNat_and]
    exact Nat.lt_of_le_of_lt Nat.and_le_right (by decide)
  · apply Int32.toBitVec_inj.mp
    show _ = BitVec.ofNat 32 _
    simp
theorem sCell (L : Nat × (Nat → Int32)) (k : Nat) (hk : k ≤ 20) : ∃ m, m < 16777216 ∧ zcell L (nI k) = nI m := by
  unfold zcell
  by_cases c : Int32.ofNat L.1 ≤ nI k
  · rw [if_pos c]
    exact ⟨k * 7703, by omega, by rw [show (7703 : Int32) = nI 7703 from rfl, pk_mul]⟩
  · rw [if_neg c]
    exact sAnd _
def sLaw (L : Nat × (Nat → Int32)) (P kd N : Nat) (cl lim now pts last : Int32) (A : zM) : Prop :=
  (∃ B, ySho 0 P 75 A B ∧ yTy sTs sqs A B ∧ yBd 0 0 N kd A B) ∧ (zgI A 2 0 1 = now ∧ zgI A 2 0 3 = pts ∧ zgI A 2 0 5 = last ∧ zgI A 2 0 2 = cl) ∧ (zgI A 12 0 15 = lim ∧ zgI A 12 0 12 = 1 ∧ zgI A 3 0 3 = nI 1 ∧ zsc A = L) ∧ sBd kd N now last

theorem sRound (d P kd N t : Nat) (u16 u17 u18 u19 u20 u21 u22 u23 u24 u25 u26 u27 : zV) {L : Nat × (Nat → Int32)} {cl lim now pts last hid x4 : Int32} {A : zM} (hL : L.1 ≤ 260) (hk : kd ≤ 7) (ht : t < 3) (hN : N ≤ 15 * t) (H : sLaw L P kd N cl lim now pts last A) : ∃ (N' : Nat) (now' pts' last' hid' : Int32) (A' : zM) (v16 v17 v18 v19 v20 v21 v22 v23 v24 v25 v26 v27 : zV), N' ≤ 15 * (t + 1) ∧ sLaw L P kd N' cl lim now' pts' last' A' ∧ zgo false (d + 40) 326 551 [zr 16 0, zr 12 0, zi (nI kd), zi cl, zi x4, zi lim, zr 114 0, zr 115 0, zr 116 0, zi (bI (ySee kd)), zi now, zi pts, zi last, zi (nI N), zi hid, zi (nI t), u16, u17, u18, u19, u20, u21, u22, u23, u24, u25, u26, u27] [] A = zgo false (d + 40) 326 551 [zr 16 0, zr 12 0, zi (nI kd), zi cl, zi x4, zi lim, zr 114 0, zr 115 0, zr 116 0, zi (bI (ySee kd)), zi now', zi pts', zi last', zi (nI N'), zi hid', zi (nI (t + 1)), v16, v17, v18, v19, v20, v21, v22, v23, v24, v25, v26, v27] [] A' := by
  obtain ⟨⟨B, hs, hT, hb⟩, ⟨b1, b3, b5, b2⟩, ⟨c15, c12, c3, csc⟩, hB⟩ := H
  obtain ⟨m, hm, em⟩ := sCell L (6 + t) (by omega)
  obtain ⟨n, hn⟩ : ∃ n, n = 1 + m % 15 := ⟨_, rfl⟩
  have eC : zgo false (d + 39) 324 0 [zr 16 0, zi (6 + nI t)] [] A = some (some (zi (nI m)), A) := by
    have h6 : (6 : Int32) + nI t = nI (6 + t) := by rw [show (6 : Int32) = nI 6 from rfl, nI_add]
    rw [h6, Zcell false (d + 39) (nI (6 + t)) A (by rw [csc]; exact hL) (by rw [nI_toInt (by omega)]; omega), csc, em]
  obtain ⟨A2, B2, h, r1, f1, s2, t2, bd2, h13, hle, hI, hE⟩ := sPlay (d + 5) n kd N (by omega) (by omega) hs hT hb c12
  have r1 : zgo false (d + 39) 140 0 [zr 12 0, zi 0, zi (nI n), zu, zu, zu, zu] [] A = some (some (zi (sBr A2 h)), A2) := r1
  rw [b1, b3, b5, b2, c15] at hI
  rw [b1, b3, c15] at hE
  obtain ⟨i1, i3, i5, i4, i2, iH⟩ := hI
  have g15 : zgI A2 12 0 15 = lim := ((f1 12 0 15 (by
    rintro (⟨h, -, w⟩ | ⟨-, -, w⟩)
    · unfold oneA at w; omega
    · omega)).1).trans c15
  have g12 : zgI A2 12 0 12 = 1 := ((f1 12 0 12 (by
    rintro (⟨h, -, w⟩ | ⟨-, -, w⟩)
    · unfold oneA at w; omega
    · omega)).1).trans c12
  have g3 : zgI A2 3 0 3 = nI 1 := ((f1 3 0 3 (by
    rintro (⟨h, -, w⟩ | ⟨w, -⟩)
    · unfold oneA at w; omega
    · omega)).1).trans c3
  have gsc : zsc A2 = L := (zgo_keep r1).1.trans csc
  obtain ⟨sb, v22, v23, v24, v25, v26, v27, eH⟩ := sHands (d + 36) h kd N (cl := cl) (lim := lim) (p0 := now) (t0 := pts) (l0 := last) (x4 := x4) (x15 := nI t) (x16 := nI n) (x17 := now) (x18 := sBr A2 h) h13 (by omega) hk (by omega) iH h 0 u22 u23 u24 u25 u26 u27 (by omega) hB
  have eH : zgo false (d + 40) 326 612 [zr 16 0, zr 12 0, zi (nI kd), zi cl, zi x4, zi lim, zr 114 0, zr 115 0, zr 116 0, zi (bI (ySee kd)), zi now, zi pts, zi last, zi (nI N), zi 0, zi (nI t), zi (nI n), zi now, zi (sBr A2 h), zi (nI h), zi 0, zi 0, u22, u23, u24, u25, u26, u27] [] A2 = zgo false (d + 40) 326 612 [zr 16 0, zr 12 0, zi (nI kd), zi cl, zi x4, zi lim, zr 114 0, zr 115 0, zr 116 0, zi (bI (ySee kd)), zi (sPu A2 now h), zi (sPt A2 pts h), zi (sLb A2 last h), zi (nI (N + h)), zi (sHi A2 h), zi (nI t), zi (nI n), zi now, zi (sBr A2 h), zi (nI h), zi (sBr A2 h), zi (nI h), v22, v23, v24, v25, v26, v27] [] A2 := eH
  refine ⟨N + h, sPu A2 now h, sPt A2 pts h, sLb A2 last h, sHi A2 h, A2, zi (nI n), zi now, zi (sBr A2 h), zi (nI h), zi (sBr A2 h), zi (nI h), v22, v23, v24, v25, v26, v27, by omega, ⟨⟨B2, s2, t2, bd2⟩, ⟨i1, i3, i5, i2⟩, ⟨g15, g12, g3, gsc⟩, sb⟩, ?_⟩
  have en : (1 : Int32) + (nI m - nI m / 15 * 15) = nI n := by
    rw [show (15 : Int32) = nI 15 from rfl, nI_mod hm (by omega) (by omega), show (1 : Int32) = nI 1 from rfl, nI_add, hn]
  have l9 : zgo false (d + 39) 141 0 [zr 12 0, zi (-1), zi 0, zu] [] A2 = some (some (zi (nI h)), A2) := sLedn (d + 39) h h13
  have o1 : zgo false (d + 39) 137 0 [zr 12 0, zi 0, zi 1, zu] [] A2 = some (some (zi (sPu A2 now h)), A2) := by rw [← i1]; exact sOf1 (d + 38) g12
  have o3 : zgo false (d + 39) 137 0 [zr 12 0, zi 0, zi 3, zu] [] A2 = some (some (zi (sPt A2 pts h)), A2) := by rw [← i3]; exact sOf3 (d + 38) g12
  have o4 : zgo false (d + 39) 137 0 [zr 12 0, zi 0, zi 4, zu] [] A2 = some (some (zi (if sPt A2 pts h < lim then 0 else 1)), A2) := by rw [← i3, ← g15]; exact sOf4 (d + 38) g12
  have o5 : zgo false (d + 39) 137 0 [zr 12 0, zi 0, zi 5, zu] [] A2 = some (some (zi (nI (N + h))), A2) := by rw [← i4]; exact sOf5 (d + 38) g12
  have hi : zgo false (d + 39) 157 0 [zr 12 0, zu, zu, zu] [] A2 = some (some (zi (sHi A2 h)), A2) := sHides (d + 38) h h13 (by omega)
  have end1 : zgo false (d + 40) 326 612 [zr 16 0, zr 12 0, zi (nI kd), zi cl, zi x4, zi lim, zr 114 0, zr 115 0, zr 116 0, zi (bI (ySee kd)), zi (sPu A2 now h), zi (sPt A2 pts h), zi (sLb A2 last h), zi (nI (N + h)), zi (sHi A2 h), zi (nI t), zi (nI n), zi now, zi (sBr A2 h), zi (nI h), zi (sBr A2 h), zi (nI h), v22, v23, v24, v25, v26, v27] [] A2 = zgo false (d + 40) 326 1027 [zr 16 0, zr 12 0, zi (nI kd), zi cl, zi x4, zi lim, zr 114 0, zr 115 0, zr 116 0, zi (bI (ySee kd)), zi (sPu A2 now h), zi (sPt A2 pts h), zi (sLb A2 last h), zi (nI (N + h)), zi (sHi A2 h), zi (nI t), zi (nI n), zi now, zi (sBr A2 h), zi (nI h), zi (sBr A2 h), zi (nI h), v22, v23, v24, v25, v26, v27] [] A2 := by
    rw [B326_612, if_pos (nI_le (Nat.le_refl _) (by omega))]
    by_cases y1 : nI n ≤ nI h
    · rw [if_pos y1]
    · have y2 : ¬ (100 ≤ sPu A2 now h ∧ sPt A2 pts h < lim) := hE.resolve_left (fun q => y1 (nI_le (by omega) (by omega)))
      rw [if_neg y1]
      by_cases y3 : sPu A2 now h < 100
      · rw [if_pos y3]
      · rw [if_neg y3, if_pos]
        exact z_nlt_le (fun q => y2 ⟨z_nlt_le y3, q⟩)
  have end2 : zgo false (d + 40) 326 1062 [zr 16 0, zr 12 0, zi (nI kd), zi cl, zi x4, zi lim, zr 114 0, zr 115 0, zr 116 0, zi (bI (ySee kd)), zi (sPu A2 now h), zi (sPt A2 pts h), zi (sLb A2 last h), zi (nI (N + h)), zi (sHi A2 h), zi (nI t), zi (nI n), zi now, zi (sBr A2 h), zi (nI h), zi (sBr A2 h), zi (nI h), v22, v23, v24, v25, v26, v27] [zi (if sPt A2 pts h < lim then 0 else 1)] A2 = zgo false (d + 40) 326 1074 [zr 16 0, zr 12 0, zi (nI kd), zi cl, zi x4, zi lim, zr 114 0, zr 115 0, zr 116 0, zi (bI (ySee kd)), zi (sPu A2 now h), zi (sPt A2 pts h), zi (sLb A2 last h), zi (nI (N + h)), zi (sHi A2 h), zi (nI t), zi (nI n), zi now, zi (sBr A2 h), zi (nI h), zi (sBr A2 h), zi (nI h), v22, v23, v24, v25, v26, v27] [zi (if sPt A2 pts h < lim then 0 else 1), zi (if sPt A2 pts h < lim then 0 else 1)] A2 := by
    rw [B326_1062]
    by_cases y : sPt A2 pts h < lim
    · rw [if_pos y]; simp only [if_pos y]
    · rw [if_neg y]; simp only [if_neg y]
  rw [B326_551, if_neg (show ¬ (3 : Int32) ≤ nI t from nI_ge (b := 3) (by omega) (by omega)), eC, zbsome, zpu1, B326_567, if_neg (show ¬ (15 : Int32) = 0 by decide), en, r1, zbsome, zpu1, B326_584, l9, zbsome, zpu1, B326_592, if_pos (show nI h ≤ nI n from nI_le (by omega) (by omega)), eH, end1, B326_1027, if_pos rfl, o1, zbsome, zpu1, B326_1040, if_pos rfl, o3, zbsome, zpu1, B326_1051, if_pos rfl, o4, zbsome, zpu1, end2, B326_1074, if_pos rfl, o5, zbsome, zpu1, B326_1083, if_pos rfl, hi, zbsome, zpu1, B326_1092, if_pos rfl, nI_1]
theorem sRounds (d P kd : Nat) {L : Nat × (Nat → Int32)} {cl lim x4 : Int32} (hL : L.1 ≤ 260) (hk : kd ≤ 7) : ∀ (j t N : Nat) (now pts last hid : Int32) (A : zM) (u16 u17 u18 u19 u20 u21 u22 u23 u24 u25 u26 u27 : zV), t + j = 3 → N ≤ 15 * t → sLaw L P kd N cl lim now pts last A → ∃ (N' : Nat) (now' pts' last' hid' : Int32) (A' : zM) (v16 v17 v18 v19 v20 v21 v22 v23 v24 v25 v26 v27 : zV), sLaw L P kd N' cl lim now' pts' last' A' ∧ zgo false (d + 40) 326 551 [zr 16 0, zr 12 0, zi (nI kd), zi cl, zi x4, zi lim, zr 114 0, zr 115 0, zr 116 0, zi (bI (ySee kd)), zi now, zi pts, zi last, zi (nI N), zi hid, zi (nI t), u16, u17, u18, u19, u20, u21, u22, u23, u24, u25, u26, u27] [] A = zgo false (d + 40) 326 551 [zr 16 0, zr 12 0, zi (nI kd), zi cl, zi x4, zi lim, zr 114 0, zr 115 0, zr 116 0, zi (bI (ySee kd)), zi now', zi pts', zi last', zi (nI N'), zi hid', zi 3, v16, v17, v18, v19, v20, v21, v22, v23, v24, v25, v26, v27] [] A' := by
  intro j
  induction j with
  | zero =>
    intro t N now pts last hid A u16 u17 u18 u19 u20 u21 u22 u23 u24 u25 u26 u27 hj hN H
    have hj : t = 3 := hj
    subst hj
    exact ⟨N, now, pts, last, hid, A, u16, u17, u18, u19, u20, u21, u22, u23, u24, u25, u26, u27, H, rfl⟩
  | succ j ih =>
    intro t N now pts last hid A u16 u17 u18 u19 u20 u21 u22 u23 u24 u25 u26 u27 hj hN H
    obtain ⟨N1, now1, pts1, last1, hid1, A1, w16, w17, w18, w19, w20, w21, w22, w23, w24, w25, w26, w27, hN1, H1, e1⟩ := sRound d P kd N t u16 u17 u18 u19 u20 u21 u22 u23 u24 u25 u26 u27 (x4 := x4) (hid := hid) hL hk (by omega) hN H
    obtain ⟨N2, now2, pts2, last2, hid2, A2, v16, v17, v18, v19, v20, v21, v22, v23, v24, v25, v26, v27, H2, e2⟩ := ih (t + 1) N1 now1 pts1 last1 hid1 A1 w16 w17 w18 w19 w20 w21 w22 w23 w24 w25 w26 w27 (by omega) hN1 H1
    exact ⟨N2, now2, pts2, last2, hid2, A2, v16, v17, v18, v19, v20, v21, v22, v23, v24, v25, v26, v27, H2, e1.trans e2⟩
/-- the end -/
theorem sEnd (d P kd N : Nat) (u16 u17 u18 u19 u20 u21 u22 u23 u24 u25 u26 u27 : zV) {L : Nat × (Nat → Int32)} {cl lim now pts last hid x4 x13 : Int32} {A : zM} (hlim : lim ≤ 300) (H : sLaw L P kd N cl lim now pts last A) : ∃ A', zgo false (d + 40) 326 551 [zr 16 0, zr 12 0, zi (nI kd), zi cl, zi x4, zi lim, zr 114 0, zr 115 0, zr 116 0, zi (bI (ySee kd)), zi now, zi pts, zi last, zi x13, zi hid, zi 3, u16, u17, u18, u19, u20, u21, u22, u23, u24, u25, u26, u27] [] A = some (some (zi 1), A') := by
  obtain ⟨-, ⟨b1, b3, b5, b2⟩, ⟨c15, c12, c3, csc⟩, -⟩ := H
  obtain ⟨M', e, f, v15, -⟩ := sLimit (d + 36) 1 9999 c3 (by omega) (by decide) (by decide) (by rw [c15]; intro q; rw [q] at hlim; exact absurd hlim (by decide))
  rw [c15] at e
  have e : zgo false (d + 39) 139 0 [zr 12 0, zi 9999, zu] [] A = some (some (zi lim), M') := e
  have c12' : zgI M' 12 0 12 = 1 := ((f 12 0 12 (by unfold sLf; omega)).1).trans c12
  have b3' : zgI M' 2 0 3 = pts := ((f 2 0 3 (by unfold sLf; omega)).1).trans b3
  have o4 : zgo false (d + 39) 137 0 [zr 12 0, zi 0, zi 4, zu] [] M' = some (some (zi (if pts < 9999 then 0 else 1)), M') := by
    have := sOf4 (d + 38) c12'
    rw [b3', v15] at this
    exact this
  refine ⟨M', ?_⟩
  rw [B326_551, if_pos (by decide), e, zbsome, zpu1, B326_1112, if_pos rfl, o4, zbsome, zpu1, B326_1123]
  by_cases y : pts < 9999
  · rw [if_pos y, if_pos y, B326_1136, if_pos rfl, B326_1144]
    rfl
  · rw [if_neg y, if_neg y, B326_1136, if_pos rfl, B326_1144]
    rfl

