/-! ===== the law from its rows on ===== -/
def sWf (a b c : Nat) : Prop := (b = 0 ∧ (a = 43 ∨ a = 44 ∨ a = 8 ∨ a = 30 ∨ a = 31)) ∨ (1 ≤ b ∧ (a = 48 ∨ a = 11 ∨ a = 49))
theorem sWf_t {a b c : Nat} (h : b = 0 ∧ (a = 43 ∨ (a = 8 ∧ c = 2))) : sWf a b c := by unfold sWf; omega
theorem sWf_c {u a b c : Nat} (hu : 1 ≤ u) (h : ycF u a b c) : sWf a b c := by unfold ycF ycF0 at h; unfold sWf; omega
/-- one text told and taken -/
theorem sTake (d u kk N : Nat) {t : Nat → Nat} {M : zM} {T : List (List yOp × List yOp)} (u1 : 1 ≤ u) (u3 : u < 4) (hb : sBy t N) (ht : ∀ s, s < N → t s < 256) (hr : sRow kk N t M) (h8 : zgI M 8 0 2 = 0) (hl : sTx N t 100 0 0 = some (yFl T)) (hW : yWT T) (hN : yLn T) (hz : (yFl T).length ≤ 128) : ∃ M1 C, zgo false (d + 99) 325 0 [zr 12 0, zr kk 0, zi (nI N), zu, zu, zu, zu] [] M = some (some (zi 1), M1) ∧ zgo false (d + 99) 134 0 [zr 12 0, zi (nI u), zu, zu] [] M1 = some (some (zi 1), C) ∧ zgI C 8 0 2 = 0 ∧ zFo sWf M C ∧ yCl C u T ∧ (u = 1 → ∀ v, 1 ≤ v → v ≤ 10 → zgI C 30 0 v = yTag T v) ∧ (∀ u' T', u' < 4 → ¬ u' = u → yCl M u' T' → yCl C u' T') ∧ (¬ u = 1 → ∀ v, zgI C 30 0 v = zgI M 30 0 v) := by
  obtain ⟨M1, e1, tp, f1⟩ := sTell (d + 95) kk N hb ht hr h8
  obtain ⟨C, e2, c8, f2, cl, tg⟩ := sText (d + 5) u zu zu u3 tp hl hW hN hz
  refine ⟨M1, C, e1, e2, c8, zFo_trans (zFo_mono f1 (fun a b c q => sWf_t q)) (zFo_mono f2 (fun a b c q => sWf_c u1 q)), cl, tg, fun u' T' h1 h2 h3 => ?_, fun h1 v => ?_⟩
  · exact yCl_fr h3 (((f2 11 u' 2 (by unfold ycF ycF0; omega)).1).trans (f1 11 u' 2 (by omega)).1) (fun s => ((f2 48 u' s (by unfold ycF ycF0; omega)).1).trans (f1 48 u' s (by omega)).1)
  · exact ((f2 30 0 v (by unfold ycF ycF0; omega)).1).trans (f1 30 0 v (by omega)).1
theorem sRow_fr {kk N : Nat} {t : Nat → Nat} {M C : zM} (h : sRow kk N t M) (f : zFo sWf M C) (hk : 113 < kk) : sRow kk N t C := ⟨h.1, fun s hs => ((f kk 0 s (by unfold sWf; omega)).1).trans (h.2 s hs)⟩
theorem sRow_1 (L : Nat × (Nat → Int32)) : sRow 114 17 su1 (zMb L) ∧ sRow 115 14 su2 (zMb L) ∧ sRow 116 25 su3 (zMb L) := by
  have h := sq2
  simp only [Bool.and_eq_true] at h
  obtain ⟨h1, h2, h3⟩ := h
  exact ⟨⟨⟨rfl, by omega, rfl, by omega⟩, fun s hs => zbI (by decide) (List.all_eq_true.mp h1 s (List.mem_range.mpr hs))⟩, ⟨⟨rfl, by omega, rfl, by omega⟩, fun s hs => zbI (by decide) (List.all_eq_true.mp h2 s (List.mem_range.mpr hs))⟩, ⟨⟨rfl, by omega, rfl, by omega⟩, fun s hs => zbI (by decide) (List.all_eq_true.mp h3 s (List.mem_range.mpr hs))⟩⟩

theorem sBegin (d kd U lim : Nat) (cl : Int32) {L : Nat × (Nat → Int32)} (hL : L.1 ≤ 260) (hk : kd ≤ 7) (hU : U ≤ 60) (c1 : ¬ cl < -99) (c2 : cl ≤ 99) (hl : 1 ≤ lim ∧ lim ≤ 300) : ∃ (P : Nat) (A : zM), sLaw L P kd 0 cl (nI lim) (nI (100 * U)) 0 0 A ∧ zgo false (d + 100) 326 389 [zr 16 0, zr 12 0, zi (nI kd), zi cl, zi (nI U), zi (nI lim), zr 114 0, zr 115 0, zr 116 0, zu, zu, zu, zu, zu, zu, zu, zu, zu, zu, zu, zu, zu, zu, zu, zu, zu, zu, zu] [] (zMb L) = zgo false (d + 100) 326 551 [zr 16 0, zr 12 0, zi (nI kd), zi cl, zi (nI U), zi (nI lim), zr 114 0, zr 115 0, zr 116 0, zi (bI (ySee kd)), zi (nI (100 * U)), zi 0, zi 0, zi (nI 0), zi 0, zi (nI 0), zu, zu, zu, zu, zu, zu, zu, zu, zu, zu, zu, zu] [] A := by
  have h := sq1
  simp only [Bool.and_eq_true] at h
  obtain ⟨z1, z2, z3, z4, z5, z6, z7, z8, z9, z10, z11, z12, z13, z14, z15⟩ := h
  have v : ∀ {k i s : Nat} {x : Int32}, k ≠ 35 → zlIB k i s x = true → zgI (zMb L) k i s = x := fun hk h => zbI hk h
  obtain ⟨w1, w2, w3⟩ := sRow_1 L
  obtain ⟨M1, C1, e1, t1, n1, f1, y1, g1, k1, -⟩ := sTake d 1 114 17 (by omega) (by omega) su1_b su1_l w1 (v (by decide) z11) su1_p sT1_w sT1_n sT1_z
  obtain ⟨M2, C2, e2, t2, n2, f2, y2, -, k2, j2⟩ := sTake d 2 115 14 (by omega) (by omega) su2_b su2_l (sRow_fr w2 f1 (by omega)) n1 su2_p sT2_w sT2_n sT2_z
  obtain ⟨M3, C3, e3, t3, n3, f3, y3, -, k3, j3⟩ := sTake d 3 116 25 (by omega) (by omega) su3_b su3_l (sRow_fr (sRow_fr w3 f1 (by omega)) f2 (by omega)) n2 su3_p sT3_w sT3_n sT3_z
  have fC : zFo sWf (zMb L) C3 := zFo_trans f1 (zFo_trans f2 f3)
  have scC : zsc C3 = L := by rw [(zgo_keep t3).1, (zgo_keep e3).1, (zgo_keep t2).1, (zgo_keep e2).1, (zgo_keep t1).1, (zgo_keep e1).1, zMb_sc]
  obtain ⟨m4, h4, q4⟩ := sCell L 4 (by omega)
  obtain ⟨m5, h5, q5⟩ := sCell L 5 (by omega)
  have r4 : zgo false (d + 99) 324 0 [zr 16 0, zi 4] [] C3 = some (some (zi (nI m4)), C3) := by
    rw [Zcell false (d + 99) 4 C3 (by rw [scC]; exact hL) (by decide), scC, show (4 : Int32) = nI 4 from rfl, q4]
  obtain ⟨P, hP⟩ : ∃ P, P = 1 + m4 % 4 := ⟨_, rfl⟩
  have eP : (1 : Int32) + (nI m4 - nI m4 / 4 * 4) = nI P := by
    rw [show (4 : Int32) = nI 4 from rfl, nI_mod h4 (by omega) (by omega), show (1 : Int32) = nI 1 from rfl, nI_add, hP]
  obtain ⟨A1, r5, fp, p2, p6, p7, p8, p9, p47⟩ := sPacks (d + 96) P (M := C3) (by omega)
  have i2 : zgI C3 10 0 2 = 6 := ((fC 10 0 2 (by unfold sWf; omega)).1).trans (v (by decide) z1)
  have r5 : zgo false (d + 99) 130 0 [zr 12 0, zi 1, zi (nI P)] [] C3 = some (some (zi 6), A1) := by rw [← i2]; exact r5
  have scA1 : zsc A1 = L := (zgo_keep r5).1.trans scC
  have r6 : zgo false (d + 99) 324 0 [zr 16 0, zi 5] [] A1 = some (some (zi (nI m5)), A1) := by
    rw [Zcell false (d + 99) 5 A1 (by rw [scA1]; exact hL) (by decide), scA1, show (5 : Int32) = nI 5 from rfl, q5]
  have i4 : zgI A1 10 0 4 = 0 := ((fp 10 0 4 (by unfold sSf; omega)).1).trans (((fC 10 0 4 (by unfold sWf; omega)).1).trans (v (by decide) z3))
  obtain ⟨A2, hA2⟩ : ∃ M, M = zsI (zsI (zsI A1 10 0 4 (nI m5)) 10 0 5 (nI m5)) 10 0 9 1 := ⟨_, rfl⟩
  have r7 : zgo false (d + 99) 130 0 [zr 12 0, zi 0, zi (nI m5)] [] A1 = some (some (zi 0), A2) := by
    have := sSeed (d + 98) (nI m5) (M := A1)
    rw [i4, ← hA2] at this
    exact this
  have fs : zFo (fun a b c => a = 10 ∧ b = 0 ∧ (c = 4 ∨ c = 5 ∨ c = 9)) A1 A2 := by
    rw [hA2]
    exact zFo_sI (zFo_sI (zFo_sI (zFo_refl _ A1) ⟨rfl, rfl, by omega⟩) ⟨rfl, rfl, by omega⟩) ⟨rfl, rfl, by omega⟩
  have i9 : zgI A2 10 0 9 = 1 := by rw [hA2, zgI_sI, if_pos ⟨rfl, rfl, rfl⟩]
  -- from C3 to A2
  have f02 : ∀ a b c, ¬ sWf a b c → ¬ sSf a b c → ¬ (a = 10 ∧ b = 0 ∧ (c = 4 ∨ c = 5 ∨ c = 9)) → zgI A2 a b c = zgI (zMb L) a b c := fun a b c x1 x2 x3 => ((fs a b c x3).1).trans (((fp a b c x2).1).trans (fC a b c x1).1)
  have i3 : zgI A2 3 0 3 = nI 0 := (f02 3 0 3 (by unfold sWf; omega) (by unfold sSf; omega) (by omega)).trans (v (by decide) z10)
  have i15 : zgI A2 12 0 15 = 9999 := (f02 12 0 15 (by unfold sWf; omega) (by unfold sSf; omega) (by omega)).trans (v (by decide) z8)
  have l1 : ¬ nI lim < 1 := nI_nlt (b := 1) (by omega) (by omega)
  have l2 : nI lim ≤ 9999 := nI_le (b := 9999) (by omega) (by omega)
  obtain ⟨A3, r8, fl, m15, m3⟩ := sLimit (d + 96) 0 (nI lim) i3 (by omega) l1 l2 (by
    rw [i15]
    intro q
    have := (nI_eq (a := 9999) (b := lim) (by omega) (by omega)).mp q
    omega)
  rw [i15] at r8
  have r8 : zgo false (d + 99) 139 0 [zr 12 0, zi (nI lim), zu] [] A2 = some (some (zi 9999), A3) := r8
  have i12 : zgI A3 12 0 12 = 0 := ((fl 12 0 12 (by unfold sLf; omega)).1).trans ((f02 12 0 12 (by unfold sWf; omega) (by unfold sSf; omega) (by omega)).trans (v (by decide) z9))
  obtain ⟨A, r9, fq, o0, o1, o2, o12⟩ := sPlayer (d + 99) kd U cl i12 hk hU c1 c2
  have f03 : ∀ a b c, ¬ sWf a b c → ¬ sSf a b c → ¬ (a = 10 ∧ b = 0 ∧ (c = 4 ∨ c = 5 ∨ c = 9)) → ¬ sLf a b c → ¬ sPf a b c → zgI A a b c = zgI (zMb L) a b c := fun a b c x1 x2 x3 x4 x5 => ((fq a b c x5).1).trans (((fl a b c x4).1).trans (f02 a b c x1 x2 x3))
  have g2A : ∀ a b c, ¬ sLf a b c → ¬ sPf a b c → zgI A a b c = zgI A2 a b c := fun a b c x4 x5 => ((fq a b c x5).1).trans (fl a b c x4).1
  have g1A : ∀ a b c, ¬ (a = 10 ∧ b = 0 ∧ (c = 4 ∨ c = 5 ∨ c = 9)) → ¬ sLf a b c → ¬ sPf a b c → zgI A a b c = zgI A1 a b c := fun a b c x3 x4 x5 => (g2A a b c x4 x5).trans (fs a b c x3).1
  have g0A : ∀ a b c, ¬ sSf a b c → ¬ (a = 10 ∧ b = 0 ∧ (c = 4 ∨ c = 5 ∨ c = 9)) → ¬ sLf a b c → ¬ sPf a b c → zgI A a b c = zgI C3 a b c := fun a b c x2 x3 x4 x5 => (g1A a b c x3 x4 x5).trans (fp a b c x2).1
  have scA : zsc A = L := by rw [(zgo_keep r9).1, (zgo_keep r8).1, (zgo_keep r7).1, scA1]
  have clA : ∀ u T, u < 4 → yCl C3 u T → yCl A u T := fun u T hu h => yCl_fr h (g0A 11 u 2 (by unfold sSf; omega) (by omega) (by unfold sLf; omega) (by unfold sPf; omega)) (fun s => g0A 48 u s (by unfold sSf; omega) (by omega) (by unfold sLf; omega) (by unfold sPf; omega))
  have hS : sSt0 P kd A := by
    refine ⟨⟨?_, ?_, ?_, ?_, ?_, fun t ht => ?_⟩, fun u hu => ?_, fun w w1 w2 => ?_, fun w hw => ?_, fun i v' hi v1 v2 => ?_, o0, ?_⟩
    · exact (g1A 10 0 2 (by omega) (by unfold sLf; omega) (by unfold sPf; omega)).trans p2
    · exact (f03 10 0 3 (by unfold sWf; omega) (by unfold sSf; omega) (by omega) (by unfold sLf; omega) (by unfold sPf; omega)).trans (v (by decide) z2)
    · exact (g1A 10 0 6 (by omega) (by unfold sLf; omega) (by unfold sPf; omega)).trans p6
    · exact (g1A 10 0 7 (by omega) (by unfold sLf; omega) (by unfold sPf; omega)).trans p7
    · exact (g2A 10 0 9 (by unfold sLf; omega) (by unfold sPf; omega)).trans i9
    · exact (g1A 47 0 t (by omega) (by unfold sLf; omega) (by unfold sPf; omega)).trans (p47 t ht)
    · rcases (by omega : u = 0 ∨ u = 1 ∨ u = 2 ∨ u = 3) with rfl | rfl | rfl | rfl
      · exact ⟨(f03 11 0 2 (by unfold sWf; omega) (by unfold sSf; omega) (by omega) (by unfold sLf; omega) (by unfold sPf; omega)).trans (v (by decide) z15), Nat.zero_le _, trivial⟩
      · exact clA 1 _ hu (k3 1 _ hu (by omega) (k2 1 _ hu (by omega) y1))
      · exact clA 2 _ hu (k3 2 _ hu (by omega) y2)
      · exact clA 3 _ hu y3
    · exact (g0A 30 0 w (by unfold sSf; omega) (by omega) (by unfold sLf; omega) (by unfold sPf; omega)).trans ((j3 (by omega) w).trans ((j2 (by omega) w).trans (g1 rfl w w1 w2)))
    · rw [f03 29 0 w (by unfold sWf; omega) (by unfold sSf; omega) (by omega) (by unfold sLf; omega) (by unfold sPf; omega)]
      rcases (by omega : w = 0 ∨ w = 1 ∨ w = 2 ∨ w = 3) with rfl | rfl | rfl | rfl
      · exact v (by decide) z4
      · exact v (by decide) z5
      · exact v (by decide) z6
      · exact v (by decide) z7
    · exact (f03 35 0 _ (by unfold sWf; omega) (by unfold sSf; omega) (by omega) (by unfold sLf; omega) (by unfold sPf; omega)).trans (Raf_b L i v' hi v1 v2)
    · exact (f03 2 0 4 (by unfold sWf; omega) (by unfold sSf; omega) (by omega) (by unfold sLf; omega) (by unfold sPf; omega)).trans (v (by decide) z13)
  refine ⟨P, A, ⟨⟨sG P kd A, sGhost P kd (by omega) hk hS⟩, ⟨o1, ?_, ?_, o2⟩, ⟨?_, o12, ?_, scA⟩, ⟨100 * U, rfl, by omega, fun _ => by show 100 * U ≤ 6000; omega, by decide, by decide⟩⟩, ?_⟩
  · exact (f03 2 0 3 (by unfold sWf; omega) (by unfold sSf; omega) (by omega) (by unfold sLf; omega) (by unfold sPf; omega)).trans (v (by decide) z12)
  · exact (f03 2 0 5 (by unfold sWf; omega) (by unfold sSf; omega) (by omega) (by unfold sLf; omega) (by unfold sPf; omega)).trans (v (by decide) z14)
  · exact ((fq 12 0 15 (by unfold sPf; omega)).1).trans m15
  · exact ((fq 3 0 3 (by unfold sPf; omega)).1).trans m3
  have e1 : zgo false (d + 99) 325 0 [zr 12 0, zr 114 0, zi 17, zu, zu, zu, zu] [] (zMb L) = some (some (zi 1), M1) := e1
  have t1 : zgo false (d + 99) 134 0 [zr 12 0, zi 1, zu, zu] [] M1 = some (some (zi 1), C1) := t1
  have e2 : zgo false (d + 99) 325 0 [zr 12 0, zr 115 0, zi 14, zu, zu, zu, zu] [] C1 = some (some (zi 1), M2) := e2
  have t2 : zgo false (d + 99) 134 0 [zr 12 0, zi 2, zu, zu] [] M2 = some (some (zi 1), C2) := t2
  have e3 : zgo false (d + 99) 325 0 [zr 12 0, zr 116 0, zi 25, zu, zu, zu, zu] [] C2 = some (some (zi 1), M3) := e3
  have t3 : zgo false (d + 99) 134 0 [zr 12 0, zi 3, zu, zu] [] M3 = some (some (zi 1), C3) := t3
  have n10 : ¬ (1 : Int32) = 0 := by decide
  rw [B326_389, e1, zbsome, zpu1, B326_398, if_neg n10, t1, zbsome, zpu1, B326_406, if_pos rfl, e2, zbsome, zpu1, B326_419, if_neg n10, t2, zbsome, zpu1, B326_427, if_pos rfl, e3, zbsome, zpu1, B326_440, if_neg n10, t3, zbsome, zpu1, B326_448, if_pos rfl, r4, zbsome, zpu1, B326_462, if_neg (show ¬ (4 : Int32) = 0 by decide), eP, r5, zbsome, zpu1, B326_468, if_pos rfl, r6, zbsome, zpu1, B326_480, r7, zbsome, zpu1, B326_483, if_pos rfl, r8, zbsome, zpu1, B326_492, if_pos rfl, r9, zbsome, zpu1, B326_506, if_pos rfl]
  have e100 : (100 : Int32) * nI U = nI (100 * U) := by rw [show (100 : Int32) = nI 100 from rfl, pk_mul]
  have last : ∀ x : Int32, x = bI (ySee kd) → zgo false (d + 100) 326 527 [zr 16 0, zr 12 0, zi (nI kd), zi cl, zi (nI U), zi (nI lim), zr 114 0, zr 115 0, zr 116 0, zu, zu, zu, zu, zu, zu, zu, zu, zu, zu, zu, zu, zu, zu, zu, zu, zu, zu, zu] [zi x] A = zgo false (d + 100) 326 551 [zr 16 0, zr 12 0, zi (nI kd), zi cl, zi (nI U), zi (nI lim), zr 114 0, zr 115 0, zr 116 0, zi (bI (ySee kd)), zi (nI (100 * U)), zi 0, zi 0, zi (nI 0), zi 0, zi (nI 0), zu, zu, zu, zu, zu, zu, zu, zu, zu, zu, zu, zu] [] A := by
    rintro x rfl
    rw [B326_527, B326_548, e100]
    rfl
  rcases (by omega : kd = 0 ∨ kd = 1 ∨ kd = 2 ∨ kd = 3 ∨ kd = 4 ∨ kd = 5 ∨ kd = 6 ∨ kd = 7) with rfl | rfl | rfl | rfl | rfl | rfl | rfl | rfl
  · rw [if_pos (show nI 0 ≤ 1 by decide), B326_526]
    exact last 0 rfl
  · rw [if_pos (show nI 1 ≤ 1 by decide), B326_526]
    exact last 0 rfl
  · rw [if_neg (show ¬ nI 2 ≤ 1 by decide), if_neg (show ¬ nI 2 = 6 by decide)]
    exact last 1 rfl
  · rw [if_neg (show ¬ nI 3 ≤ 1 by decide), if_neg (show ¬ nI 3 = 6 by decide)]
    exact last 1 rfl
  · rw [if_neg (show ¬ nI 4 ≤ 1 by decide), if_neg (show ¬ nI 4 = 6 by decide)]
    exact last 1 rfl
  · rw [if_neg (show ¬ nI 5 ≤ 1 by decide), if_neg (show ¬ nI 5 = 6 by decide)]
    exact last 1 rfl
  · rw [if_neg (show ¬ nI 6 ≤ 1 by decide), if_pos (show nI 6 = 6 from rfl), B326_526]
    exact last 0 rfl
  · rw [if_neg (show ¬ nI 7 ≤ 1 by decide), if_neg (show ¬ nI 7 = 6 by decide)]
    exact last 1 rfl
theorem zowed (L : Nat × (Nat → Int32)) (hL : L.1 ≤ 260) : zOwed L := by
  obtain ⟨m0, h0, q0⟩ := sCell L 0 (by omega)
  obtain ⟨m1, h1, q1⟩ := sCell L 1 (by omega)
  obtain ⟨m2, h2, q2⟩ := sCell L 2 (by omega)
  obtain ⟨m3, h3, q3⟩ := sCell L 3 (by omega)
  have k2 : zk2 L = nI (m0 % 8) := by
    unfold zk2
    rw [show (0 : Int32) = nI 0 from rfl, q0, show (8 : Int32) = nI 8 from rfl, nI_mod h0 (by omega) (by omega)]
  have k4 : zk4 L = nI (1 + m2 % 60) := by
    unfold zk4
    rw [show (2 : Int32) = nI 2 from rfl, q2, show (60 : Int32) = nI 60 from rfl, nI_mod h2 (by omega) (by omega), show (1 : Int32) = nI 1 from rfl, nI_add]
  have k5 : zk5 L = nI (5 + m3 % 200) := by
    unfold zk5
    rw [show (3 : Int32) = nI 3 from rfl, q3, show (200 : Int32) = nI 200 from rfl, nI_mod h3 (by omega) (by omega), show (5 : Int32) = nI 5 from rfl, nI_add]
  have k3 : zk3 L = nI (m1 % 7) - 3 := by
    unfold zk3
    rw [show (1 : Int32) = nI 1 from rfl, q1, show (7 : Int32) = nI 7 from rfl, nI_mod h1 (by omega) (by omega)]
  have c12 : ¬ nI (m1 % 7) - 3 < -99 ∧ nI (m1 % 7) - 3 ≤ 99 := by
    rcases (by omega : m1 % 7 = 0 ∨ m1 % 7 = 1 ∨ m1 % 7 = 2 ∨ m1 % 7 = 3 ∨ m1 % 7 = 4 ∨ m1 % 7 = 5 ∨ m1 % 7 = 6) with q | q | q | q | q | q | q <;> (rw [q]; decide)
  obtain ⟨P, A, hA, eA⟩ := sBegin 0 (m0 % 8) (1 + m2 % 60) (5 + m3 % 200) (nI (m1 % 7) - 3) hL (by omega) (by omega) c12.1 c12.2 (by omega)
  obtain ⟨N', now', pts', last', hid', A', v16, v17, v18, v19, v20, v21, v22, v23, v24, v25, v26, v27, hA', eR⟩ := sRounds 60 P (m0 % 8) (x4 := nI (1 + m2 % 60)) hL (by omega) 3 0 0 _ _ _ 0 A zu zu zu zu zu zu zu zu zu zu zu zu rfl (by omega) hA
  obtain ⟨M3, eE⟩ := sEnd 60 P (m0 % 8) N' v16 v17 v18 v19 v20 v21 v22 v23 v24 v25 v26 v27 (hid := hid') (x4 := nI (1 + m2 % 60)) (x13 := nI N') (nI_le (b := 300) (by omega) (by omega)) hA'
  have r : zgo false 100 326 389 (zlS (zk2 L) (zk3 L) (zk4 L) (zk5 L)) [] (zMb L) = some (some (zi 1), M3) := by
    rw [k2, k3, k4, k5]
    exact eA.trans (eR.trans eE)
  obtain ⟨n1, r1⟩ := zgo_iff.mp (C129_0 97 (znew (zM0 L) 12 0) rfl)
  obtain ⟨n2, r2⟩ := zgo_iff.mp r
  refine ⟨100, n1 + n2, zMa L, M3, by omega, zrun_le true (by omega) r1, zMa_nx L, ?_, zMb_fnl L, zrun_le false (by omega) r2, ?_⟩
  · have := zMb_sc L
    unfold zMb at this
    rw [zdo_sc] at this
    exact this
  · exact (zgo_keep r).2.trans (zMb_nx L)

