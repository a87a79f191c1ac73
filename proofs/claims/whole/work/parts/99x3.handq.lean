/-! ===== 'hand' ===== -/
theorem gA_12 {r a b c : Nat} (hr : ¬ r = 0) (H : gA r 0 60 a b c) : zo 12 (zown a b c) = true := by
  rcases H with ⟨e, -⟩ | ⟨rfl, ⟨rfl, h⟩ | h⟩ | ⟨rfl, rfl | ⟨rfl, rfl⟩⟩ | rfl | ⟨rfl, rfl⟩
  · exact absurd e hr
  · rw [show zown 4 60 c = if 60 < 60 ∧ c ≠ 16 then 7 else 12 from rfl, if_neg (by omega)]
    rfl
  · rcases (by omega : a = 24 ∨ a = 25 ∨ a = 26 ∨ a = 27) with rfl | rfl | rfl | rfl <;> rfl
  · rfl
  · rfl
  · rfl
  · rfl
theorem z13_12 {c : Nat} (h : 60 ≤ c ∧ c ≤ 70) : zo 12 (zown 13 0 c) = true := by
  rcases (by omega : c = 60 ∨ c = 61 ∨ c = 62 ∨ c = 63 ∨ c = 64 ∨ c = 65 ∨ c = 66 ∨ c = 67 ∨ c = 68 ∨ c = 69 ∨ c = 70) with rfl | rfl | rfl | rfl | rfl | rfl | rfl | rfl | rfl | rfl | rfl <;> rfl
theorem gB_12 {r h a b c : Nat} (hr : ¬ r = 0) (H : gB r h a b c) : zo 12 (zown a b c) = true := by
  obtain ⟨rfl, rfl | rfl | ⟨rfl, h1⟩ | ⟨e, -⟩⟩ := H
  · rfl
  · rfl
  · exact z13_12 (by omega)
  · exact absurd e hr
/-- the class, from a row -/
theorem FR (d p s : Nat) (x3 : Int32) {A5 A6 : zM} {x : Int32} (hx : x = 0 ∨ x = 1) (F : Nat → Nat → Nat → Prop) (hc : hCl F (d + 31) false A5 A6 x) : ((zgo false (d + 31) 41 0 [zr 5 0] [] A5).bind fun q => zgo false (d + 32) 35 37 [zr 5 0, zr 2 p, zr 10 0, zr 9 s, zi x3, zu] (zpush q.1 []) q.2) = zgo false (d + 32) 35 60 [zr 5 0, zr 2 p, zr 10 0, zr 9 s, zi x3, zu] [zi x] A6 := by
  rcases hc with ⟨e, ex⟩ | ⟨A1, -, e1, ⟨e2, ex⟩ | ⟨A2, e2, e3⟩⟩
  · rw [e, zbsome, zpu1, B35_37, if_pos rfl, B35_59, ex]
  · have e2 : zgo false (d + 31) 42 0 [zr 5 0, zi 0, zu, zu] [] A1 = some (some (zi 0), A6) := e2
    rw [e1, zbsome, zpu1, B35_37, if_neg (by decide), e2, zbsome, zpu1, B35_45, if_pos rfl, B35_59, ex]
  · have e2 : zgo false (d + 31) 42 0 [zr 5 0, zi 0, zu, zu] [] A1 = some (some (zi 1), A2) := e2
    rw [e1, zbsome, zpu1, B35_37, if_neg (by decide), e2, zbsome, zpu1, B35_45, if_neg (by decide), e3, zbsome, zpu1, B35_52]
    rcases hx with rfl | rfl
    · rw [if_pos rfl, B35_59]
    · rw [if_neg (by decide)]
/-- a hand from a row, played by both -/
theorem ROW (d p s N : Nat) (x3 : Int32) (hp3 : p < 10) (hs6 : s < 6) {M : zM} (hS : yShoe 0 M M) (hr : Rrul M) (hA : Raf M) (ht : Rtx M) (hp : Rpl M) (hp5 : (p : Int) < (zgI M 13 0 31).toInt) (hN : zgI M 74 0 p = nI N) (hw : yRw s M M) : ∃ (y : Int32) (A' B' : zM), zgo false (d + 32) 35 0 [zr 5 0, zr 2 p, zr 10 0, zr 9 s, zi x3, zu] [] M = some (some (zi (if y = -999999 then 0 else 1)), A') ∧ (¬ y = -999999 → zgI A' 4 60 10 = y) ∧ zgo false (d + 32) 275 42 [zr 13 0, zi (nI p), zi (nI s), zi x3, zu] [] M = some (some (zi y), B') ∧ zFo (fun a b c => gA (s + 1) 0 60 a b c ∨ (a = 5 ∧ b = 0 ∧ 11 ≤ c ∧ c ≤ 14) ∨ (b = 60 ∧ (a = 4 ∨ a = 28))) M A' ∧ zFo (fun a b c => gB (s + 1) 0 a b c ∨ (a = 13 ∧ b = 0 ∧ 60 ≤ c ∧ c ≤ 70)) M B' := by
  obtain ⟨kd, hk7, ⟨hk1, hk2⟩, -⟩ := yBd_of hp hp5 hN
  obtain ⟨T, q, hty⟩ := yTy_of ht hr hA
  obtain ⟨P, C, g, sn, hn, -⟩ := ySho_of hS
  obtain ⟨A1, hA1⟩ : ∃ A, A = zsI (zsR (zsR (zsR (zsR M 5 0 12 (2, p)) 5 0 11 (10, 0)) 5 0 14 (9, s)) 5 0 13 (4, 60)) 5 0 15 x3 := ⟨_, rfl⟩
  have f1 : zFo (fun a b c => a = 5 ∧ b = 0 ∧ 11 ≤ c ∧ c ≤ 15) M A1 := by
    rw [hA1]
    exact zFo_sI (zFo_sR (zFo_sR (zFo_sR (zFo_sR (zFo_refl _ M) (by omega)) (by omega)) (by omega)) (by omega)) (by omega)
  have r11 : zgR A1 5 0 11 = (10, 0) := by
    rw [hA1, zgR_sI, zgR_sR, if_neg (by omega), zgR_sR, if_neg (by omega), zgR_sR, if_pos ⟨rfl, rfl, rfl⟩]
  have r12 : zgR A1 5 0 12 = (2, p) := by
    rw [hA1, zgR_sI, zgR_sR, if_neg (by omega), zgR_sR, if_neg (by omega), zgR_sR, if_neg (by omega), zgR_sR, if_pos ⟨rfl, rfl, rfl⟩]
  have r13 : zgR A1 5 0 13 = (4, 60) := by rw [hA1, zgR_sI, zgR_sR, if_pos ⟨rfl, rfl, rfl⟩]
  have r14 : zgR A1 5 0 14 = (9, s) := by rw [hA1, zgR_sI, zgR_sR, if_neg (by omega), zgR_sR, if_pos ⟨rfl, rfl, rfl⟩]
  have e15 : zgI A1 5 0 15 = x3 := by rw [hA1, zgI_sI, if_pos ⟨rfl, rfl, rfl⟩]
  have n1 : yNm 0 A1 M P C g sn := yNm_fr hn (fun s _ _ => (f1 10 0 s (by omega)).1) (fun s _ => (f1 47 0 s (by omega)).1) (fun _ _ _ _ => rfl) (fun _ _ => rfl)
  obtain ⟨A2, e2, f2, w2, -, -, -⟩ := K21 (d + 27) 0 60 n1
  have e2 : zgo false (d + 31) 21 0 [zr 4 60, zr 10 0] [] A1 = some (none, A2) := e2
  obtain ⟨A3, hA3⟩ : ∃ A, A = zsI A2 4 60 9 1 := ⟨_, rfl⟩
  have f23 : zFo (fun a b c => b = 60 ∧ (a = 28 ∨ (a = 4 ∧ ((5 ≤ c ∧ c ≤ 15) ∨ (17 ≤ c ∧ c ≤ 19))))) A1 A3 := by
    rw [hA3]
    exact zFo_sI (zFo_mono f2 (fun a b c y => by omega)) (by omega)
  have f13 : zFo (fun a b c => (a = 5 ∧ b = 0 ∧ 11 ≤ c ∧ c ≤ 15) ∨ (b = 60 ∧ (a = 28 ∨ (a = 4 ∧ ((5 ≤ c ∧ c ≤ 15) ∨ (17 ≤ c ∧ c ≤ 19)))))) M A3 := zFo_trans (zFo_mono f1 (fun a b c y => Or.inl y)) (zFo_mono f23 (fun a b c y => Or.inr y))
  have w3 : ∀ t, (5 ≤ t ∧ t ≤ 8) ∨ (10 ≤ t ∧ t ≤ 13) ∨ (17 ≤ t ∧ t ≤ 19) → zgI A3 4 60 t = 0 := fun t htt => by
    rw [hA3, zgI_sI, if_neg (by omega)]
    exact w2 t htt
  obtain ⟨B1, hB1⟩ : ∃ B, B = zsI (zsI (zsI (zsI M 13 0 60 (nI s)) 13 0 61 x3) 13 0 62 (nI p)) 13 0 70 0 := ⟨_, rfl⟩
  have g1 : zFo (fun a b c => a = 13 ∧ b = 0 ∧ 60 ≤ c ∧ c ≤ 70) M B1 := by
    rw [hB1]
    exact zFo_sI (zFo_sI (zFo_sI (zFo_sI (zFo_refl _ M) (by omega)) (by omega)) (by omega)) (by omega)
  have v60 : zgI B1 13 0 60 = nI s := by rw [hB1, zgI_sI, if_neg (by omega), zgI_sI, if_neg (by omega), zgI_sI, if_neg (by omega), zgI_sI, if_pos ⟨rfl, rfl, rfl⟩]
  have v61 : zgI B1 13 0 61 = x3 := by rw [hB1, zgI_sI, if_neg (by omega), zgI_sI, if_neg (by omega), zgI_sI, if_pos ⟨rfl, rfl, rfl⟩]
  have v62 : zgI B1 13 0 62 = nI p := by rw [hB1, zgI_sI, if_neg (by omega), zgI_sI, if_pos ⟨rfl, rfl, rfl⟩]
  have v70 : zgI B1 13 0 70 = bI false := by rw [hB1, zgI_sI, if_pos ⟨rfl, rfl, rfl⟩]; rfl
  have n3 : yNm 0 A3 B1 P C g sn := yNm_fr hn (fun s _ _ => (f13 10 0 s (by omega)).1) (fun s _ => (f13 47 0 s (by omega)).1) (fun s _ _ _ => (g1 13 0 s (by omega)).1) (fun s _ => (g1 56 0 s (by omega)).1)
  have hx : yCx (s + 1) 0 p 60 p 0 T q kd A3 B1 := by
    refine ⟨⟨((f23 5 0 11 (by omega)).2.2).trans r11, ((f23 5 0 12 (by omega)).2.2).trans r12, ((f23 5 0 13 (by omega)).2.2).trans r13, ?_⟩, ⟨?_, v62, fun w => absurd w (by omega)⟩, ⟨by omega, hp3, by omega⟩, fun u hu => ?_, fun v v1 v2 => ?_, ⟨fun w hw => ⟨?_, ?_⟩, hty.2.2.1.2⟩, ?_, ?_, hk7⟩
    · rw [if_neg (by omega), (f23 5 0 14 (by omega)).2.2, r14]
      rfl
    · rw [if_neg (by omega), v60]
      rfl
    · obtain ⟨t1, t2, t3, t4⟩ := hty.1 u hu
      exact ⟨t1, t2, yCl_fr t3 (f13 11 u 2 (by omega)).1 (fun s => (f13 48 u s (by omega)).1), yMt_fr hu (fun k s hk => (g1 k 0 s (by omega)).1) t4⟩
    · rw [(f13 30 0 v (by omega)).1]; exact hty.2.1 v v1 v2
    · rw [(f13 29 0 w (by omega)).1]; exact (hty.2.2.1.1 w hw).1
    · rw [(g1 57 0 w (by omega)).1]; exact (hty.2.2.1.1 w hw).2
    · rw [(f13 2 p 0 (by omega)).1]; exact hk1
    · rw [(g1 70 0 p (by omega)).1]; exact hk2
  have hso : zSo (s + 1) 0 P C 0 (fun _ => 0) 0 A3 B1 := Or.inr ⟨by omega, yRw_fr (s := s) hw f13 g1 (fun t => by omega) (fun t => by omega) (fun k t _ _ => by omega), by rw [(f23 5 0 15 (by omega)).1, e15, v61], P, C, g, sn, n3⟩
  obtain ⟨A6, B9, s9, m, ds, dm, n, dv, a, da, Sx, Aa, pl, f6, g9, ho, ⟨bs, bm⟩, hdl, ⟨bds, bdm⟩, -, -, -, hE⟩ := HAND d (s + 1) 0 p 60 p 0 false (lf := fun _ => 0) hx hso (fun w => absurd w (by omega)) v70 (w3 5 (by omega)) (w3 6 (by omega)) (w3 7 (by omega)) (w3 8 (by omega)) (w3 11 (by omega)) (w3 17 (by omega)) (fun w => absurd w (by omega))
  have fA6 : zFo (fun a b c => gA (s + 1) 0 60 a b c ∨ (a = 5 ∧ b = 0 ∧ 11 ≤ c ∧ c ≤ 14) ∨ (b = 60 ∧ (a = 4 ∨ a = 28))) M A6 := zFo_trans (zFo_mono f13 (fun a b c y => y.elim (fun z => by
    by_cases w : c = 15
    · exact Or.inl (Or.inr (Or.inr (Or.inl ⟨z.2.1, Or.inr ⟨z.1, w⟩⟩)))
    · exact Or.inr (Or.inl (by omega))) (fun z => Or.inr (Or.inr ⟨z.1, by omega⟩)))) (zFo_mono f6 (fun a b c y => Or.inl y))
  obtain ⟨B10, hB10⟩ : ∃ B, B = zsI B9 13 0 60 (-1) := ⟨_, rfl⟩
  have gB10 : zFo (fun a b c => gB (s + 1) 0 a b c ∨ (a = 13 ∧ b = 0 ∧ 60 ≤ c ∧ c ≤ 70)) M B10 := by
    rw [hB10]
    exact zFo_sI (zFo_trans (zFo_mono g1 (fun a b c y => Or.inr y)) (zFo_mono g9 (fun a b c y => Or.inl y))) (Or.inr ⟨rfl, rfl, by omega⟩)
  have e64 : zgI B10 13 0 64 = zgI B9 13 0 64 := by rw [hB10, zgI_sI, if_neg (by omega)]
  have ka : zgo false (d + 32) 35 0 [zr 5 0, zr 2 p, zr 10 0, zr 9 s, zi x3, zu] [] M = ((zgo false (d + 31) 41 0 [zr 5 0] [] A3).bind fun q => zgo false (d + 32) 35 37 [zr 5 0, zr 2 p, zr 10 0, zr 9 s, zi x3, zu] (zpush q.1 []) q.2) := by
    rw [B35_0, B36_0, B36_21, zbsome, zpu0, B35_11, ← hA1, e2, zbsome, zpu0, B35_25, ← hA3]
  have kb : ∀ V, zgo false (d + 31) 268 0 [zr 13 0, zu, zu, zu, zu, zu, zu, zu, zu, zu] [] B1 = some (some (zi V), B9) → zgo false (d + 32) 275 42 [zr 13 0, zi (nI p), zi (nI s), zi x3, zu] [] M = if zgI B9 13 0 64 = 0 then some (some (zi V), B10) else some (some (zi (-999999)), B10) := fun V e => by
    rw [B275_42, ← hB1, B275_62, e, zbsome, zpu1, B275_66, ← hB10, e64, B275_88, B275_88]
  rcases hE with ⟨hc, mo, h64, -⟩ | ⟨dbl, hid, hc, mo, h64, h17, -, -, -⟩
  · refine ⟨-999999, A6, B10, ?_, fun w => absurd rfl w, ?_, fA6, gB10⟩
    · rw [ka, FR d p s x3 (Or.inl rfl) _ hc, B35_60, if_pos rfl, if_pos rfl, B35_89]
      rfl
    · rw [kb 0 mo, h64, if_neg (by decide)]
  · have e9 : zgI A6 4 60 9 = 1 := by rw [(f6 4 60 9 (by unfold gA; omega)).1, hA3, zgI_sI, if_pos ⟨rfl, rfl, rfl⟩]
    have q1 : zgI A6 29 0 1 = nI (q 1) := ((yCx_fr hx f6 g9).2.2.2.2.2.1.1 1 (by omega)).1
    have e28 := K28 (d + 29) 60 (q 1) s9 m ds dm a da dbl 1 zu zu zu zu zu bs (by omega) bds (by omega) ho.1.1 ho.1.2 hdl.1.1 hdl.1.2 e9 h17
    have e28 : zgo false (d + 31) 28 0 [zr 4 60, zi (nI (q 1)), zu, zu, zu, zu, zu] [] A6 = _ := e28
    have e29' : zgo false (d + 31) 169 0 [zr 29 0, zi 1] [] A6 = some (some (zi (nI (q 1))), A6) := (at29n false (d + 31) 0 1 A6 (by omega)).trans (by rw [q1])
    have bV : ¬ yI (yOc (q 1) s9 a m ds da dm dbl) = -999999 := by
      have b : -200 ≤ yOc (q 1) s9 a m ds da dm dbl ∧ yOc (q 1) s9 a m ds da dm dbl ≤ 200 := by
        have := hty.2.2.1.2
        unfold yOc
        cases dbl <;> (repeat' split) <;> omega
      intro w
      have := congrArg Int32.toInt w
      rw [yI_int ⟨by omega, by omega⟩, show (-999999 : Int32).toInt = -999999 from rfl] at this
      omega
    refine ⟨yI (yOc (q 1) s9 a m ds da dm dbl), zsI A6 4 60 10 (yI (yOc (q 1) s9 a m ds da dm dbl)), B10, ?_, fun _ => ?_, ?_, zFo_sI fA6 (Or.inr (Or.inr ⟨rfl, Or.inl rfl⟩)), gB10⟩
    · rw [ka, FR d p s x3 (Or.inr rfl) _ hc, B35_60, if_neg (by decide), e29', zbsome, if_neg bV]
      show zgo false (d + 32) 35 83 [zr 5 0, zr 2 p, zr 10 0, zr 9 s, zi x3, zi 1] [zi (nI (q 1)), zr 4 60, zr 4 60] A6 = _
      rw [B35_83, e28, zbsome, Int32.mul_one]
      show zgo false (d + 32) 35 86 [zr 5 0, zr 2 p, zr 10 0, zr 9 s, zi x3, zi 1] [zi (yI (yOc (q 1) s9 a m ds da dm dbl)), zr 4 60] A6 = _
      rw [B35_86, B35_89]
      rfl
    · rw [zgI_sI, if_pos ⟨rfl, rfl, rfl⟩]
    · rw [kb _ mo, h64, if_pos rfl]
theorem Q12 (d t : Nat) (x0 x1 x2 : Int32) (M : zM) (hS : yShoe 0 M M) (hr : Rrul M) (hA : Raf M) (ht : Rtx M) (hp : Rpl M) (hn : Rhn t M) (hsh : Rsh M) (hJ : zJm zcl M) : ∃ (y : Int32) (M1 M2 : zM), zgo false (d + 33) 142 0 [zr 12 0, zi x0, zi x1, zi x2, zu, zu] [] M = some (some (zi y), M1) ∧ zgo false (d + 33) 275 0 [zr 13 0, zi x0, zi x1, zi x2, zu] [] M1 = some (some (zi y), M2) ∧ zFr (zo 12) M M2 := by
  have hb := S_body (d + 32) x0 M hp
  have hm := S_isPl (d + 31) x0 M hp.2.1
  have h183 := S183 (d + 32) x1 M
  have h305 := S305 (d + 31) x1 M
  have z90 : Nat.beq 9 0 = false := rfl
  have z99 : (Nat.beq 9 9 && true) = true := rfl
  by_cases hq : zpl M x0
  case neg =>
    rw [if_neg hq] at hb hm
    refine ⟨-2000000000, M, M, ?_, ?_, zFr_refl _ M⟩
    · have k12 : ∀ ks is, zgo false (d + 33) 142 12 [zr 12 0, zi x0, zi x1, zi x2, zr 0 0, zu] [zr ks is] M = some (some (zi (-2000000000)), M) := fun ks is => by
        rw [B142_12, zq00, cond_true, B142_24]
      rw [B142_0, hb, zbsome]
      show zgo false (d + 33) 142 5 [zr 12 0, zi x0, zi x1, zi x2, zu, zu] [zr 0 0] M = _
      rw [B142_5, h183, zbsome]
      by_cases c : zin x1 6 = true
      · rw [if_pos c]
        exact k12 _ _
      · rw [if_neg c]
        exact k12 _ _
    · rw [B275_0, hm, zbsome, zpu1, B275_5, if_pos rfl, B275_15]
  rw [if_pos hq] at hb hm
  obtain ⟨p, hp3, rfl, hp5⟩ := zpl_nI hq (by rw [zI_le]; exact hp.2.1.2)
  have hc2 : (nI p).toNatClampNeg = p := nI_clamp (by omega)
  rw [hc2] at hb
  by_cases hs : zin x1 6 = true
  case neg =>
    rw [if_neg hs] at h183 h305
    refine ⟨-2000000000, M, M, ?_, ?_, zFr_refl _ M⟩
    · rw [B142_0, hb, zbsome]
      show zgo false (d + 33) 142 5 [zr 12 0, zi (nI p), zi x1, zi x2, zu, zu] [zr 2 p] M = _
      rw [B142_5, h183, zbsome]
      show zgo false (d + 33) 142 12 [zr 12 0, zi (nI p), zi x1, zi x2, zr 2 p, zu] [zr 0 0] M = _
      rw [B142_12, zq20, cond_false, zq00, cond_true, B142_24]
    · rw [B275_0, hm, zbsome, zpu1, B275_5, if_neg (by decide), h305, zbsome, zpu1, B275_12, if_pos rfl, B275_15]
  obtain ⟨s, hs6, rfl⟩ := zin_of hs
  have hc6 : (nI s).toNatClampNeg = s := nI_clamp (by omega)
  rw [if_pos hs] at h183 h305
  rw [hc6] at h183
  have ka : zgo false (d + 33) 142 0 [zr 12 0, zi (nI p), zi (nI s), zi x2, zu, zu] [] M = zgo false (d + 33) 142 32 [zr 12 0, zi (nI p), zi (nI s), zi x2, zr 2 p, zr 9 s] [zi (if zgI M 9 s 1 = 0 then 1 else 0)] M := by
    have e94 : zgo false (d + 32) 94 0 [zr 9 s] [] M = some (some (zi (if zgI M 9 s 1 = 0 then 1 else 0)), M) := by
      rw [B94_0, B94_12, B94_12]
      by_cases c : zgI M 9 s 1 = 0
      · rw [if_pos c, if_pos c]; rfl
      · rw [if_neg c, if_neg c]; rfl
    rw [B142_0, hb, zbsome]
    show zgo false (d + 33) 142 5 [zr 12 0, zi (nI p), zi (nI s), zi x2, zu, zu] [zr 2 p] M = _
    rw [B142_5, h183, zbsome]
    show zgo false (d + 33) 142 12 [zr 12 0, zi (nI p), zi (nI s), zi x2, zr 2 p, zu] [zr 9 s] M = _
    rw [B142_12, zq20, cond_false, z90, cond_false, z99, cond_true, e94, zbsome, zpu1]
  have kb : zgo false (d + 33) 275 0 [zr 13 0, zi (nI p), zi (nI s), zi x2, zu] [] M = if zgI M 110 0 s = -1 then zgo false (d + 33) 275 42 [zr 13 0, zi (nI p), zi (nI s), zi x2, zu] [] M else if zgI M 110 0 s = -2 then zgo false (d + 33) 275 42 [zr 13 0, zi (nI p), zi (nI s), zi x2, zu] [] M else some (some (zi (-12)), M) := by
    rw [B275_0, hm, zbsome, zpu1, B275_5, if_neg (by decide), h305, zbsome, zpu1, B275_12, if_neg (by decide), if_pos hs, if_pos hs, hc6]
  have e96 : zgo false (d + 32) 96 0 [zr 9 s, zi 0] [] M = some (some (zi (if zgI M 9 s 1 = 2 then (if zgI M 9 s 2 = 0 then 1 else 0) else 0)), M) := by
    rw [B96_0, B96_20, B96_21, B96_21]
    by_cases c : zgI M 9 s 1 = 2
    · rw [if_pos c, if_pos c]
      by_cases c2 : zgI M 9 s 2 = 0
      · rw [if_pos c2, if_pos c2]; rfl
      · rw [if_neg c2, if_neg c2]; rfl
    · rw [if_neg c, if_neg c]; rfl
  -- the row, where there is one
  have go : yRw s M M → zgo false (d + 33) 142 0 [zr 12 0, zi (nI p), zi (nI s), zi x2, zu, zu] [] M = zgo false (d + 33) 142 47 [zr 12 0, zi (nI p), zi (nI s), zi x2, zr 2 p, zr 9 s] [] M → zgo false (d + 33) 275 0 [zr 13 0, zi (nI p), zi (nI s), zi x2, zu] [] M = zgo false (d + 33) 275 42 [zr 13 0, zi (nI p), zi (nI s), zi x2, zu] [] M → ∃ (y : Int32) (M1 M2 : zM), zgo false (d + 33) 142 0 [zr 12 0, zi (nI p), zi (nI s), zi x2, zu, zu] [] M = some (some (zi y), M1) ∧ zgo false (d + 33) 275 0 [zr 13 0, zi (nI p), zi (nI s), zi x2, zu] [] M1 = some (some (zi y), M2) ∧ zFr (zo 12) M M2 := by
    intro hw c1 c2
    obtain ⟨N, -, hN⟩ := hn p hp3
    obtain ⟨y, A', B', r1, r2, r3, r4, r5⟩ := ROW d p s N x2 hp3 hs6 hS hr hA ht hp hp5 hN hw
    have ca : zgo false (d + 33) 142 0 [zr 12 0, zi (nI p), zi (nI s), zi x2, zu, zu] [] M = some (some (zi y), A') := by
      rw [c1, B142_47, r1, zbsome, zpu1, B142_63]
      by_cases w : y = -999999
      · rw [if_pos w, if_pos rfl, B142_81, w]
      · rw [if_neg w, if_neg (by decide), B142_81, r2 w]
    have mo : zgo false (d + 33) 275 0 [zr 13 0, zi (nI p), zi (nI s), zi x2, zu] [] M = some (some (zi y), B') := c2.trans (zgo_deep r3)
    obtain ⟨v, A2, w, B3, e1, e2, ⟨e3, e4, e5, e6⟩, -⟩ := zRR_seq (Q := fun v A w B => v = some (zi y) ∧ A = A' ∧ w = some (zi y) ∧ B = B') (as := [zr 12 0, zi (nI p), zi (nI s), zi x2, zu, zu]) (bs := [zr 13 0, zi (nI p), zi (nI s), zi x2, zu]) (M := M) (by
      intro v hv
      simp only [List.mem_cons, List.not_mem_nil, or_false] at hv
      rcases hv with rfl | rfl | rfl | rfl | rfl | rfl <;> first | exact trivial | exact Or.inr rfl) (by
      intro v hv
      simp only [List.mem_cons, List.not_mem_nil, or_false] at hv
      rcases hv with rfl | rfl | rfl | rfl | rfl <;> first | exact trivial | exact Or.inr rfl) hJ ⟨_, _, ca, mo, rfl, rfl, rfl, rfl⟩
    subst e4 e6
    rw [e3] at e1
    rw [e5] at e2
    refine ⟨y, A2, zmg zmd B3 A2, e1, e2, mg_fr r4 r5 (fun k i c _ w => ?_) (fun k i c _ w => ?_)⟩
    · rcases w with w | ⟨rfl, rfl, w⟩ | ⟨rfl, w⟩
      · exact gA_12 (by omega) w
      · rcases (by omega : c = 11 ∨ c = 12 ∨ c = 13 ∨ c = 14) with rfl | rfl | rfl | rfl <;> rfl
      · rcases w with rfl | rfl
        · rw [show zown 4 60 c = if 60 < 60 ∧ c ≠ 16 then 7 else 12 from rfl, if_neg (by omega)]
          rfl
        · rfl
    · rcases w with w | ⟨rfl, rfl, w⟩
      · exact gB_12 (by omega) w
      · exact z13_12 w
  rcases hsh s hs6 with ⟨h1, h2⟩ | ⟨h1, h2, h3, h4⟩ | ⟨h1, h2, h3, h4, h5, h6, h7⟩
  · refine go (Or.inl ⟨h1, h2⟩) ?_ ?_
    · rw [ka, if_pos h1, B142_32, if_neg (by decide)]
    · rw [kb, if_pos h2]
  · refine ⟨-12, M, M, ?_, ?_, zFr_refl _ M⟩
    · rw [ka, h1, if_neg (by decide), B142_32, if_pos rfl, e96, h1, if_neg (by decide), zbsome, zpu1, B142_41, if_pos rfl]
    · rw [kb, h2, if_neg (by grind), if_neg (by grind)]
  · by_cases c : zgI M 9 s 2 = 0
    · refine go (Or.inr ⟨h1, c, by rw [h3, c]; rfl, h4, h5, fun i hi => ⟨h6 i hi, by rw [← c]; exact h7 i hi⟩⟩) ?_ ?_
      · rw [ka, h1, if_neg (by decide), B142_32, if_pos rfl, e96, h1, if_pos rfl, if_pos c, zbsome, zpu1, B142_41, if_neg (by decide)]
      · rw [kb, h3, c, if_neg (by decide), if_pos (by decide)]
    · refine ⟨-12, M, M, ?_, ?_, zFr_refl _ M⟩
      · rw [ka, h1, if_neg (by decide), B142_32, if_pos rfl, e96, h1, if_pos rfl, if_neg c, zbsome, zpu1, B142_41, if_pos rfl]
      · rw [kb, h3, if_neg (by grind), if_neg (by grind)]
