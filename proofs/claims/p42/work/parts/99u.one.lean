/-! ===== one hand played, by both ===== -/
theorem FIN2s (d i bi di p h N kd P C dv n : Nat) (led : Bool) (x5 : Int32) {T : Nat → List (List yOp × List yOp)} {q lf : Nat → Nat} {A B : zM} (H : yFin i bi di p h N kd P C dv n T q lf A B) : ∃ A8, zgo false (d + 32) 34 115 [zr 5 0, zr 2 bi, zr 10 i, zr 4 di, zi (bI led), zi x5] [] A = zgo false (d + 32) 34 178 [zr 5 0, zr 2 bi, zr 10 i, zr 4 di, zi (bI led), zi x5] [] A8 ∧ zFo (fun a b c => (b = 0 ∧ (a = 7 ∨ (33 ≤ a ∧ a ≤ 42 ∧ ¬ a = 35))) ∨ (a = 4 ∧ b = di ∧ c = 19)) A A8 ∧ (zgI A8 4 di 19 = zgI B 90 0 h ∨ (led = false ∧ zgI A8 4 di 19 = 0 ∧ ∀ (b' lb w w' rr c t : Int32), yPt (T 3) b' lb w rr c t = yPt (T 3) b' lb w' rr c t)) := by
  obtain ⟨ht, -, ⟨r12, r13⟩, ⟨-, -, -, -, -, e19⟩, ⟨hn, e11, -, S, Aa, pl, hpl, e90⟩, -, h25, ⟨wl1, -, wl3, wl4⟩, -, -, -⟩ := H
  have l0 : nI n ≤ 0 ↔ n ≤ 0 := nI_leI (b := 0) (by omega) (by omega)
  by_cases n0 : n = 0
  · refine ⟨A, ?_, zFo_refl _ A, Or.inl ?_⟩
    · rw [B34_115, e11, if_pos (l0.mpr (by omega))]
    · rw [e19, e90, n0]
      rfl
  · obtain ⟨e25, hd⟩ := h25 (by omega)
    -- the plays held against the best
    obtain ⟨A1, s1, f1, a1, a2, a3, a4⟩ := S60 (d + 28) 28 di zu (o := lf) (q := q) A (by omega) (fun d v A' hv => at28n false d di v A' (by omega)) (fun v v1 v2 => (wl1 v v1 v2).1) ⟨wl3, wl4⟩ (fun w hw => (ht.2.2.1.1 w hw).1) ht.2.2.1.2 ht.2.2.2
    have s1 : zgo false (d + 31) 60 0 [zr 7 0, zr 28 di, zr 29 0, zu] [] A = some (some (zi 1), A1) := s1
    obtain ⟨A2, s2, f2, o1, o2, o3⟩ := S61 (d + 28) dv hd zu zu a1 a2 a3 a4
    have s2 : zgo false (d + 31) 61 0 [zr 7 0, zi (nI dv), zu, zu] [] A1 = some (none, A2) := s2
    have f12 : zFo (fun a b c => b = 0 ∧ (a = 7 ∨ (33 ≤ a ∧ a ≤ 42 ∧ ¬ a = 35))) A A2 := zFo_trans (zFo_mono f1 (fun a b c y => by unfold oFl at y; omega)) (zFo_mono f2 (fun a b c y => by unfold oFf at y; omega))
    have hF : oFc A2 lf (oO lf q dv) := ⟨o1, o2, o3, fun k => oO_nn dv k, oO_q (q := q) wl3 dv, wl3⟩
    have hR2 : oR A2 q := oR_fr a3 f2 (fun v z => by unfold oFf at z; omega)
    have e49 := S49 (d + 28) di n hn zu zu (A := A2) (lf := lf) (q := q) (S := S) (O := oO lf q dv) (Aa := Aa) (pl := pl) (((f12 5 0 13 (by omega)).2.2).trans r13) (((f12 4 di 11 (by omega)).1).trans e11) hR2 hF (fun j hj => by
      obtain ⟨t1, t2, t3⟩ := hpl j hj
      exact ⟨((f12 26 di j (by omega)).1).trans t1, ((f12 27 di j (by omega)).1).trans t2, t3⟩)
    have e49 : zgo false (d + 31) 49 0 [zr 5 0, zu, zu] [] A2 = _ := e49
    have k139 : zgo false (d + 32) 34 139 [zr 5 0, zr 2 bi, zr 10 i, zr 4 di, zi (bI led), zi x5] [] A = zgo false (d + 32) 34 178 [zr 5 0, zr 2 bi, zr 10 i, zr 4 di, zi (bI led), zi x5] [] (zsI A2 4 di 19 (bI (yOt lf (oO lf q dv) q S Aa pl n))) := by
      have e25' : zgo false (d + 31) 169 0 [zr 25 di, zi 0] [] A1 = some (some (zi (nI dv)), A1) := (at25n false (d + 31) di 0 A1 (by omega)).trans (by rw [(f1 25 di 0 (by unfold oFl; omega)).1, e25])
      have zb : zib (bI (yOt lf (oO lf q dv) q S Aa pl n)) = true := by
        cases yOt lf (oO lf q dv) q S Aa pl n <;> rfl
      rw [B34_139, s1, zbsome, zpu1, B34_154, e25', zbsome]
      show zgo false (d + 32) 34 167 [zr 5 0, zr 2 bi, zr 10 i, zr 4 di, zi (bI led), zi x5] [zi (nI dv), zr 7 0] A1 = _
      rw [B34_167, s2, zbsome, zpu0, B34_170, e49, zbsome]
      show zgo false (d + 32) 34 175 [zr 5 0, zr 2 bi, zr 10 i, zr 4 di, zi (bI led), zi x5] [zi (bI (yOt lf (oO lf q dv) q S Aa pl n)), zr 4 di] A2 = _
      rw [B34_175, zb, cond_true]
    have fin : zFo (fun a b c => (b = 0 ∧ (a = 7 ∨ (33 ≤ a ∧ a ≤ 42 ∧ ¬ a = 35))) ∨ (a = 4 ∧ b = di ∧ c = 19)) A (zsI A2 4 di 19 (bI (yOt lf (oO lf q dv) q S Aa pl n))) := zFo_sI (zFo_mono f12 (fun a b c y => Or.inl y)) (Or.inr ⟨rfl, rfl, rfl⟩)
    have e19' : zgI (zsI A2 4 di 19 (bI (yOt lf (oO lf q dv) q S Aa pl n))) 4 di 19 = zgI B 90 0 h := by rw [zgI_sI, if_pos ⟨rfl, rfl, rfl⟩, e90]
    cases led with
    | true =>
      refine ⟨_, ?_, fin, Or.inl e19'⟩
      rw [B34_115, e11, if_neg (mt l0.mp (by omega)), if_neg (show ¬ bI true = 0 by decide)]
      exact k139
    | false =>
      obtain ⟨t1, t2, t3, t4⟩ := ht.1 3 (by omega)
      obtain ⟨b, e123, hind⟩ := S123 (d + 30) 3 zu t1 t3
      have e123 : zgo false (d + 31) 123 0 [zr 11 3, zi 7, zu] [] A = some (some (zi (bI b)), A) := e123
      cases b with
      | true =>
        refine ⟨_, ?_, fin, Or.inl e19'⟩
        rw [B34_115, e11, if_neg (mt l0.mp (by omega)), if_pos (show bI false = 0 from rfl), e123, zbsome, zpu1, B34_136, if_neg (show ¬ bI true = 0 by decide)]
        exact k139
      | false =>
        refine ⟨A, ?_, zFo_refl _ A, Or.inr ⟨rfl, e19, hind rfl⟩⟩
        rw [B34_115, e11, if_neg (mt l0.mp (by omega)), if_pos (show bI false = 0 from rfl), e123, zbsome, zpu1, B34_136, if_pos (show bI false = 0 from rfl)]
/-- 'bring' -/
theorem K51 (d bi di : Nat) {A : zM} (r12 : zgR A 5 0 12 = (2, bi)) (r13 : zgR A 5 0 13 = (4, di)) : ∃ A', zgo false (d + 1) 51 0 [zr 5 0] [] A = some (none, A') ∧ zFo (fun a b c => a = 2 ∧ b = bi ∧ (c = 1 ∨ (3 ≤ c ∧ c ≤ 5))) A A' ∧ zgI A' 2 bi 1 = yHe (zgI A 2 bi 1 + zgI A 4 di 10) 0 9999900 ∧ zgI A' 2 bi 3 = zgI A 2 bi 3 + zgI A 4 di 12 ∧ zgI A' 2 bi 4 = zgI A 2 bi 4 + 1 ∧ zgI A' 2 bi 5 = zgI A 4 di 9 := by
  obtain ⟨W, hW⟩ : ∃ W, W = yHe (zgI A 2 bi 1 + zgI A 4 di 10) 0 9999900 := ⟨_, rfl⟩
  obtain ⟨M1, hM1⟩ : ∃ M, M = zsI A 2 bi 1 W := ⟨_, rfl⟩
  obtain ⟨M2, hM2⟩ : ∃ M, M = zsI M1 2 bi 3 (zgI A 2 bi 3 + zgI A 4 di 12) := ⟨_, rfl⟩
  obtain ⟨M3, hM3⟩ : ∃ M, M = zsI M2 2 bi 5 (zgI A 4 di 9) := ⟨_, rfl⟩
  obtain ⟨M4, hM4⟩ : ∃ M, M = zsI M3 2 bi 4 (zgI A 2 bi 4 + 1) := ⟨_, rfl⟩
  have q12 : zgR M1 5 0 12 = (2, bi) := by rw [hM1]; exact r12
  have q13 : zgR M1 5 0 13 = (4, di) := by rw [hM1]; exact r13
  have w12 : zgR M2 5 0 12 = (2, bi) := by rw [hM2]; exact q12
  have w13 : zgR M2 5 0 13 = (4, di) := by rw [hM2]; exact q13
  have y12 : zgR M3 5 0 12 = (2, bi) := by rw [hM3]; exact w12
  have a3 : zgI M1 2 bi 3 = zgI A 2 bi 3 := by rw [hM1, zgI_sI, if_neg (by omega)]
  have a12 : zgI M1 4 di 12 = zgI A 4 di 12 := by rw [hM1, zgI_sI, if_neg (by omega)]
  have a9 : zgI M2 4 di 9 = zgI A 4 di 9 := by rw [hM2, zgI_sI, if_neg (by omega), hM1, zgI_sI, if_neg (by omega)]
  have a4 : zgI M3 2 bi 4 = zgI A 2 bi 4 := by rw [hM3, zgI_sI, if_neg (by omega), hM2, zgI_sI, if_neg (by omega), hM1, zgI_sI, if_neg (by omega)]
  have z2 : Nat.beq ((2 : Nat), bi).1 2 = true := rfl
  have z4 : Nat.beq ((4 : Nat), di).1 4 = true := rfl
  refine ⟨M4, ?_, ?_, ?_, ?_, ?_, ?_⟩
  · rw [B51_0, r12, r13, z2, z4, cond_true, cond_true]
    show ((zgo false d 171 0 [zi (zgI A 2 bi 1 + zgI A 4 di 10), zi 0, zi 9999900] [] A).bind fun q => zgo false (d + 1) 51 26 [zr 5 0] (zpush q.1 [zr 2 bi]) q.2) = _
    rw [S171y _ _ _ _ _ _ (by decide), ← hW, zbsome]
    show zgo false (d + 1) 51 26 [zr 5 0] [zi W, zr 2 bi] A = _
    rw [B51_26, ← hM1, q12, q13, z2, z4]
    show (bif true then bif true then bif true then bif Nat.beq (zgR (zsI M1 2 bi 3 (zgI M1 2 bi 3 + zgI M1 4 di 12)) 5 0 13).1 4 then bif Nat.beq (zgR (zsI M1 2 bi 3 (zgI M1 2 bi 3 + zgI M1 4 di 12)) 5 0 12).1 2 then zgo false (d + 1) 51 62 [zr 5 0] [] (zsI (zsI M1 2 bi 3 (zgI M1 2 bi 3 + zgI M1 4 di 12)) 2 (zgR (zsI M1 2 bi 3 (zgI M1 2 bi 3 + zgI M1 4 di 12)) 5 0 12).2 5 (zgI (zsI M1 2 bi 3 (zgI M1 2 bi 3 + zgI M1 4 di 12)) 4 (zgR (zsI M1 2 bi 3 (zgI M1 2 bi 3 + zgI M1 4 di 12)) 5 0 13).2 9)) else none else none else none else none else none) = _
    rw [a3, a12, ← hM2, w12, w13, z2, z4]
    show zgo false (d + 1) 51 62 [zr 5 0] [] (zsI M2 2 bi 5 (zgI M2 4 di 9)) = _
    rw [a9, ← hM3, B51_62, y12, z2, cond_true, cond_true]
    show some (none, zsI M3 2 bi 4 (zgI M3 2 bi 4 + 1)) = _
    rw [a4, hM4]
  · rw [hM4, hM3, hM2, hM1]
    exact zFo_sI (zFo_sI (zFo_sI (zFo_sI (zFo_refl _ A) (by omega)) (by omega)) (by omega)) (by omega)
  · rw [hM4, zgI_sI, if_neg (by omega), hM3, zgI_sI, if_neg (by omega), hM2, zgI_sI, if_neg (by omega), hM1, zgI_sI, if_pos ⟨rfl, rfl, rfl⟩, hW]
  · rw [hM4, zgI_sI, if_neg (by omega), hM3, zgI_sI, if_neg (by omega), hM2, zgI_sI, if_pos ⟨rfl, rfl, rfl⟩]
  · rw [hM4, zgI_sI, if_pos ⟨rfl, rfl, rfl⟩]
  · rw [hM4, zgI_sI, if_neg (by omega), hM3, zgI_sI, if_pos ⟨rfl, rfl, rfl⟩]
/-- the model's last steps -/
theorem FM2 (d p h : Nat) (x3 x4 : Int32) {T : List (List yOp × List yOp)} {B : zM} (hp : p < 10) (hh : h < 60) (hw : yWT T) (hc : yMt B 3 T) : ∃ B', zgo false (d + 32) 271 242 [zr 13 0, zi (nI p), zi (nI h), zi x3, zi x4] [] B = some (none, B') ∧ zFo (fun a b c => b = 0 ∧ (a = 68 ∨ a = 69 ∨ ((a = 87 ∨ a = 88) ∧ c = h) ∨ ((a = 71 ∨ a = 73 ∨ a = 75) ∧ c = p))) B B' ∧ zgI B' 71 0 p = yHe (zgI B 71 0 p + zgI B 84 0 h) 0 9999900 ∧ zgI B' 87 0 h = yPt T (zgI B 83 0 h) (zgI B 75 0 p) (zgI B 13 0 69) (zgI B 84 0 h / 100) x3 (zgI B 86 0 h) ∧ zgI B' 88 0 h = yPt T (zgI B 83 0 h) (zgI B 75 0 p) 0 (zgI B 84 0 h / 100) x3 (zgI B 86 0 h) ∧ zgI B' 73 0 p = zgI B 73 0 p + zgI B' 87 0 h ∧ zgI B' 75 0 p = zgI B 83 0 h := by
  have zp10 : zin (nI p) 10 = true := zin_nI (by omega) (by omega)
  have cp : (nI p).toNatClampNeg = p := nI_clamp (by omega)
  have zh60 : zin (nI h) 60 = true := zin_nI (by omega) (by omega)
  have ch : (nI h).toNatClampNeg = h := nI_clamp (by omega)
  obtain ⟨W, hW⟩ : ∃ W, W = yHe (zgI B 71 0 p + zgI B 84 0 h) 0 9999900 := ⟨_, rfl⟩
  obtain ⟨M1, hM1⟩ : ∃ M, M = zsI B 71 0 p W := ⟨_, rfl⟩
  have f1 : zFo (fun a b c => b = 0 ∧ a = 71 ∧ c = p) B M1 := by
    rw [hM1]
    exact zFo_sI (zFo_refl _ B) (by omega)
  obtain ⟨M2, e2, f2⟩ := K270 (d + 25) p h x3 (zgI B 13 0 69) T (B := M1) hp hh hw (yMt_fr (by omega) (fun k s hk => (f1 k 0 s (by omega)).1) hc)
  have e2 : zgo false (d + 31) 270 0 [zr 13 0, zi (nI p), zi (nI h), zi x3, zi (zgI B 13 0 69)] [] M1 = _ := e2
  rw [(f1 83 0 h (by omega)).1, (f1 75 0 p (by omega)).1, (f1 84 0 h (by omega)).1, (f1 86 0 h (by omega)).1] at e2
  obtain ⟨P1, hP1⟩ : ∃ P1, P1 = yPt T (zgI B 83 0 h) (zgI B 75 0 p) (zgI B 13 0 69) (zgI B 84 0 h / 100) x3 (zgI B 86 0 h) := ⟨_, rfl⟩
  obtain ⟨P0, hP0⟩ : ∃ P0, P0 = yPt T (zgI B 83 0 h) (zgI B 75 0 p) 0 (zgI B 84 0 h / 100) x3 (zgI B 86 0 h) := ⟨_, rfl⟩
  rw [← hP1] at e2
  obtain ⟨M3, hM3⟩ : ∃ M, M = zsI M2 87 0 h P1 := ⟨_, rfl⟩
  have f23 : zFo (fun a b c => b = 0 ∧ (a = 68 ∨ a = 69 ∨ (a = 87 ∧ c = h))) M1 M3 := by
    rw [hM3]
    exact zFo_sI (zFo_mono f2 (fun a b c y => by unfold gB3 at y; omega)) (by omega)
  have f13 : zFo (fun a b c => b = 0 ∧ (a = 68 ∨ a = 69 ∨ (a = 87 ∧ c = h) ∨ (a = 71 ∧ c = p))) B M3 := zFo_trans (zFo_mono f1 (fun a b c y => by omega)) (zFo_mono f23 (fun a b c y => by omega))
  obtain ⟨M4, e4, f4⟩ := K270 (d + 25) p h x3 0 T (B := M3) hp hh hw (yMt_fr (by omega) (fun k s hk => (f13 k 0 s (by omega)).1) hc)
  have e4 : zgo false (d + 31) 270 0 [zr 13 0, zi (nI p), zi (nI h), zi x3, zi 0] [] M3 = _ := e4
  rw [(f13 83 0 h (by omega)).1, (f13 75 0 p (by omega)).1, (f13 84 0 h (by omega)).1, (f13 86 0 h (by omega)).1, ← hP0] at e4
  obtain ⟨M5, hM5⟩ : ∃ M, M = zsI M4 88 0 h P0 := ⟨_, rfl⟩
  have f35 : zFo (fun a b c => b = 0 ∧ (a = 68 ∨ a = 69 ∨ (a = 88 ∧ c = h))) M3 M5 := by
    rw [hM5]
    exact zFo_sI (zFo_mono f4 (fun a b c y => by unfold gB3 at y; omega)) (by omega)
  have e87 : zgI M5 87 0 h = P1 := by rw [(f35 87 0 h (by omega)).1, hM3, zgI_sI, if_pos ⟨rfl, rfl, rfl⟩]
  have e73 : zgI M5 73 0 p = zgI B 73 0 p := by rw [(f35 73 0 p (by omega)).1, (f13 73 0 p (by omega)).1]
  obtain ⟨M6, hM6⟩ : ∃ M, M = zsI M5 73 0 p (zgI B 73 0 p + P1) := ⟨_, rfl⟩
  have f6 : zFo (fun a b c => b = 0 ∧ a = 73 ∧ c = p) M5 M6 := by
    rw [hM6]
    exact zFo_sI (zFo_refl _ M5) (by omega)
  have e83 : zgI M6 83 0 h = zgI B 83 0 h := by rw [(f6 83 0 h (by omega)).1, (f35 83 0 h (by omega)).1, (f13 83 0 h (by omega)).1]
  obtain ⟨M7, hM7⟩ : ∃ M, M = zsI M6 75 0 p (zgI B 83 0 h) := ⟨_, rfl⟩
  have f7 : zFo (fun a b c => b = 0 ∧ a = 75 ∧ c = p) M6 M7 := by
    rw [hM7]
    exact zFo_sI (zFo_refl _ M6) (by omega)
  have f67 : zFo (fun a b c => b = 0 ∧ (a = 73 ∨ a = 75) ∧ c = p) M5 M7 := zFo_trans (zFo_mono f6 (fun a b c y => by omega)) (zFo_mono f7 (fun a b c y => by omega))
  refine ⟨M7, ?_, ?_, ?_, ?_, ?_, ?_, ?_⟩
  · have a69 : zgI M1 13 0 69 = zgI B 13 0 69 := (f1 13 0 69 (by omega)).1
    have e83b : zgI M5 87 0 h = P1 := e87
    rw [B271_242, if_pos zp10, if_pos zh60, ch, cp, S194y, ← hW, zbsome]
    show zgo false (d + 32) 271 267 [zr 13 0, zi (nI p), zi (nI h), zi x3, zi x4] [zi W, zi (nI p), zr 71 0] B = _
    rw [B271_267, if_pos zp10, cp, ← hM1, a69, e2, zbsome]
    show zgo false (d + 32) 271 284 [zr 13 0, zi (nI p), zi (nI h), zi x3, zi x4] [zi P1, zi (nI h), zr 87 0] M2 = _
    rw [B271_284, if_pos zh60, ch, ← hM3, e4, zbsome]
    show zgo false (d + 32) 271 298 [zr 13 0, zi (nI p), zi (nI h), zi x3, zi x4] [zi P0, zi (nI h), zr 88 0] M4 = _
    rw [B271_298, if_pos zh60, if_pos zp10, if_pos zh60, if_pos zp10, ch, cp, ← hM5, e73, e87, ← hM6, B271_314, if_pos zh60, if_pos zp10, ch, cp, e83, ← hM7]
  · exact zFo_trans (zFo_mono f13 (fun a b c y => by omega)) (zFo_trans (zFo_mono f35 (fun a b c y => by omega)) (zFo_mono f67 (fun a b c y => by omega)))
  · rw [(f67 71 0 p (by omega)).1, (f35 71 0 p (by omega)).1, (f23 71 0 p (by omega)).1, hM1, zgI_sI, if_pos ⟨rfl, rfl, rfl⟩, hW]
  · rw [(f67 87 0 h (by omega)).1, e87, hP1]
  · rw [(f67 88 0 h (by omega)).1, hM5, zgI_sI, if_pos ⟨rfl, rfl, rfl⟩, hP0]
  · rw [(f67 87 0 h (by omega)).1, e87, (f7 73 0 p (by omega)).1, hM6, zgI_sI, if_pos ⟨rfl, rfl, rfl⟩]
  · rw [hM7, zgI_sI, if_pos ⟨rfl, rfl, rfl⟩]
