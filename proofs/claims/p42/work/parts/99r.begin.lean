/-! ===== a hand begun, by both ===== -/
def oneA (i bi di a b c : Nat) : Prop := (b = i ∧ (a = 46 ∨ a = 47 ∨ (a = 10 ∧ 5 ≤ c ∧ c ≤ 9))) ∨ (b = di ∧ (a = 4 ∨ (24 ≤ a ∧ a ≤ 28))) ∨ (a = 2 ∧ b = bi ∧ (c = 1 ∨ (3 ≤ c ∧ c ≤ 5))) ∨ (b = 0 ∧ (a = 31 ∨ (a = 5 ∧ 11 ≤ c ∧ c ≤ 15) ∨ a = 7 ∨ (33 ≤ a ∧ a ≤ 42 ∧ ¬ a = 35))) ∨ a = 49 ∨ (a = 11 ∧ c = 3)
def oneB (p h a b c : Nat) : Prop := b = 0 ∧ (a = 55 ∨ a = 56 ∨ (a = 13 ∧ (c = 4 ∨ c = 5 ∨ c = 7 ∨ c = 8)) ∨ a = 68 ∨ a = 69 ∨ (76 ≤ a ∧ a ≤ 81) ∨ (a = 13 ∧ 59 ≤ c ∧ c ≤ 70) ∨ ((a = 91 ∨ a = 93) ∧ 24 * h ≤ c ∧ c < 24 * h + 24) ∨ (((83 ≤ a ∧ a ≤ 90) ∨ a = 92 ∨ a = 94) ∧ c = h) ∨ (a = 95 ∧ 11 * h ≤ c ∧ c < 11 * h + 11) ∨ ((a = 71 ∨ a = 73 ∨ a = 74 ∨ a = 75) ∧ c = p))
theorem oneA_sh {i bi di a b c : Nat} (H : yShA i a b c) : oneA i bi di a b c := Or.inl H
theorem oneA_di {i bi di a b c : Nat} (h : b = di) (H : a = 4 ∨ (24 ≤ a ∧ a ≤ 28)) : oneA i bi di a b c := Or.inr (Or.inl ⟨h, H⟩)
theorem oneA_bd {i bi di a b c : Nat} (H : a = 2 ∧ b = bi ∧ (c = 1 ∨ (3 ≤ c ∧ c ≤ 5))) : oneA i bi di a b c := Or.inr (Or.inr (Or.inl H))
theorem oneA_0 {i bi di a b c : Nat} (h : b = 0) (H : a = 31 ∨ (a = 5 ∧ 11 ≤ c ∧ c ≤ 15) ∨ a = 7 ∨ (33 ≤ a ∧ a ≤ 42 ∧ ¬ a = 35)) : oneA i bi di a b c := Or.inr (Or.inr (Or.inr (Or.inl ⟨h, H⟩)))
theorem oneA_tx {i bi di a b c : Nat} (H : a = 49 ∨ (a = 11 ∧ c = 3)) : oneA i bi di a b c := Or.inr (Or.inr (Or.inr (Or.inr H)))
theorem oneB_sh {p h a b c : Nat} (H : yShB a b c) : oneB p h a b c := ⟨H.1, H.2.elim Or.inl (fun y => y.elim (fun z => Or.inr (Or.inl z)) (fun z => Or.inr (Or.inr (Or.inl z))))⟩
theorem oneB_t {p h a b c : Nat} (e : b = 0) (H : a = 68 ∨ a = 69) : oneB p h a b c := ⟨e, Or.inr (Or.inr (Or.inr (H.elim Or.inl (fun y => Or.inr (Or.inl y)))))⟩
theorem oneB_o {p h a b c : Nat} (e : b = 0) (H : 76 ≤ a ∧ a ≤ 81) : oneB p h a b c := ⟨e, Or.inr (Or.inr (Or.inr (Or.inr (Or.inr (Or.inl H)))))⟩
theorem oneB_13 {p h a b c : Nat} (e : b = 0) (H : a = 13 ∧ 59 ≤ c ∧ c ≤ 70) : oneB p h a b c := ⟨e, Or.inr (Or.inr (Or.inr (Or.inr (Or.inr (Or.inr (Or.inl H))))))⟩
theorem oneB_c {p h a b c : Nat} (e : b = 0) (H : (a = 91 ∨ a = 93) ∧ 24 * h ≤ c ∧ c < 24 * h + 24) : oneB p h a b c := ⟨e, Or.inr (Or.inr (Or.inr (Or.inr (Or.inr (Or.inr (Or.inr (Or.inl H)))))))⟩
theorem oneB_h {p h a b c : Nat} (e : b = 0) (H : ((83 ≤ a ∧ a ≤ 90) ∨ a = 92 ∨ a = 94) ∧ c = h) : oneB p h a b c := ⟨e, Or.inr (Or.inr (Or.inr (Or.inr (Or.inr (Or.inr (Or.inr (Or.inr (Or.inl H))))))))⟩
theorem oneB_l {p h a b c : Nat} (e : b = 0) (H : a = 95 ∧ 11 * h ≤ c ∧ c < 11 * h + 11) : oneB p h a b c := ⟨e, Or.inr (Or.inr (Or.inr (Or.inr (Or.inr (Or.inr (Or.inr (Or.inr (Or.inr (Or.inl H)))))))))⟩
theorem oneB_p {p h a b c : Nat} (e : b = 0) (H : (a = 71 ∨ a = 73 ∨ a = 74 ∨ a = 75) ∧ c = p) : oneB p h a b c := ⟨e, Or.inr (Or.inr (Or.inr (Or.inr (Or.inr (Or.inr (Or.inr (Or.inr (Or.inr (Or.inr H)))))))))⟩
def yTy (T : Nat → List (List yOp × List yOp)) (q : Nat → Nat) (A B : zM) : Prop := (∀ u, u < 4 → yTxt A B u (T u)) ∧ (∀ v, 1 ≤ v → v ≤ 10 → zgI A 30 0 v = yTag (T 1) v) ∧ ((∀ w, w < 4 → zgI A 29 0 w = nI (q w) ∧ zgI B 57 0 w = nI (q w)) ∧ (q 0 ≤ 1 ∧ 100 ≤ q 1 ∧ q 1 ≤ 200 ∧ q 2 ≤ 1 ∧ 15 ≤ q 3 ∧ q 3 ≤ 19)) ∧ Raf A
theorem yTy_fr {T : Nat → List (List yOp × List yOp)} {q : Nat → Nat} {A B A' B' : zM} (H : yTy T q A B) {i bi di p h : Nat} (f : zFo (oneA i bi di) A A') (g : zFo (oneB p h) B B') : yTy T q A' B' := by
  obtain ⟨ht, hv, ⟨hq, hq2⟩, hR⟩ := H
  refine ⟨fun u hu => ?_, fun v v1 v2 => ?_, ⟨fun w hw => ⟨?_, ?_⟩, hq2⟩, Raf_fr hR f (fun v => by unfold oneA; omega)⟩
  · obtain ⟨t1, t2, t3, t4⟩ := ht u hu
    exact ⟨t1, t2, yCl_fr t3 (f 11 u 2 (by unfold oneA; omega)).1 (fun s => (f 48 u s (by unfold oneA; omega)).1), yMt_fr hu (fun k s hk => (g k 0 s (by unfold oneB; omega)).1) t4⟩
  · rw [(f 30 0 v (by unfold oneA; omega)).1]; exact hv v v1 v2
  · rw [(f 29 0 w (by unfold oneA; omega)).1]; exact (hq w hw).1
  · rw [(g 57 0 w (by unfold oneB; omega)).1]; exact (hq w hw).2
/-- a player's numbers: N hands played -/
def yBd (bi p N kd : Nat) (A B : zM) : Prop := kd ≤ 7 ∧ (zgI A 2 bi 0 = nI kd ∧ zgI B 70 0 p = nI kd) ∧ zgI A 2 bi 1 = zgI B 71 0 p ∧ zgI A 2 bi 2 = zgI B 72 0 p ∧ zgI A 2 bi 3 = zgI B 73 0 p ∧ (zgI A 2 bi 4 = nI N ∧ zgI B 74 0 p = nI N) ∧ zgI A 2 bi 5 = zgI B 75 0 p
def yTn (kd N : Nat) : Bool := decide (kd = 7 ∧ N % 3 = 2)
theorem K12 (d bi kd N : Nat) {A : zM} (h : zgI A 2 bi 0 = nI kd) (hk : kd ≤ 7) (h4 : zgI A 2 bi 4 = nI N) (hN : N ≤ 1000000) : zgo false d 12 0 [zr 2 bi] [] A = some (some (zi (bI (yTn kd N))), A) := by
  have l7 : nI kd = 7 ↔ kd = 7 := nI_eq (b := 7) (by omega) (by omega)
  have em : nI N - nI N / 3 * 3 = nI (N % 3) := nI_mod (m := 3) (by omega) (by omega) (by omega)
  have l2 : nI (N % 3) = 2 ↔ N % 3 = 2 := nI_eq (b := 2) (by omega) (by omega)
  unfold yTn
  rw [B12_0, h, h4, em]
  by_cases c : kd = 7
  · rw [if_pos (l7.mpr c), if_neg (by decide)]
    by_cases c2 : N % 3 = 2
    · rw [if_pos (l2.mpr c2), B12_24, decide_eq_true (show kd = 7 ∧ N % 3 = 2 from ⟨c, c2⟩)]; rfl
    · rw [if_neg (mt l2.mp c2), B12_23, B12_24, decide_eq_false (show ¬ (kd = 7 ∧ N % 3 = 2) from fun w => c2 w.2)]; rfl
  · rw [if_neg (mt l7.mp c), B12_23, B12_24, decide_eq_false (show ¬ (kd = 7 ∧ N % 3 = 2) from fun w => c w.1)]; rfl
/-- after the seats are taken and the hand's rows are cleared -/
def yMid (i bi di p h P C g : Nat) (sn c : Nat → Nat) (A B A3 B5 : zM) (ct tc : Int32) : Prop :=
  (zFo (oneA i bi di) A A3 ∧ zFo (oneB p h) B B5) ∧ (zgR A3 5 0 11 = (10, i) ∧ zgR A3 5 0 12 = (2, bi) ∧ zgR A3 5 0 13 = (4, di) ∧ zgR A3 5 0 14 = (0, 0)) ∧ (zgI B5 13 0 59 = 0 ∧ zgI B5 13 0 60 = -1 ∧ zgI B5 13 0 62 = nI p ∧ zgI B5 13 0 63 = nI h) ∧ (yNm i A3 B5 P C g sn ∧ yDk i A3 B5 P g sn c 0) ∧ (zgI A3 10 i 9 = 0 ∧ zgI B5 13 0 5 = 1) ∧ (∀ s, (5 ≤ s ∧ s ≤ 8) ∨ (10 ≤ s ∧ s ≤ 13) ∨ (17 ≤ s ∧ s ≤ 19) → zgI A3 4 di s = 0) ∧ (zgI A3 4 di 14 = ct ∧ zgI A3 4 di 15 = tc ∧ zgI B5 86 0 h = tc) ∧ yLft di h A3 B5 (yLf P sn) ∧ (zgI B5 92 0 h = 0 ∧ zgI B5 94 0 h = 0) ∧ (∀ s, zgI A3 2 bi s = zgI A 2 bi s) ∧ (∀ k, 70 ≤ k → k ≤ 75 → zgI B5 k 0 p = zgI B k 0 p) ∧ (zgI A3 10 i 8 = ct ∧ zgI B5 13 0 8 = ct ∧ tc = yTc ct (yLf P sn 0))
theorem PRE0 (d i bi di p h : Nat) (led : Int32) {P C : Nat} {A B : zM} (hs : ySho i P C A B) (hp : p < 10) (hh : h < 60) : ∃ (A3 B5 : zM) (g : Nat) (sn c : Nat → Nat) (ct tc : Int32), zgo false (d + 32) 34 0 [zr 5 0, zr 2 bi, zr 10 i, zr 4 di, zi led, zu] [] A = ((zgo false (d + 31) 46 0 [zr 5 0, zu, zu] [] A3).bind fun q => zgo false (d + 32) 34 22 [zr 5 0, zr 2 bi, zr 10 i, zr 4 di, zi led, zu] (zpush q.1 [zr 4 di]) q.2) ∧ zgo false (d + 32) 271 0 [zr 13 0, zi (nI p), zi (nI h), zu, zu] [] B = zgo false (d + 32) 271 89 [zr 13 0, zi (nI p), zi (nI h), zi ct, zi (nI 11)] [] B5 ∧ yMid i bi di p h P C g sn c A B A3 B5 ct tc := by
  have zh60 : zin (nI h) 60 = true := zin_nI (by omega) (by omega)
  have ch : (nI h).toNatClampNeg = h := nI_clamp (by omega)
  obtain ⟨A1, B1, g, sn, c, e1, m1, f1, g1, n1, k1, z9, z5⟩ := H115 (d + 27) i (nI p) (nI h) zu zu hs
  have e1 : zgo false (d + 31) 115 0 [zr 10 i] [] A = some (none, A1) := e1
  have m1 : zgo false (d + 32) 271 0 [zr 13 0, zi (nI p), zi (nI h), zu, zu] [] B = zgo false (d + 32) 271 37 [zr 13 0, zi (nI p), zi (nI h), zu, zu] [] B1 := m1
  have fA1 : zFo (oneA i bi di) A A1 := zFo_mono f1 (fun a b c y => oneA_sh y)
  have gB1 : zFo (oneB p h) B B1 := zFo_mono g1 (fun a b c y => oneB_sh y)
  -- seats taken
  obtain ⟨A2, hA2⟩ : ∃ A2, A2 = zsR (zsR (zsR (zsR A1 5 0 12 (2, bi)) 5 0 11 (10, i)) 5 0 14 (0, 0)) 5 0 13 (4, di) := ⟨_, rfl⟩
  have f2 : zFo (fun a b c => a = 5 ∧ b = 0 ∧ 11 ≤ c ∧ c ≤ 14) A1 A2 := by
    rw [hA2]
    exact zFo_sR (zFo_sR (zFo_sR (zFo_sR (zFo_refl _ A1) (by omega)) (by omega)) (by omega)) (by omega)
  obtain ⟨B2, hB2⟩ : ∃ B2, B2 = zsI (zsI (zsI (zsI B1 13 0 59 0) 13 0 60 (-1)) 13 0 62 (nI p)) 13 0 63 (nI h) := ⟨_, rfl⟩
  have g2 : zFo (fun a b c => a = 13 ∧ b = 0 ∧ 59 ≤ c ∧ c ≤ 63) B1 B2 := by
    rw [hB2]
    exact zFo_sI (zFo_sI (zFo_sI (zFo_sI (zFo_refl _ B1) (by omega)) (by omega)) (by omega)) (by omega)
  have r11 : zgR A2 5 0 11 = (10, i) := by
    rw [hA2, zgR_sR, if_neg (by omega), zgR_sR, if_neg (by omega), zgR_sR, if_pos ⟨rfl, rfl, rfl⟩]
  have r12 : zgR A2 5 0 12 = (2, bi) := by
    rw [hA2, zgR_sR, if_neg (by omega), zgR_sR, if_neg (by omega), zgR_sR, if_neg (by omega), zgR_sR, if_pos ⟨rfl, rfl, rfl⟩]
  have r13 : zgR A2 5 0 13 = (4, di) := by rw [hA2, zgR_sR, if_pos ⟨rfl, rfl, rfl⟩]
  have r14 : zgR A2 5 0 14 = (0, 0) := by rw [hA2, zgR_sR, if_neg (by omega), zgR_sR, if_pos ⟨rfl, rfl, rfl⟩]
  have s59 : zgI B2 13 0 59 = 0 := by rw [hB2, zgI_sI, if_neg (by omega), zgI_sI, if_neg (by omega), zgI_sI, if_neg (by omega), zgI_sI, if_pos ⟨rfl, rfl, rfl⟩]
  have s60 : zgI B2 13 0 60 = -1 := by rw [hB2, zgI_sI, if_neg (by omega), zgI_sI, if_neg (by omega), zgI_sI, if_pos ⟨rfl, rfl, rfl⟩]
  have s62 : zgI B2 13 0 62 = nI p := by rw [hB2, zgI_sI, if_neg (by omega), zgI_sI, if_pos ⟨rfl, rfl, rfl⟩]
  have s63 : zgI B2 13 0 63 = nI h := by rw [hB2, zgI_sI, if_pos ⟨rfl, rfl, rfl⟩]
  have n2 : yNm i A2 B2 P C g sn := yNm_fr n1 (fun s _ _ => (f2 10 i s (by omega)).1) (fun s _ => (f2 47 i s (by omega)).1) (fun s _ _ _ => (g2 13 0 s (by omega)).1) (fun s _ => (g2 56 0 s (by omega)).1)
  -- begun
  obtain ⟨A3, e3, f3, w3, w14, w15, w28⟩ := K21 (d + 27) i di n2
  have e3 : zgo false (d + 31) 21 0 [zr 4 di, zr 10 i] [] A2 = some (none, A3) := e3
  obtain ⟨ct, hct⟩ : ∃ ct, ct = zgI A2 10 i 8 := ⟨_, rfl⟩
  obtain ⟨tc, htc⟩ : ∃ tc, tc = yTc ct (yLf P sn 0) := ⟨_, rfl⟩
  rw [← hct] at w14 w15
  rw [← htc] at w15
  have ect : zgI B2 13 0 8 = ct := by rw [hct]; exact n2.2.2.2.2.2.1.symm
  obtain ⟨B3, hB3⟩ : ∃ B3, B3 = zsI (zsI B2 92 0 h 0) 94 0 h 0 := ⟨_, rfl⟩
  have g3 : zFo (fun a b c => b = 0 ∧ (a = 92 ∨ a = 94) ∧ c = h) B2 B3 := by
    rw [hB3]
    exact zFo_sI (zFo_sI (zFo_refl _ B2) (by omega)) (by omega)
  have n3 : yNm i A2 B3 P C g sn := yNm_fr n2 (fun _ _ _ => rfl) (fun _ _ => rfl) (fun s _ _ _ => (g3 13 0 s (by omega)).1) (fun s _ => (g3 56 0 s (by omega)).1)
  have e201 : zgo false (d + 31) 201 0 [zr 13 0] [] B3 = some (some (zi tc), B3) := by
    rw [htc, ← ect, ← (g3 13 0 8 (by omega)).1]
    exact S201 (d + 29) i (yNm_B n3)
  obtain ⟨B4, hB4⟩ : ∃ B4, B4 = zsI B3 86 0 h tc := ⟨_, rfl⟩
  have g4 : zFo (fun a b c => b = 0 ∧ a = 86 ∧ c = h) B3 B4 := by
    rw [hB4]
    exact zFo_sI (zFo_refl _ B3) ⟨rfl, rfl, rfl⟩
  have g34 : zFo (fun a b c => b = 0 ∧ (a = 86 ∨ a = 92 ∨ a = 94) ∧ c = h) B2 B4 := zFo_trans (zFo_mono g3 (fun a b c y => by omega)) (zFo_mono g4 (fun a b c y => by omega))
  have n4 : yNm i A2 B4 P C g sn := yNm_fr n2 (fun _ _ _ => rfl) (fun _ _ => rfl) (fun s _ _ _ => (g34 13 0 s (by omega)).1) (fun s _ => (g34 56 0 s (by omega)).1)
  obtain ⟨B5, m5, g5, w95⟩ := L271 (d + 30) i h hh (nI p) ct 11 0 B4 rfl n4 (fun v v1 => by omega)
  have g25 : zFo (fun a b c => b = 0 ∧ (((a = 86 ∨ a = 92 ∨ a = 94) ∧ c = h) ∨ (a = 95 ∧ 11 * h ≤ c ∧ c < 11 * h + 11))) B2 B5 := zFo_trans (zFo_mono g34 (fun a b c y => by omega)) (zFo_mono g5 (fun a b c y => by omega))
  have n5 : yNm i A3 B5 P C g sn := yNm_fr n2 (fun s _ _ => (f3 10 i s (by omega)).1) (fun s _ => (f3 47 i s (by omega)).1) (fun s _ _ _ => (g25 13 0 s (by omega)).1) (fun s _ => (g25 56 0 s (by omega)).1)
  have fA3 : zFo (oneA i bi di) A A3 := zFo_trans fA1 (zFo_trans (zFo_mono f2 (fun a b c y => oneA_0 y.2.1 (Or.inr (Or.inl ⟨y.1, y.2.2.1, by omega⟩)))) (zFo_mono f3 (fun a b c y => oneA_di y.1 (by omega))))
  have gB5 : zFo (oneB p h) B B5 := zFo_trans gB1 (zFo_trans (zFo_mono g2 (fun a b c y => oneB_13 y.2.1 (by omega))) (zFo_mono g25 (fun a b c y => y.2.elim (fun z => oneB_h y.1 (by omega)) (fun z => oneB_l y.1 z))))
  have hyS := yLf_sum (yNm_A n5)
  refine ⟨A3, B5, g, sn, c, ct, tc, ?_, ?_, ⟨fA3, gB5⟩, ⟨((f3 5 0 11 (by omega)).2.2).trans r11, ((f3 5 0 12 (by omega)).2.2).trans r12, ((f3 5 0 13 (by omega)).2.2).trans r13, ((f3 5 0 14 (by omega)).2.2).trans r14⟩, ⟨((g25 13 0 59 (by omega)).1).trans s59, ((g25 13 0 60 (by omega)).1).trans s60, ((g25 13 0 62 (by omega)).1).trans s62, ((g25 13 0 63 (by omega)).1).trans s63⟩, ⟨n5, ?_⟩, ⟨?_, ?_⟩, w3, ⟨w14, w15, ?_⟩, ⟨fun v v1 v2 => ⟨w28 v v1 v2, w95 v v2⟩, ?_, hyS.2.1, hyS.2.2⟩, ⟨?_, ?_⟩, ?_, ?_, ?_, ?_, htc⟩
  · have e36 : zgo false (d + 31) 36 0 [zr 5 0, zr 2 bi, zr 10 i, zr 0 0, zr 4 di] [] A1 = some (none, A2) := by rw [B36_0, B36_21, hA2]
    rw [B34_0, e1, zbsome, zpu0, B34_4, e36, zbsome, zpu0, B34_12, e3, zbsome, zpu0, B34_17]
  · have e8 : zgI B3 13 0 8 = ct := by rw [(g3 13 0 8 (by omega)).1, ect]
    have e8b : zgI B4 13 0 8 = ct := by rw [(g4 13 0 8 (by omega)).1, e8]
    rw [m1, B271_37, ← hB2, B271_57, if_pos zh60, if_pos zh60, ch, show (0 : Int32).toInt8.toInt32 = 0 from rfl, ← hB3, e201, zbsome]
    show zgo false (d + 32) 271 80 [zr 13 0, zi (nI p), zi (nI h), zu, zu] [zi tc, zi (nI h), zr 86 0] B3 = _
    rw [B271_80, if_pos zh60, ch, ← hB4, e8b]
    exact m5
  · exact yDk_fr k1 (fun s => by rw [(f3 46 i s (by omega)).1, (f2 46 i s (by omega)).1]) (fun s => by rw [(g25 55 0 s (by omega)).1, (g2 55 0 s (by omega)).1])
  · rw [(f3 10 i 9 (by omega)).1, (f2 10 i 9 (by omega)).1]; exact z9
  · rw [(g25 13 0 5 (by omega)).1, (g2 13 0 5 (by omega)).1]; exact z5
  · rw [(g5 86 0 h (by omega)).1, hB4, zgI_sI, if_pos ⟨rfl, rfl, rfl⟩]
  · have e := w95 0 (by omega)
    rw [Nat.add_zero] at e
    rw [e, hyS.1]
  · rw [(g5 92 0 h (by omega)).1, (g4 92 0 h (by omega)).1, hB3, zgI_sI, if_neg (by omega), zgI_sI, if_pos ⟨rfl, rfl, rfl⟩]
  · rw [(g5 94 0 h (by omega)).1, (g4 94 0 h (by omega)).1, hB3, zgI_sI, if_pos ⟨rfl, rfl, rfl⟩]
  · exact fun s => by rw [(f3 2 bi s (by omega)).1, (f2 2 bi s (by omega)).1, (f1 2 bi s (by unfold yShA; omega)).1]
  · exact fun k k1 k2 => by rw [(g25 k 0 p (by omega)).1, (g2 k 0 p (by omega)).1, (g1 k 0 p (by unfold yShB; omega)).1]
  · rw [(f3 10 i 8 (by omega)).1, ← hct]
  · rw [(g25 13 0 8 (by omega)).1, ect]
