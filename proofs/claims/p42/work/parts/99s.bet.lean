/-! ===== the bet made, and the cards to come ===== -/
/-- all that stands as the cards begin to come -/
def yBeg (i bi di p h N kd P C g : Nat) (T : Nat → List (List yOp × List yOp)) (q sn c : Nat → Nat) (A B : zM) : Prop :=
  yCx 0 i bi di p h T q kd A B ∧ yTy T q A B ∧ (yNm i A B P C g sn ∧ yDk i A B P g sn c 0) ∧ (zgI A 10 i 9 = 0 ∧ zgI B 13 0 5 = 1 ∧ zgI B 13 0 59 = 0) ∧ zgI B 13 0 70 = bI (yTn kd N) ∧
  (∀ s, (5 ≤ s ∧ s ≤ 8) ∨ (10 ≤ s ∧ s ≤ 13) ∨ (17 ≤ s ∧ s ≤ 19) → zgI A 4 di s = 0) ∧ zgI A 4 di 9 = zgI B 83 0 h ∧ zgI A 4 di 15 = zgI B 86 0 h ∧ yLft di h A B (yLf P sn) ∧ (zgI B 92 0 h = 0 ∧ zgI B 94 0 h = 0) ∧
  (kd ≤ 7 ∧ (zgI A 2 bi 0 = nI kd ∧ zgI B 70 0 p = nI kd) ∧ zgI A 2 bi 1 = zgI B 71 0 p ∧ zgI A 2 bi 2 = zgI B 72 0 p ∧ zgI A 2 bi 3 = zgI B 73 0 p ∧ (zgI A 2 bi 4 = nI N ∧ zgI B 74 0 p = nI (N + 1)) ∧ zgI A 2 bi 5 = zgI B 75 0 p)
theorem PRE1 (d i bi di p h N kd : Nat) (led : Int32) {T : Nat → List (List yOp × List yOp)} {q : Nat → Nat} {P C : Nat} {A B : zM} (hs : ySho i P C A B) (ht : yTy T q A B) (hb : yBd bi p N kd A B) (hp : p < 10) (hh : h < 60) (hN : N ≤ 1000000) : ∃ (A5 B8 : zM) (g : Nat) (sn c : Nat → Nat), zgo false (d + 32) 34 0 [zr 5 0, zr 2 bi, zr 10 i, zr 4 di, zi led, zu] [] A = ((zgo false (d + 31) 41 0 [zr 5 0] [] A5).bind fun q => zgo false (d + 32) 34 29 [zr 5 0, zr 2 bi, zr 10 i, zr 4 di, zi led, zu] (zpush q.1 []) q.2) ∧ zgo false (d + 32) 271 0 [zr 13 0, zi (nI p), zi (nI h), zu, zu] [] B = ((zgo false (d + 31) 268 0 [zr 13 0, zu, zu, zu, zu, zu, zu, zu, zu, zu] [] B8).bind fun q => zgo false (d + 32) 271 176 [zr 13 0, zi (nI p), zi (nI h), zi (zgI A5 4 di 14), zi (nI 11)] (zpush q.1 []) q.2) ∧ zFo (oneA i bi di) A A5 ∧ zFo (oneB p h) B B8 ∧ yBeg i bi di p h N kd P C g T q sn c A5 B8 ∧ (∀ s, zgI A5 2 bi s = zgI A 2 bi s) ∧ ∃ la : Int32, zgI A5 4 di 9 = yBe (T 2) (zgI A 2 bi 1 / 100) kd (zgI A 2 bi 2) (zgI A5 4 di 14) (zgI A5 4 di 15) la := by
  have zp10 : zin (nI p) 10 = true := zin_nI (by omega) (by omega)
  have cp : (nI p).toNatClampNeg = p := nI_clamp (by omega)
  have zh60 : zin (nI h) 60 = true := zin_nI (by omega) (by omega)
  have ch : (nI h).toNatClampNeg = h := nI_clamp (by omega)
  obtain ⟨hk7, ⟨hk1, hk2⟩, b1, b2, b3, ⟨b4, b4'⟩, b5⟩ := hb
  obtain ⟨A3, B5, g, sn, c, ct, tc, ka, kb, ⟨fA3, gB5⟩, ⟨q11, q12, q13, q14⟩, ⟨s59, s60, s62, s63⟩, ⟨n5, k5⟩, ⟨z9, z5⟩, w3, ⟨w14, w15, w86⟩, wL, ⟨w92, w94⟩, bA, bB, c3, c5, htc⟩ := PRE0 d i bi di p h led hs hp hh
  have t5 := yTy_fr ht fA3 gB5
  obtain ⟨t1, t2, t3, t4⟩ := t5.1 2 (by omega)
  obtain ⟨A4, e4, f4⟩ := K46 (d + 24) i bi kd zu zu (T 2) n5 q11 q12 ((bA 0).trans hk1) hk7 t1 t2 t3
  have e4 : zgo false (d + 31) 46 0 [zr 5 0, zu, zu] [] A3 = _ := e4
  obtain ⟨B6, m6, g6⟩ := K269 (d + 25) i p kd zu (T 2) n5 hp ((bB 70 (by omega) (by omega)).trans hk2) hk7 t1 t4
  have m6 : zgo false (d + 31) 269 0 [zr 13 0, zi (nI p), zu] [] B5 = _ := m6
  rw [c3, ← htc, bA 1, bA 2] at e4
  rw [c5, ← htc, bB 71 (by omega) (by omega), bB 72 (by omega) (by omega), ← b1, ← b2] at m6
  obtain ⟨bet, hbet⟩ : ∃ bet, bet = yBe (T 2) (zgI A 2 bi 1 / 100) kd (zgI A 2 bi 2) ct tc (nI (yLf P sn 1)) := ⟨_, rfl⟩
  rw [← hbet] at e4 m6
  obtain ⟨A5, hA5⟩ : ∃ A5, A5 = zsI A4 4 di 9 bet := ⟨_, rfl⟩
  have f5 : zFo (fun a b c => a = 4 ∧ b = di ∧ c = 9) A4 A5 := by
    rw [hA5]
    exact zFo_sI (zFo_refl _ A4) ⟨rfl, rfl, rfl⟩
  have f35 : zFo (fun a b c => gA3 a b c ∨ (a = 4 ∧ b = di ∧ c = 9)) A3 A5 := zFo_trans (zFo_mono f4 (fun a b c y => Or.inl y)) (zFo_mono f5 (fun a b c y => Or.inr y))
  obtain ⟨B7, hB7⟩ : ∃ B7, B7 = zsI (zsI B6 83 0 h bet) 74 0 p (nI (N + 1)) := ⟨_, rfl⟩
  have g7 : zFo (fun a b c => b = 0 ∧ ((a = 83 ∧ c = h) ∨ (a = 74 ∧ c = p))) B6 B7 := by
    rw [hB7]
    exact zFo_sI (zFo_sI (zFo_refl _ B6) (by omega)) (by omega)
  obtain ⟨B8, hB8⟩ : ∃ B8, B8 = zsI B7 13 0 70 (bI (yTn kd N)) := ⟨_, rfl⟩
  have g8 : zFo (fun a b c => a = 13 ∧ b = 0 ∧ c = 70) B7 B8 := by
    rw [hB8]
    exact zFo_sI (zFo_refl _ B7) ⟨rfl, rfl, rfl⟩
  have g58 : zFo (fun a b c => gB3 a b c ∨ (b = 0 ∧ ((a = 83 ∧ c = h) ∨ (a = 74 ∧ c = p) ∨ (a = 13 ∧ c = 70)))) B5 B8 := zFo_trans (zFo_mono g6 (fun a b c y => Or.inl y)) (zFo_trans (zFo_mono g7 (fun a b c y => Or.inr (by omega))) (zFo_mono g8 (fun a b c y => Or.inr (by omega))))
  have fA5 : zFo (oneA i bi di) A A5 := zFo_trans fA3 (zFo_mono f35 (fun a b c y => y.elim (fun z => z.elim (fun t => oneA_0 t.2 (Or.inl t.1)) (fun t => oneA_tx t)) (fun z => oneA_di z.2.1 (Or.inl z.1))))
  have gB8 : zFo (oneB p h) B B8 := zFo_trans gB5 (zFo_mono g58 (fun a b c y => y.elim (fun z => oneB_t z.1 z.2) (fun z => z.2.elim (fun t => oneB_h z.1 (by omega)) (fun t => t.elim (fun t => oneB_p z.1 (by omega)) (fun t => oneB_13 z.1 (by omega))))))
  have w5 : ∀ s, ¬ s = 9 → zgI A5 4 di s = zgI A3 4 di s := fun s hs => (f35 4 di s (by unfold gA3; omega)).1
  have a14 : zgI A5 4 di 14 = ct := (w5 14 (by omega)).trans w14
  have v2 : ∀ k s, ¬ (k = 68 ∨ k = 69 ∨ k = 74 ∨ k = 83 ∨ (k = 13 ∧ s = 70)) → zgI B8 k 0 s = zgI B5 k 0 s := fun k s hk => (g58 k 0 s (by unfold gB3; omega)).1
  have t8 := yTy_fr ht fA5 gB8
  obtain ⟨wl1, wl2, wl3⟩ := wL
  refine ⟨A5, B8, g, sn, c, ?_, ?_, fA5, gB8, ⟨⟨⟨((f35 5 0 11 (by unfold gA3; omega)).2.2).trans q11, ((f35 5 0 12 (by unfold gA3; omega)).2.2).trans q12, ((f35 5 0 13 (by unfold gA3; omega)).2.2).trans q13, ?_⟩, ⟨?_, (v2 13 62 (by omega)).trans s62, fun _ => (v2 13 63 (by omega)).trans s63⟩, ⟨by omega, hp, hh⟩, t8.1, t8.2.1, t8.2.2.1, ?_, ?_, hk7⟩, t8, ⟨?_, ?_⟩, ⟨?_, (v2 13 5 (by omega)).trans z5, (v2 13 59 (by omega)).trans s59⟩, ?_, fun s hs => (w5 s (by omega)).trans (w3 s hs), ?_, ?_, ⟨fun v v1 v2' => ⟨?_, ?_⟩, ?_, wl3⟩, ⟨(v2 92 h (by omega)).trans w92, (v2 94 h (by omega)).trans w94⟩, hk7, ⟨?_, ?_⟩, ?_, ?_, ?_, ⟨?_, ?_⟩, ?_⟩, fun s => ?_, ⟨nI (yLf P sn 1), ?_⟩⟩
  · rw [ka, e4, zbsome]
    show zgo false (d + 32) 34 22 [zr 5 0, zr 2 bi, zr 10 i, zr 4 di, zi led, zu] [zi bet, zr 4 di] A4 = _
    rw [B34_22, hA5]
  · have n3' : ¬ (3 : Int32) = 0 := by decide
    have e70 : zgI B7 70 0 p = nI kd := by rw [(g7 70 0 p (by omega)).1, (g6 70 0 p (by unfold gB3; omega)).1, bB 70 (by omega) (by omega), hk2]
    have e74 : zgI (zsI B6 83 0 h bet) 74 0 p = nI N := by rw [zgI_sI, if_neg (by omega), (g6 74 0 p (by unfold gB3; omega)).1, bB 74 (by omega) (by omega), b4']
    have e74b : zgI B7 74 0 p = nI (N + 1) := by rw [hB7, zgI_sI, if_pos ⟨rfl, rfl, rfl⟩]
    have em : nI (N + 1) - nI (N + 1) / 3 * 3 = nI ((N + 1) % 3) := nI_mod (m := 3) (by omega) (by omega) (by omega)
    have l0 : nI ((N + 1) % 3) = 0 ↔ (N + 1) % 3 = 0 := nI_eq (b := 0) (by omega) (by omega)
    have l7 : nI kd = 7 ↔ kd = 7 := nI_eq (b := 7) (by omega) (by omega)
    have k169 : ∀ x, x = bI (yTn kd N) → zgo false (d + 32) 271 169 [zr 13 0, zi (nI p), zi (nI h), zi ct, zi (nI 11)] [zi x, zr 13 0] B7 = ((zgo false (d + 31) 268 0 [zr 13 0, zu, zu, zu, zu, zu, zu, zu, zu, zu] [] B8).bind fun q => zgo false (d + 32) 271 176 [zr 13 0, zi (nI p), zi (nI h), zi (zgI A5 4 di 14), zi (nI 11)] (zpush q.1 []) q.2) := by
      intro x hx
      have zb : zib x = true := by
        rw [hx]
        cases yTn kd N <;> rfl
      rw [B271_169, zb, cond_true, hx, ← hB8, a14]
    rw [kb, B271_89, if_pos (by decide), m6, zbsome]
    show zgo false (d + 32) 271 130 [zr 13 0, zi (nI p), zi (nI h), zi ct, zi (nI 11)] [zi bet, zi (nI h), zr 83 0] B6 = _
    rw [B271_130, if_pos zh60, if_pos zp10, if_pos zp10, if_pos zp10, if_pos zp10, ch, cp, e74, nI_1, ← hB7, e70, e74b, em, if_neg n3']
    by_cases c7 : kd = 7
    · rw [if_pos (l7.mpr c7)]
      by_cases c2 : N % 3 = 2
      · rw [if_pos (l0.mpr (by omega))]
        refine k169 1 ?_
        unfold yTn
        rw [decide_eq_true (show kd = 7 ∧ N % 3 = 2 from ⟨c7, c2⟩)]
        rfl
      · rw [if_neg (mt l0.mp (by omega)), B271_168]
        refine k169 0 ?_
        unfold yTn
        rw [decide_eq_false (show ¬ (kd = 7 ∧ N % 3 = 2) from fun w => c2 w.2)]
        rfl
    · rw [if_neg (mt l7.mp c7), B271_168]
      refine k169 0 ?_
      unfold yTn
      rw [decide_eq_false (show ¬ (kd = 7 ∧ N % 3 = 2) from fun w => c7 w.1)]
      rfl
  · rw [if_pos rfl]
    exact ((f35 5 0 14 (by unfold gA3; omega)).2.2).trans q14
  · rw [if_pos rfl]
    exact (v2 13 60 (by omega)).trans s60
  · rw [(f35 2 bi 0 (by unfold gA3; omega)).1, bA 0]; exact hk1
  · rw [v2 70 p (by omega), bB 70 (by omega) (by omega)]; exact hk2
  · exact yNm_fr n5 (fun s _ _ => (f35 10 i s (by unfold gA3; omega)).1) (fun s _ => (f35 47 i s (by unfold gA3; omega)).1) (fun s _ _ _ => v2 13 s (by omega)) (fun s _ => v2 56 s (by omega))
  · exact yDk_fr k5 (fun s => (f35 46 i s (by unfold gA3; omega)).1) (fun s => v2 55 s (by omega))
  · rw [(f35 10 i 9 (by unfold gA3; omega)).1]; exact z9
  · rw [hB8, zgI_sI, if_pos ⟨rfl, rfl, rfl⟩]
  · rw [hA5, zgI_sI, if_pos ⟨rfl, rfl, rfl⟩, (g8 83 0 h (by omega)).1, hB7, zgI_sI, if_neg (by omega), zgI_sI, if_pos ⟨rfl, rfl, rfl⟩]
  · rw [w5 15 (by omega), w15, v2 86 h (by omega), w86]
  · rw [(f35 28 di v (by unfold gA3; omega)).1]; exact (wl1 v v1 v2').1
  · rw [v2 95 _ (by omega)]; exact (wl1 v v1 v2').2
  · rw [v2 95 _ (by omega)]; exact wl2
  · rw [(f35 2 bi 0 (by unfold gA3; omega)).1, bA 0]; exact hk1
  · rw [v2 70 p (by omega), bB 70 (by omega) (by omega)]; exact hk2
  · rw [(f35 2 bi 1 (by unfold gA3; omega)).1, bA 1, v2 71 p (by omega), bB 71 (by omega) (by omega)]; exact b1
  · rw [(f35 2 bi 2 (by unfold gA3; omega)).1, bA 2, v2 72 p (by omega), bB 72 (by omega) (by omega)]; exact b2
  · rw [(f35 2 bi 3 (by unfold gA3; omega)).1, bA 3, v2 73 p (by omega), bB 73 (by omega) (by omega)]; exact b3
  · rw [(f35 2 bi 4 (by unfold gA3; omega)).1, bA 4]; exact b4
  · rw [(g8 74 0 p (by omega)).1, hB7, zgI_sI, if_pos ⟨rfl, rfl, rfl⟩]
  · rw [(f35 2 bi 5 (by unfold gA3; omega)).1, bA 5, v2 75 p (by omega), bB 75 (by omega) (by omega)]; exact b5
  · rw [(f35 2 bi s (by unfold gA3; omega)).1]; exact bA s
  · rw [a14, w5 15 (by omega), w15, hA5, zgI_sI, if_pos ⟨rfl, rfl, rfl⟩, hbet]
