/-! ===== one hand, from its beginning to its end ===== -/
theorem ySho_fr {i P C : Nat} {A B A' B' : zM} (H : ySho i P C A B) {Q Q' : Nat → Nat → Nat → Prop} (f : zFo Q A A') (g : zFo Q' B B') (h1 : ∀ s, 2 ≤ s → s ≤ 9 → ¬ Q 10 i s) (h2 : ∀ s, ¬ Q 47 i s) (h3 : ∀ s, ¬ Q 46 i s) (k1 : ∀ s, (1 ≤ s ∧ s ≤ 8) ∨ s = 59 → ¬ Q' 13 0 s) (k2 : ∀ s, ¬ Q' 56 0 s) (k3 : ∀ s, ¬ Q' 55 0 s) : ySho i P C A' B' := by
  obtain ⟨g6, sn, n, hd⟩ := H
  refine ⟨g6, sn, yNm_fr n (fun s s1 s2 => (f _ _ _ (h1 s (by omega) (by omega))).1) (fun s _ => (f _ _ _ (h2 s)).1) (fun s s1 s2 s3 => (g _ _ _ (k1 s (by omega))).1) (fun s _ => (g _ _ _ (k2 s)).1), ?_⟩
  rw [(f 10 i 9 (h1 9 (by omega) (by omega))).1, (g 13 0 5 (k1 5 (by omega))).1, (g 13 0 59 (k1 59 (by omega))).1]
  rcases hd with hd | ⟨a, b, e, c, hc⟩
  · exact Or.inl hd
  · exact Or.inr ⟨a, b, e, c, yDk_fr hc (fun s => (f _ _ _ (h3 s)).1) (fun s => (g _ _ _ (k3 s)).1)⟩
/-- the cards of a hand led are bytes -/
def yBr (h : Nat) (B : zM) : Prop := (∃ m, m ≤ 20 ∧ zgI B 92 0 h = nI m ∧ yBs 91 h B m) ∧ (∃ m, m ≤ 20 ∧ zgI B 94 0 h = nI m ∧ yBs 93 h B m)
theorem yHe_b (x : Int32) : 0 ≤ yHe x 0 9999900 ∧ yHe x 0 9999900 ≤ 9999900 := by
  unfold yHe
  by_cases c : x < 0
  · rw [if_pos c]
    decide
  · rw [if_neg c]
    by_cases c2 : 9999900 < x
    · rw [if_pos c2]
      decide
    · rw [if_neg c2]
      exact ⟨by grind, by grind⟩
/-- what a hand leaves, of the class's side alone -/
def yOne (T2 T3 : List (List yOp × List yOp)) (bi di kd : Nat) (A A' : zM) : Prop :=
  (∃ la : Int32, zgI A' 4 di 9 = yBe T2 (zgI A 2 bi 1 / 100) kd (zgI A 2 bi 2) (zgI A' 4 di 14) (zgI A' 4 di 15) la) ∧ (zgI A' 4 di 10 = 0 ∨ ∃ y : Int, -200 ≤ y ∧ y ≤ 200 ∧ zgI A' 4 di 10 = yI y * zgI A' 4 di 9) ∧ (zgI A' 4 di 19 = 0 ∨ zgI A' 4 di 19 = 1) ∧ (zgI A' 4 di 11 = 0 → zgI A' 4 di 19 = 0) ∧
  zgI A' 4 di 12 = yPt T3 (zgI A' 4 di 9) (zgI A 2 bi 5) (zgI A' 4 di 19) (zgI A' 4 di 10 / 100) (zgI A' 4 di 14) (zgI A' 4 di 15) ∧ zgI A' 4 di 13 = yPt T3 (zgI A' 4 di 9) (zgI A 2 bi 5) 0 (zgI A' 4 di 10 / 100) (zgI A' 4 di 14) (zgI A' 4 di 15) ∧
  zgI A' 2 bi 1 = yHe (zgI A 2 bi 1 + zgI A' 4 di 10) 0 9999900 ∧ zgI A' 2 bi 3 = zgI A 2 bi 3 + zgI A' 4 di 12 ∧ zgI A' 2 bi 4 = zgI A 2 bi 4 + 1 ∧ zgI A' 2 bi 5 = zgI A' 4 di 9
theorem ONE (d i bi di p h N kd : Nat) (led : Bool) {T : Nat → List (List yOp × List yOp)} {q : Nat → Nat} {P C : Nat} {A B : zM} (hs : ySho i P C A B) (ht : yTy T q A B) (hb : yBd bi p N kd A B) (hp : p < 10) (hh : h < 60) (hN : N ≤ 1000000) : ∃ A' B', zgo false (d + 32) 34 0 [zr 5 0, zr 2 bi, zr 10 i, zr 4 di, zi (bI led), zu] [] A = some (none, A') ∧ zgo false (d + 32) 271 0 [zr 13 0, zi (nI p), zi (nI h), zu, zu] [] B = some (none, B') ∧ zFo (oneA i bi di) A A' ∧ zFo (oneB p h) B B' ∧ ySho i P C A' B' ∧ yTy T q A' B' ∧ yBd bi p (N + 1) kd A' B' ∧ zgI A' 4 di 10 = zgI B' 84 0 h ∧ (0 ≤ zgI B' 71 0 p ∧ zgI B' 71 0 p ≤ 9999900) ∧ yBr h B' ∧ (led = true → yDl di h A' B') ∧ yOne (T 2) (T 3) bi di kd A A' := by
  obtain ⟨A7, B10, dv, n, lf, x, V, ca, mo, fA, gB', H, xA, ⟨la, xbet⟩, xbr⟩ := FIN1 d i bi di p h N kd (bI led) hs ht hb hp hh hN
  have H' := H
  obtain ⟨ty, sh, ⟨r12, r13⟩, ⟨w9, w10, w15, w18, w89, w19⟩, ⟨hn, w11, w85, S, Aa, pl, hpl, w90⟩, w69, h25, ⟨wl1, wl2, wl3⟩, ⟨m, m1, m2, ⟨m3, m4⟩, m5⟩, ⟨dm, d1, d2, ⟨d3, d4⟩, d5⟩, hk7, ⟨hk1, hk2⟩, b1, b2, b3, ⟨b4, b4'⟩, b5⟩ := H
  obtain ⟨A8, c8, f8, h8⟩ := FIN2s d i bi di p h N kd P C dv n led x H'
  obtain ⟨t1, t2, t3, t4⟩ := ty.1 3 (by omega)
  have q12 : zgR A8 5 0 12 = (2, bi) := ((f8 5 0 12 (by omega)).2.2).trans r12
  have q13 : zgR A8 5 0 13 = (4, di) := ((f8 5 0 13 (by omega)).2.2).trans r13
  -- points by the class
  obtain ⟨A9, e9, f9⟩ := K50 (d + 25) di bi 0 (T 3) (A := A8) q12 q13 t1 t2 (yCl_fr t3 (f8 11 3 2 (by omega)).1 (fun s => (f8 48 3 s (by omega)).1))
  have e9 : zgo false (d + 31) 50 0 [zr 5 0, zi 0] [] A8 = _ := e9
  have k4 : ∀ s, ¬ s = 19 → zgI A8 4 di s = zgI A7 4 di s := fun s hs => (f8 4 di s (by omega)).1
  have k2 : ∀ s, zgI A8 2 bi s = zgI A7 2 bi s := fun s => (f8 2 bi s (by omega)).1
  rw [k4 9 (by omega), k4 10 (by omega), k4 14 (by omega), k4 15 (by omega), k2 5] at e9
  obtain ⟨F, hF⟩ : ∃ F : Int32 → Int32, F = fun w => yPt (T 3) (zgI A7 4 di 9) (zgI A7 2 bi 5) w (zgI A7 4 di 10 / 100) (zgI A7 4 di 14) (zgI A7 4 di 15) := ⟨_, rfl⟩
  have e9 : zgo false (d + 31) 50 0 [zr 5 0, zi 0] [] A8 = some (some (zi (F 0)), A9) := by rw [hF]; exact e9
  obtain ⟨A10, hA10⟩ : ∃ M, M = zsI A9 4 di 13 (F 0) := ⟨_, rfl⟩
  have f810 : zFo (fun a b c => gA3 a b c ∨ (a = 4 ∧ b = di ∧ c = 13)) A8 A10 := by
    rw [hA10]
    exact zFo_sI (zFo_mono f9 (fun a b c y => Or.inl y)) (Or.inr ⟨rfl, rfl, rfl⟩)
  have j4 : ∀ s, ¬ s = 13 → zgI A10 4 di s = zgI A8 4 di s := fun s hs => (f810 4 di s (by unfold gA3; omega)).1
  have j2 : ∀ s, zgI A10 2 bi s = zgI A8 2 bi s := fun s => (f810 2 bi s (by unfold gA3; omega)).1
  have y12 : zgR A10 5 0 12 = (2, bi) := ((f810 5 0 12 (by unfold gA3; omega)).2.2).trans q12
  have y13 : zgR A10 5 0 13 = (4, di) := ((f810 5 0 13 (by unfold gA3; omega)).2.2).trans q13
  have v13 : zgI A10 4 di 13 = F 0 := by rw [hA10, zgI_sI, if_pos ⟨rfl, rfl, rfl⟩]
  obtain ⟨st, hst⟩ : ∃ st, st = zgI A8 4 di 19 := ⟨_, rfl⟩
  have hst01 : st = 0 ∨ st = 1 := by
    rcases h8 with e | ⟨-, e, -⟩
    · rw [hst, e, w90]
      cases yOt lf (oO lf q dv) q S Aa pl n
      · exact Or.inl rfl
      · exact Or.inr rfl
    · exact Or.inl (hst.trans e)
  have k207 : ∃ A11, zgo false (d + 32) 34 178 [zr 5 0, zr 2 bi, zr 10 i, zr 4 di, zi (bI led), zi x] [] A8 = zgo false (d + 32) 34 207 [zr 5 0, zr 2 bi, zr 10 i, zr 4 di, zi (bI led), zi x] [zi (F st), zr 4 di] A11 ∧ zFo gA3 A10 A11 := by
    have k184 : zgo false (d + 32) 34 178 [zr 5 0, zr 2 bi, zr 10 i, zr 4 di, zi (bI led), zi x] [] A8 = if zgI A10 4 di 19 = 0 then zgo false (d + 32) 34 207 [zr 5 0, zr 2 bi, zr 10 i, zr 4 di, zi (bI led), zi x] [zi (zgI A10 4 di 13), zr 4 di] A10 else ((zgo false (d + 31) 50 0 [zr 5 0, zi 1] [] A10).bind fun q => zgo false (d + 32) 34 200 [zr 5 0, zr 2 bi, zr 10 i, zr 4 di, zi (bI led), zi x] (zpush q.1 [zr 4 di]) q.2) := by
      rw [B34_178, e9, zbsome]
      show zgo false (d + 32) 34 184 [zr 5 0, zr 2 bi, zr 10 i, zr 4 di, zi (bI led), zi x] [zi (F 0), zr 4 di] A9 = _
      rw [B34_184, ← hA10]
    rw [k184, j4 19 (by omega), ← hst, v13]
    rcases hst01 with e | e
    · refine ⟨A10, ?_, zFo_refl _ A10⟩
      rw [e, if_pos rfl]
    · obtain ⟨A11, e11, f11⟩ := K50 (d + 25) di bi 1 (T 3) (A := A10) y12 y13 t1 t2 (yCl_fr t3 (by rw [(f810 11 3 2 (by unfold gA3; omega)).1, (f8 11 3 2 (by omega)).1]) (fun s => by rw [(f810 48 3 s (by unfold gA3; omega)).1, (f8 48 3 s (by omega)).1]))
      have e11 : zgo false (d + 31) 50 0 [zr 5 0, zi 1] [] A10 = _ := e11
      rw [j4 9 (by omega), j4 10 (by omega), j4 14 (by omega), j4 15 (by omega), j2 5, k4 9 (by omega), k4 10 (by omega), k4 14 (by omega), k4 15 (by omega), k2 5] at e11
      have e11 : zgo false (d + 31) 50 0 [zr 5 0, zi 1] [] A10 = some (some (zi (F 1)), A11) := by rw [hF]; exact e11
      refine ⟨A11, ?_, f11⟩
      rw [e, if_neg (by decide), e11, zbsome]
      show zgo false (d + 32) 34 200 [zr 5 0, zr 2 bi, zr 10 i, zr 4 di, zi (bI led), zi x] [zi (F 1), zr 4 di] A11 = _
      rw [B34_200]
  obtain ⟨A11, k207, f11⟩ := k207
  obtain ⟨A12, hA12⟩ : ∃ M, M = zsI A11 4 di 12 (F st) := ⟨_, rfl⟩
  have f1012 : zFo (fun a b c => gA3 a b c ∨ (a = 4 ∧ b = di ∧ c = 12)) A10 A12 := by
    rw [hA12]
    exact zFo_sI (zFo_mono f11 (fun a b c y => Or.inl y)) (Or.inr ⟨rfl, rfl, rfl⟩)
  obtain ⟨A13, e13, f13, u1, u3, u4, u5⟩ := K51 (d + 30) bi di (A := A12) (((f1012 5 0 12 (by unfold gA3; omega)).2.2).trans y12) (((f1012 5 0 13 (by unfold gA3; omega)).2.2).trans y13)
  have e13 : zgo false (d + 31) 51 0 [zr 5 0] [] A12 = some (none, A13) := e13
  have l4 : ∀ s, ¬ s = 12 → ¬ s = 13 → zgI A12 4 di s = zgI A8 4 di s := fun s h1 h2 => by rw [(f1012 4 di s (by unfold gA3; omega)).1, j4 s h2]
  have l2 : ∀ s, zgI A12 2 bi s = zgI A7 2 bi s := fun s => by rw [(f1012 2 bi s (by unfold gA3; omega)).1, j2 s, k2 s]
  have v12 : zgI A12 4 di 12 = F st := by rw [hA12, zgI_sI, if_pos ⟨rfl, rfl, rfl⟩]
  -- the model
  obtain ⟨B', em, gm, v71, v87, v88, v73, v75⟩ := FM2 d p h (zgI A7 4 di 14) V hp hh t1 t4
  rw [← w9, ← b5, ← w10, ← w15] at v87 v88
  rw [w69] at v87
  have v87 : zgI B' 87 0 h = F (zgI B10 90 0 h) := by rw [hF]; exact v87
  have v88 : zgI B' 88 0 h = F 0 := by rw [hF]; exact v88
  have eF : F st = F (zgI B10 90 0 h) := by
    rcases h8 with e | ⟨-, e, hi⟩
    · rw [hst, e]
    · rw [hF]
      exact hi _ _ _ _ _ _ _
  have f713 : zFo (fun a b c => gA3 a b c ∨ (a = 4 ∧ b = di ∧ (c = 12 ∨ c = 13 ∨ c = 19)) ∨ (b = 0 ∧ (a = 7 ∨ (33 ≤ a ∧ a ≤ 42 ∧ ¬ a = 35))) ∨ (a = 2 ∧ b = bi ∧ (c = 1 ∨ (3 ≤ c ∧ c ≤ 5)))) A7 A13 := by
    refine zFo_trans (zFo_mono f8 (fun a b c y => ?_)) (zFo_trans (zFo_mono f810 (fun a b c y => ?_)) (zFo_trans (zFo_mono f1012 (fun a b c y => ?_)) (zFo_mono f13 (fun a b c y => Or.inr (Or.inr (Or.inr y))))))
    · exact y.elim (fun z => Or.inr (Or.inr (Or.inl z))) (fun z => Or.inr (Or.inl ⟨z.1, z.2.1, Or.inr (Or.inr z.2.2)⟩))
    · exact y.elim Or.inl (fun z => Or.inr (Or.inl ⟨z.1, z.2.1, Or.inr (Or.inl z.2.2)⟩))
    · exact y.elim Or.inl (fun z => Or.inr (Or.inl ⟨z.1, z.2.1, Or.inl z.2.2⟩))
  have fA13 : zFo (oneA i bi di) A A13 := zFo_trans fA (zFo_mono f713 (fun a b c y => y.elim (fun z => z.elim (fun t => oneA_0 t.2 (Or.inl t.1)) (fun t => oneA_tx t)) (fun z => z.elim (fun t => oneA_di t.2.1 (Or.inl t.1)) (fun t => t.elim (fun t => oneA_0 t.1 (Or.inr (Or.inr t.2))) (fun t => oneA_bd t)))))
  have gBm : zFo (oneB p h) B B' := zFo_trans gB' (zFo_mono gm (fun a b c y => by
    obtain ⟨e, h1 | h1 | h1 | h1⟩ := y
    · exact oneB_t e (Or.inl h1)
    · exact oneB_t e (Or.inr h1)
    · exact oneB_h e (by omega)
    · exact oneB_p e (by omega)))
  have n4 : ∀ s, ¬ (s = 12 ∨ s = 13 ∨ s = 19) → zgI A13 4 di s = zgI A7 4 di s := fun s hs => (f713 4 di s (by unfold gA3; omega)).1
  have n2 : zgI A13 2 bi 0 = zgI A7 2 bi 0 ∧ zgI A13 2 bi 2 = zgI A7 2 bi 2 := ⟨(f713 2 bi 0 (by unfold gA3; omega)).1, (f713 2 bi 2 (by unfold gA3; omega)).1⟩
  have nB : ∀ k s, ¬ (k = 68 ∨ k = 69 ∨ k = 87 ∨ k = 88 ∨ k = 71 ∨ k = 73 ∨ k = 75) → zgI B' k 0 s = zgI B10 k 0 s := fun k s hs => (gm k 0 s (by omega)).1
  have e19 : zgI A13 4 di 19 = st := by rw [(f13 4 di 19 (by omega)).1, l4 19 (by omega) (by omega), hst]
  refine ⟨A13, B', ?_, ?_, fA13, gBm, ?_, yTy_fr ht fA13 gBm, ⟨hk7, ⟨?_, ?_⟩, ?_, ?_, ?_, ⟨?_, ?_⟩, ?_⟩, ?_, by rw [v71]; exact yHe_b _, ⟨⟨m, m3, (nB 92 h (by omega)).trans m2, fun t tm => by rw [nB 91 _ (by omega)]; exact m5 t tm⟩, ⟨dm, d3, (nB 94 h (by omega)).trans d2, fun t tm => by rw [nB 93 _ (by omega)]; exact d5 t tm⟩⟩, fun hled => ⟨⟨?_, ?_, ?_, ?_, ?_, ?_, ?_, ?_⟩, ?_, ?_, ⟨m, ?_, ?_, m3, fun t tm => ?_⟩, ⟨dm, ?_, ?_, d3, fun t tm => ?_⟩, lf, fun v v1 v2 => ⟨?_, ?_⟩, ?_, wl3⟩, ⟨⟨la, ?_⟩, ?_, ?_, fun hz => ?_, ?_, ?_, ?_, ?_, ?_, ?_⟩⟩
  · rw [ca, c8, k207, B34_207, ← hA12, e13, zbsome, zpu0, B34_214]
  · rw [mo, em]
  · exact ySho_fr sh f713 gm (fun s _ _ => by unfold gA3; omega) (fun s => by unfold gA3; omega) (fun s => by unfold gA3; omega) (fun s _ => by omega) (fun s => by omega) (fun s => by omega)
  · rw [n2.1]; exact hk1
  · rw [nB 70 p (by omega)]; exact hk2
  · rw [u1, l2, l4 10 (by omega) (by omega), k4 10 (by omega), v71, b1, w10]
  · rw [n2.2, nB 72 p (by omega)]; exact b2
  · rw [u3, l2, v12, v73, v87, b3, eF]
  · rw [u4, l2, b4, nI_1]
  · rw [nB 74 p (by omega)]; exact b4'
  · rw [u5, l4 9 (by omega) (by omega), k4 9 (by omega), v75, w9]
  · rw [n4 10 (by omega), nB 84 h (by omega)]; exact w10
  · rw [n4 9 (by omega), nB 83 h (by omega)]; exact w9
  · rw [n4 10 (by omega), nB 84 h (by omega)]; exact w10
  · rw [n4 11 (by omega), nB 85 h (by omega), w11, w85]
  · rw [n4 15 (by omega), nB 86 h (by omega)]; exact w15
  · rw [(f13 4 di 12 (by omega)).1, v12, v87, eF]
  · rw [(f13 4 di 13 (by omega)).1, (f1012 4 di 13 (by unfold gA3; omega)).1, v13, v88]
  · rw [n4 18 (by omega), nB 89 h (by omega)]; exact w18
  · rw [(f13 4 di 19 (by omega)).1, l4 19 (by omega) (by omega), nB 90 h (by omega)]
    rcases h8 with e | ⟨e, -⟩
    · exact e
    · rw [hled] at e
      cases e
  · rw [nB 89 h (by omega)]; exact w89
  · rw [nB 90 h (by omega), w90]
    cases yOt lf (oO lf q dv) q S Aa pl n
    · exact Or.inl rfl
    · exact Or.inr rfl
  · rw [n4 5 (by omega)]; exact m1
  · rw [nB 92 h (by omega)]; exact m2
  · rw [(f713 24 di t (by unfold gA3; omega)).1, nB 91 _ (by omega)]; exact m4 t tm
  · rw [n4 6 (by omega)]; exact d1
  · rw [nB 94 h (by omega)]; exact d2
  · rw [(f713 25 di t (by unfold gA3; omega)).1, nB 93 _ (by omega)]; exact d4 t tm
  · rw [(f713 28 di v (by unfold gA3; omega)).1]; exact (wl1 v v1 v2).1
  · rw [nB 95 _ (by omega)]; exact (wl1 v v1 v2).2
  · rw [nB 95 _ (by omega)]; exact wl2
  · rw [n4 9 (by omega), n4 14 (by omega), n4 15 (by omega)]; exact xbet
  · rw [n4 10 (by omega), n4 9 (by omega)]; exact xbr
  · rw [e19]; exact hst01
  · rw [n4 11 (by omega), w11] at hz
    have n0 : n = 0 := (nI_eq (a := n) (b := 0) (by omega) (by omega)).mp hz
    rw [e19]
    rcases h8 with e | ⟨-, e, -⟩
    · rw [hst, e, w90, n0]; rfl
    · exact hst.trans e
  · rw [(f13 4 di 12 (by omega)).1, v12, e19, n4 9 (by omega), n4 10 (by omega), n4 14 (by omega), n4 15 (by omega), ← xA 5, hF]
  · rw [(f13 4 di 13 (by omega)).1, (f1012 4 di 13 (by unfold gA3; omega)).1, v13, n4 9 (by omega), n4 10 (by omega), n4 14 (by omega), n4 15 (by omega), ← xA 5, hF]
  · rw [u1, l2, l4 10 (by omega) (by omega), k4 10 (by omega), n4 10 (by omega), xA 1]
  · rw [u3, l2, xA 3, (f13 4 di 12 (by omega)).1]
  · rw [u4, l2, xA 4]
  · rw [u5, (f13 4 di 9 (by omega)).1]
