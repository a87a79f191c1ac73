/-! ===== the player's plays ===== -/
def hPl (r di dv : Nat) (lf q : Nat → Nat) (n : Nat) (S : Nat → Nat) (Aa : Nat → Bool) (pl : Nat → Nat) (A B : zM) : Prop := zgI A 4 di 11 = nI n ∧ (∀ j, j < n → zgI A 26 di j = nI (oHd (S j) (Aa j)) ∧ zgI A 27 di j = nI (pl j) ∧ (1 ≤ S j ∧ S j ≤ 21) ∧ pl j ≤ 2) ∧ zgI B 13 0 68 = nI n ∧ (r = 0 → zgI B 13 0 69 = bI (yOt lf (oO lf q dv) q S Aa pl n))
def hLf (r h : Nat) (lf : Nat → Nat) (B : zM) : Prop := r = 0 → (∀ v, v ≤ 10 → zgI B 95 0 (11 * h + v) = nI (if v = 0 then ysm lf else lf v)) ∧ 0 < ysm lf ∧ ysm lf ≤ 416
theorem hPl_fr {r di dv : Nat} {lf q : Nat → Nat} {n : Nat} {S : Nat → Nat} {Aa : Nat → Bool} {pl : Nat → Nat} {A B A' B' : zM} (H : hPl r di dv lf q n S Aa pl A B) {Q Q' : Nat → Nat → Nat → Prop} (f : zFo Q A A') (g : zFo Q' B B') (h1 : ¬ Q 4 di 11) (h2 : ∀ k s, k = 26 ∨ k = 27 → ¬ Q k di s) (h3 : ¬ Q' 13 0 68) (h4 : ¬ Q' 13 0 69) : hPl r di dv lf q n S Aa pl A' B' := by
  obtain ⟨e1, e2, e3, e4⟩ := H
  refine ⟨((f _ _ _ h1).1).trans e1, fun j hj => ?_, ((g _ _ _ h3).1).trans e3, fun z => ((g _ _ _ h4).1).trans (e4 z)⟩
  obtain ⟨p1, p2, p3⟩ := e2 j hj
  exact ⟨((f _ _ _ (h2 _ _ (Or.inl rfl))).1).trans p1, ((f _ _ _ (h2 _ _ (Or.inr rfl))).1).trans p2, p3⟩
theorem hLf_fr {r h : Nat} {lf : Nat → Nat} {B B' : zM} (H : hLf r h lf B) {Q' : Nat → Nat → Nat → Prop} (g : zFo Q' B B') (h1 : ∀ s, ¬ Q' 95 0 s) : hLf r h lf B' := fun z => ⟨fun v hv => ((g _ _ _ (h1 _)).1).trans ((H z).1 v hv), (H z).2⟩
theorem yBq0 (n : Nat) : Nat.beq (n + 2) 2 = Nat.beq n 0 := rfl
theorem L42 (d r i bi di p h : Nat) {T : Nat → List (List yOp × List yOp)} {q lf : Nat → Nat} {kd P C dv ds dm : Nat} {z : Int32} {c : Nat → Nat} {hid : Nat} {da : Bool} (tn : Bool) (hv x3 x4 : Int32) (hd : 1 ≤ dv ∧ dv ≤ 10) : ∀ (f n s : Nat) (a : Bool) (A B : zM) (S : Nat → Nat) (Aa : Nat → Bool) (pl : Nat → Nat) (u3 u6 u7 u8 u9 : zV), 21 ≤ s + f → yCx r i bi di p h T q kd A B → zSo r i P C z c hid A B → hOw r di h s a (n + 2) A B → hI s a (n + 2) → n ≤ 18 → 1 ≤ s → s ≤ 30 → hLf r h lf B → zgI A 25 di 0 = nI dv → hPl r di dv lf q n S Aa pl A B → zgI B 13 0 64 = 0 → zgI B 13 0 70 = bI tn → zgI A 4 di 17 = 0 → hDl r di h ds da dm A B →
  ∃ (A' B' : zM) (n' s' m' : Nat) (a' : Bool) (S' : Nat → Nat) (Aa' : Nat → Bool) (pl' : Nat → Nat), zFo (gA r i di) A A' ∧ zFo (gB r h) B B' ∧ hOw r di h s' a' m' A' B' ∧ (1 ≤ s' ∧ s' ≤ 30) ∧ (n + 2 ≤ m' ∧ m' ≤ 20 ∧ (m' = n + 2 → s' = s ∧ a' = a)) ∧ hPl r di dv lf q n' S' Aa' pl' A' B' ∧ n' ≤ 20 ∧ (∀ t, zgI A' 25 di t = zgI A 25 di t) ∧ hDl r di h ds da dm A' B' ∧
  ((zgo false (d + 30) 42 24 [zr 5 0, zi (bI tn), zi (nI n), u3] [] A = some (some (zi 0), A') ∧ zgo false (d + 30) 268 194 [zr 13 0, zi (nI dv), zi hv, zi x3, zi x4, zi 1, u6, u7, u8, u9] [] B = some (some (zi 0), B') ∧ zgI B' 13 0 64 = 1 ∧ (r = 0 → zSo r i P C z c hid A' B')) ∨
  (∃ (dbl : Bool) (w6 : zV), zgo false (d + 30) 42 24 [zr 5 0, zi (bI tn), zi (nI n), u3] [] A = some (some (zi 1), A') ∧ zgo false (d + 30) 268 194 [zr 13 0, zi (nI dv), zi hv, zi x3, zi x4, zi 1, u6, u7, u8, u9] [] B = zgo false (d + 30) 268 272 [zr 13 0, zi (nI dv), zi hv, zi x3, zi x4, zi (if dbl = true then 2 else 1), w6, u7, u8, u9] [] B' ∧ zgI A' 4 di 17 = bI dbl ∧ zSo r i P C z c hid A' B' ∧ zgI B' 13 0 64 = 0)) := by
  intro f
  induction f with
  | zero =>
    intro n s a A B S Aa pl u3 u6 u7 u8 u9 hf hx hs ho hi hn hs1 hs30 hl h25 hp h64 h70 h17 hdl
    have ht : 21 ≤ oTt s a := by
      unfold oTt
      by_cases y : a = true ∧ s ≤ 11
      · rw [if_pos y]; omega
      · rw [if_neg y]; omega
    have r13 := hx.1.2.2.1
    have z4 : Nat.beq (zgR A 5 0 13).1 4 = true := by rw [r13]; rfl
    have e7 : zgI A 4 (zgR A 5 0 13).2 7 = nI (oHd s a) := by rw [r13]; exact ho.1.1
    have ht2 : oTt s a ≤ 40 := by
      unfold oTt
      by_cases y : a = true ∧ s ≤ 11
      · rw [if_pos y]; omega
      · rw [if_neg y]; omega
    have l21 : 21 ≤ nI (oTt s a) := nI_le (a := 21) ht (by omega)
    refine ⟨A, B, n, s, n + 2, a, S, Aa, pl, zFo_refl _ A, zFo_refl _ B, ho, ⟨hs1, hs30⟩, ⟨Nat.le_refl _, by omega, fun _ => ⟨rfl, rfl⟩⟩, hp, by omega, fun _ => rfl, hdl, Or.inr ⟨false, u6, ?_, ?_, h17, hs, h64⟩⟩
    · rw [B42_24, if_neg (show ¬ 40 ≤ nI n from nI_ge (b := 40) (by omega) (by omega)), z4, cond_true, e7, S173y _ _ _ _ _ (by omega), zbsome, zpu1, B42_40, if_pos l21, B42_120]
    · rw [B268_194, ho.2.1.1, ho.2.1.2.1, S240 _ _ _ _ (by omega), zbsome, zpu1, B268_205, if_pos l21]
      rfl
  | succ f ih =>
    intro n s a A B S Aa pl u3 u6 u7 u8 u9 hf hx hs ho hi hn hs1 hs30 hl h25 hp h64 h70 h17 hdl
    have ht2 : oTt s a ≤ 40 := by
      unfold oTt
      by_cases y : a = true ∧ s ≤ 11
      · rw [if_pos y]; omega
      · rw [if_neg y]; omega
    have hx' := hx
    obtain ⟨⟨r11, r12, r13, r14⟩, ⟨m60, m62, m63⟩, ⟨hr6, hp10, hh⟩, htx, htg, ⟨hq, hq2⟩, k1, k2, k3⟩ := hx
    have z4 : Nat.beq (zgR A 5 0 13).1 4 = true := by rw [r13]; rfl
    have e7 : zgI A 4 (zgR A 5 0 13).2 7 = nI (oHd s a) := by rw [r13]; exact ho.1.1
    have l40 : ¬ 40 ≤ nI n := nI_ge (b := 40) (by omega) (by omega)
    by_cases ht : 21 ≤ oTt s a
    · have l21 : 21 ≤ nI (oTt s a) := nI_le (a := 21) ht (by omega)
      refine ⟨A, B, n, s, n + 2, a, S, Aa, pl, zFo_refl _ A, zFo_refl _ B, ho, ⟨hs1, hs30⟩, ⟨Nat.le_refl _, by omega, fun _ => ⟨rfl, rfl⟩⟩, hp, by omega, fun _ => rfl, hdl, Or.inr ⟨false, u6, ?_, ?_, h17, hs, h64⟩⟩
      · rw [B42_24, if_neg l40, z4, cond_true, e7, S173y _ _ _ _ _ (by omega), zbsome, zpu1, B42_40, if_pos l21, B42_120]
      · rw [B268_194, ho.2.1.1, ho.2.1.2.1, S240 _ _ _ _ (by omega), zbsome, zpu1, B268_205, if_pos l21]
        rfl
    · have l21 : ¬ 21 ≤ nI (oTt s a) := nI_ge (b := 21) (by omega) (by omega)
      have hs20 : s ≤ 20 := by
        unfold oTt at ht
        by_cases y : a = true ∧ s ≤ 11
        · omega
        · rw [if_neg y] at ht; omega
      have hna : ¬ (a = true ∧ s = 11) := fun y => by
        unfold oTt at ht
        rw [if_pos ⟨y.1, by omega⟩] at ht
        omega
      have hm20 := (hI_next (v := 1) hi hs20 hna ⟨by omega, by omega⟩).2
      obtain ⟨P1, C1, g1, sn1, hnum⟩ := zSo_num hs
      obtain ⟨t1, t2, t3, t4⟩ := htx 0 (by omega)
      -- both ask
      obtain ⟨A1, e1, f1⟩ := K45 (d + 23) i bi di kd s (n + 2) dv a (T 0) hnum r11 r12 r13 k1 k3 t1 t2 t3 ho.1.1 ho.1.2 h25 (by omega)
      obtain ⟨B1, e2, g1'⟩ := K266 (d + 23) i p kd s (n + 2) dv a (T 0) zu zu hnum hp10 m62 k2 k3 t1 t4 ho.2.1.1 ho.2.1.2.1 ho.2.1.2.2 (by omega)
      have e1 : zgo false (d + 29) 45 0 [zr 5 0] [] A = _ := e1
      have e2 : zgo false (d + 29) 266 0 [zr 13 0, zi (nI dv), zu, zu] [] B = _ := e2
      have ect : zgI A 10 i 8 = zgI B 13 0 8 := hnum.2.2.2.2.2.1
      rw [← ect] at e2
      obtain ⟨X, hX⟩ : ∃ X, X = yAsk (T 0) s a dv (n + 2) kd (zgI A 10 i 8) (yTc (zgI A 10 i 8) (yLf P1 sn1 0)) (nI (yLf P1 sn1 1)) := ⟨_, rfl⟩
      rw [← hX] at e1 e2
      have b67 : zgI B1 13 0 67 = nI (n + 2) := ((g1' 13 0 67 (by unfold gB3; omega)).1).trans ho.2.1.2.2
      have b57 : zgI B1 57 0 2 = nI (q 2) := ((g1' 57 0 2 (by unfold gB3; omega)).1).trans (hq 2 (by omega)).2
      have b70 : zgI B1 13 0 70 = bI tn := ((g1' 13 0 70 (by unfold gB3; omega)).1).trans h70
      have b68 : zgI B1 13 0 68 = nI n := ((g1' 13 0 68 (by unfold gB3; omega)).1).trans hp.2.2.1
      have e2b := K266b (d + 29) (n + 2) (q 2) n X tn (nI dv) zu zu b67 (by omega) b57 hq2.2.2.2.1 b70 b68 (by omega)
      rw [e2b] at e2
      have a29 : zgI A1 29 0 2 = nI (q 2) := ((f1 29 0 2 (by unfold gA3; omega)).1).trans (hq 2 (by omega)).1
      have a13 : zgR A1 5 0 13 = (4, di) := ((f1 5 0 13 (by unfold gA3; omega)).2.2).trans r13
      have a5 : zgI A1 4 di 5 = nI (n + 2) := ((f1 4 di 5 (by unfold gA3; omega)).1).trans ho.1.2
      have e43 := K43 (d + 28) di (n + 2) (q 2) X (tn && Nat.beq n 0) zu a13 a5 (by omega) a29 hq2.2.2.2.1
      have e43 : zgo false (d + 29) 43 0 [zr 5 0, zi X, zi (bI (tn && Nat.beq n 0)), zu] [] A1 = _ := e43
      obtain ⟨py, hpy⟩ : ∃ py, py = yMd X (n + 2) (q 2) (tn && Nat.beq n 0) := ⟨_, rfl⟩
      have hpy2 := yMd_le X (n + 2) (q 2) (tn && Nat.beq n 0)
      rw [← hpy] at e2 e43 hpy2
      -- the play written down
      have e24 := K24 (d + 28) di n py (nI (oHd s a)) (by omega) (A := A1) (((f1 4 di 11 (by unfold gA3; omega)).1).trans hp.1) (((f1 4 di 7 (by unfold gA3; omega)).1).trans ho.1.1)
      obtain ⟨A2, hA2⟩ : ∃ A2, A2 = zsI (zsI (zsI A1 26 di n (nI (oHd s a))) 27 di n (nI py)) 4 di 11 (nI (n + 1)) := ⟨_, rfl⟩
      rw [← hA2] at e24
      have e24 : zgo false (d + 29) 24 0 [zr 4 di, zi (nI py)] [] A1 = some (none, A2) := e24
      have f2 : zFo (fun x y w => y = di ∧ (x = 26 ∨ x = 27 ∨ (x = 4 ∧ w = 11))) A1 A2 := by
        rw [hA2]
        exact zFo_sI (zFo_sI (zFo_sI (zFo_refl _ A1) (by omega)) (by omega)) (by omega)
      obtain ⟨A3, hA3⟩ : ∃ A3, A3 = zsI A2 4 di 17 (if py = 2 then 1 else 0) := ⟨_, rfl⟩
      have f3 : zFo (fun x y w => y = di ∧ x = 4 ∧ w = 17) A2 A3 := by
        rw [hA3]
        exact zFo_sI (zFo_refl _ A2) ⟨rfl, rfl, rfl⟩
      have f23 : zFo (fun x y w => y = di ∧ (x = 26 ∨ x = 27 ∨ (x = 4 ∧ (w = 11 ∨ w = 17)))) A1 A3 := zFo_trans (zFo_mono f2 (fun x y w y => by omega)) (zFo_mono f3 (fun x y w y => by omega))
      have fA3 : zFo (gA r i di) A A3 := zFo_trans (zFo_mono f1 (fun x y w y => gA3_A y)) (zFo_mono f23 (fun x y w y => by unfold gA; omega))
      -- held against the best
      have ev67 : ∃ B2, zgo false (d + 29) 267 0 [zr 13 0, zi (nI dv), zi (nI py), zu] [] B1 = some (none, B2) ∧ zFo (fun x y w => r = 0 ∧ gB4 x y w) B1 B2 ∧ (r = 0 → zgI B2 13 0 69 = bI (yOt lf (oO lf q dv) q S Aa pl n || decide (¬ oBst lf (oO lf q dv) s a (Nat.beq n 0 && Nat.beq (q 2) 1) = py))) := by
        by_cases r0 : r = 0
        · obtain ⟨l1, l2⟩ := hl r0
          have n60 : zgI B1 13 0 60 = -1 := by
            rw [(g1' 13 0 60 (by unfold gB3; omega)).1, m60, if_pos r0]
          obtain ⟨B2, w1, w2, w3⟩ := K267 (d + 1) h dv s (n + 2) py a (yOt lf (oO lf q dv) q S Aa pl n) zu hh hd ⟨hs1, by omega⟩ (by omega) hpy2.1 (lf := lf) (q := q) n60 (((g1' 13 0 63 (by unfold gB3; omega)).1).trans (m63 r0)) (fun v hv => ((g1' 95 0 _ (by unfold gB3; omega)).1).trans (l1 v hv)) l2 ⟨fun w hw => ((g1' 57 0 w (by unfold gB3; omega)).1).trans (hq w hw).2, hq2⟩ (((g1' 13 0 65 (by unfold gB3; omega)).1).trans ho.2.1.1) (((g1' 13 0 66 (by unfold gB3; omega)).1).trans ho.2.1.2.1) b67 (((g1' 13 0 69 (by unfold gB3; omega)).1).trans (hp.2.2.2 r0))
          exact ⟨B2, w1, zFo_mono w2 (fun x y w y => ⟨r0, y⟩), fun _ => w3⟩
        · refine ⟨B1, ?_, zFo_refl _ B1, fun y => absurd y r0⟩
          have n60 : zgI B1 13 0 60 = nI (r - 1) := by
            rw [(g1' 13 0 60 (by unfold gB3; omega)).1, m60, if_neg r0]
          rw [B267_0, n60, if_pos (show 0 ≤ nI (r - 1) from nI_le (a := 0) (by omega) (by omega)), B267_15]
      obtain ⟨B2, e3, g2, w69⟩ := ev67
      obtain ⟨B3, hB3⟩ : ∃ B3, B3 = zsI B2 13 0 68 (nI (n + 1)) := ⟨_, rfl⟩
      have g3 : zFo (fun x y w => x = 13 ∧ y = 0 ∧ w = 68) B2 B3 := by
        rw [hB3]
        exact zFo_sI (zFo_refl _ B2) ⟨rfl, rfl, rfl⟩
      have gB3' : zFo (gB r h) B B3 := zFo_trans (zFo_mono g1' (fun x y w y => gB3_B y)) (zFo_trans (zFo_mono g2 (fun x y w y => by unfold gB4 at y; unfold gB; omega)) (zFo_mono g3 (fun x y w y => by unfold gB; omega)))
      have jB : ∀ k w, ¬ (k = 13 ∧ (w = 68 ∨ w = 69)) → ¬ (k = 68 ∨ k = 69) → ¬ (76 ≤ k ∧ k ≤ 81) → zgI B3 k 0 w = zgI B k 0 w := fun k w h1 h2 h3 => by rw [(g3 k 0 w (by omega)).1, (g2 k 0 w (by unfold gB4; omega)).1, (g1' k 0 w (by unfold gB3; omega)).1]
      have hx3 := yCx_fr hx' fA3 gB3'
      have gfull : zFo (fun x y w => y = 0 ∧ (x = 68 ∨ x = 69 ∨ (76 ≤ x ∧ x ≤ 81) ∨ (x = 13 ∧ (w = 68 ∨ w = 69)))) B B3 := zFo_trans (zFo_mono g1' (fun x y w y => by unfold gB3 at y; omega)) (zFo_trans (zFo_mono g2 (fun x y w y => by unfold gB4 at y; omega)) (zFo_mono g3 (fun x y w y => by omega)))
      have ffull : zFo (fun x y w => (x = 31 ∧ y = 0) ∨ x = 49 ∨ (x = 11 ∧ w = 3) ∨ (y = di ∧ (x = 26 ∨ x = 27 ∨ (x = 4 ∧ (w = 11 ∨ w = 17))))) A A3 := zFo_trans (zFo_mono f1 (fun x y w y => by unfold gA3 at y; omega)) (zFo_mono f23 (fun x y w y => by omega))
      have hs3 : zSo r i P C z c hid A3 B3 := zSo_fr hs ffull gfull (fun s _ _ => by omega) (fun s => by omega) (fun s => by omega) (fun k j s hk => by omega) (by omega) (fun s _ _ _ => by omega) (fun s => by omega) (fun s => by omega) (fun k t _ _ => by omega) (by omega)
      have ho3 : hOw r di h s a (n + 2) A3 B3 := hOw_fr ho ffull gfull (by omega) (by omega) (fun s => by omega) (by omega) (by omega) (by omega) (by omega) (fun s => by omega)
      have hdl3 : hDl r di h ds da dm A3 B3 := hDl_fr hdl ffull gfull (by omega) (by omega) (fun s => by omega) (by omega) (fun s => by omega)
      have h64' : zgI B3 13 0 64 = 0 := (jB 13 64 (by omega) (by omega) (by omega)).trans h64
      have t25 : ∀ t, zgI A3 25 di t = zgI A 25 di t := fun t => (ffull 25 di t (by omega)).1
      have a17 : zgI A3 4 di 17 = if py = 2 then 1 else 0 := by rw [hA3, zgI_sI, if_pos ⟨rfl, rfl, rfl⟩]
      have hp3 : hPl r di dv lf q (n + 1) (fun j => if j = n then s else S j) (fun j => if j = n then a else Aa j) (fun j => if j = n then py else pl j) A3 B3 := by
        refine ⟨?_, fun j hj => ?_, ?_, fun r0 => ?_⟩
        · rw [(f3 4 di 11 (by omega)).1, hA2, zgI_sI, if_pos ⟨rfl, rfl, rfl⟩]
        · show zgI A3 26 di j = nI (oHd (if j = n then s else S j) (if j = n then a else Aa j)) ∧ zgI A3 27 di j = nI (if j = n then py else pl j) ∧ (1 ≤ (if j = n then s else S j) ∧ (if j = n then s else S j) ≤ 21) ∧ (if j = n then py else pl j) ≤ 2
          by_cases y : j = n
          · rw [if_pos y, if_pos y, if_pos y, y]
            refine ⟨?_, ?_, ⟨hs1, by omega⟩, hpy2.1⟩
            · rw [(f3 26 di n (by omega)).1, hA2, zgI_sI, if_neg (by omega), zgI_sI, if_neg (by omega), zgI_sI, if_pos ⟨rfl, rfl, rfl⟩]
            · rw [(f3 27 di n (by omega)).1, hA2, zgI_sI, if_neg (by omega), zgI_sI, if_pos ⟨rfl, rfl, rfl⟩]
          · rw [if_neg y, if_neg y, if_neg y]
            obtain ⟨q1, q2, q3⟩ := hp.2.1 j (by omega)
            refine ⟨?_, ?_, q3⟩
            · rw [(f3 26 di j (by omega)).1, hA2, zgI_sI, if_neg (by omega), zgI_sI, if_neg (by omega), zgI_sI, if_neg (fun w => y w.2.2), (f1 26 di j (by unfold gA3; omega)).1, q1]
            · rw [(f3 27 di j (by omega)).1, hA2, zgI_sI, if_neg (by omega), zgI_sI, if_neg (fun w => y w.2.2), zgI_sI, if_neg (by omega), (f1 27 di j (by unfold gA3; omega)).1, q2]
        · rw [hB3, zgI_sI, if_pos ⟨rfl, rfl, rfl⟩]
        · rw [(g3 13 0 69 (by omega)).1, w69 r0]
          show bI (yOt lf (oO lf q dv) q S Aa pl n || decide (¬ oBst lf (oO lf q dv) s a (Nat.beq n 0 && Nat.beq (q 2) 1) = py)) = bI (yOt lf (oO lf q dv) q (fun j => if j = n then s else S j) (fun j => if j = n then a else Aa j) (fun j => if j = n then py else pl j) n || decide (¬ oBst lf (oO lf q dv) (if n = n then s else S n) (if n = n then a else Aa n) (Nat.beq n 0 && Nat.beq (q 2) 1) = (if n = n then py else pl n)))
          rw [if_pos rfl, if_pos rfl, if_pos rfl, yOt_congr (S := S) (S' := fun j => if j = n then s else S j) (Aa := Aa) (Aa' := fun j => if j = n then a else Aa j) (pl := pl) (pl' := fun j => if j = n then py else pl j) n (fun j hj => ⟨(if_neg (by omega)).symm, (if_neg (by omega)).symm, (if_neg (by omega)).symm⟩)]
      -- what each runs to
      have l0 : nI py = 0 ↔ py = 0 := nI_eq (b := 0) (by omega) (by omega)
      have l2 : nI py = 2 ↔ py = 2 := nI_eq (b := 2) (by omega) (by omega)
      have ca : zgo false (d + 30) 42 24 [zr 5 0, zi (bI tn), zi (nI n), u3] [] A = if nI py = 0 then some (some (zi 1), A3) else ((zgo false (d + 29) 39 0 [zr 5 0, zu] [] A3).bind fun q => zgo false (d + 30) 42 102 [zr 5 0, zi (bI tn), zi (nI n), zi (nI py)] (zpush q.1 []) q.2) := by
        have z4b : (Nat.beq (zgR A1 5 0 13).1 4 && true) = true := by rw [a13]; rfl
        have a2r : zgR A2 5 0 13 = (4, di) := ((f2 5 0 13 (by omega)).2.2).trans a13
        have k63 : zgo false (d + 30) 42 50 [zr 5 0, zi (bI tn), zi (nI n), u3] [zi X, zr 5 0] A1 = zgo false (d + 30) 42 63 [zr 5 0, zi (bI tn), zi (nI n), u3] [zi (bI (tn && Nat.beq n 0)), zi X, zr 5 0] A1 := by
          have ln : nI n = 0 ↔ n = 0 := nI_eq (b := 0) (by omega) (by omega)
          rw [B42_50, B42_62]
          cases tn with
          | false => rw [if_pos (show bI false = 0 from rfl)]; rfl
          | true =>
            rw [if_neg (show ¬ bI true = 0 by decide)]
            by_cases y : n = 0
            · rw [if_pos (ln.mpr y), y]; rfl
            · rw [if_neg (mt ln.mp y)]
              cases hb : Nat.beq n 0 with
              | false => rfl
              | true => exact absurd (Nat.eq_of_beq_eq_true hb) y
        have k89 : zgo false (d + 30) 42 75 [zr 5 0, zi (bI tn), zi (nI n), zi (nI py)] [] A2 = zgo false (d + 30) 42 89 [zr 5 0, zi (bI tn), zi (nI n), zi (nI py)] [zi (if py = 2 then 1 else 0), zr 4 di] A2 := by
          rw [B42_75, a2r]
          by_cases y : py = 2
          · rw [if_pos (l2.mpr y), if_pos y]
          · rw [if_neg (mt l2.mp y), if_neg y]
        have zb : zib (if py = 2 then (1 : Int32) else 0) = true := by
          by_cases y : py = 2
          · rw [if_pos y]; rfl
          · rw [if_neg y]; rfl
        rw [B42_24, if_neg l40, z4, cond_true, e7, S173y _ _ _ _ _ (by omega), zbsome, zpu1, B42_40, if_neg l21, e1, zbsome]
        show zgo false (d + 30) 42 50 [zr 5 0, zi (bI tn), zi (nI n), u3] [zi X, zr 5 0] A1 = _
        rw [k63, B42_63, e43, zbsome, zpu1, B42_66, z4b, cond_true, show zp (zgR A1 5 0 13) = zr 4 di from by rw [a13], e24, zbsome, zpu0, k89, B42_89, zb, cond_true, ← hA3]
      have mo : zgo false (d + 30) 268 194 [zr 13 0, zi (nI dv), zi hv, zi x3, zi x4, zi 1, u6, u7, u8, u9] [] B = if nI py = 0 then zgo false (d + 30) 268 272 [zr 13 0, zi (nI dv), zi hv, zi x3, zi x4, zi 1, zi (nI py), u7, u8, u9] [] B3 else zgo false (d + 30) 268 251 [zr 13 0, zi (nI dv), zi hv, zi x3, zi x4, zi (if py = 2 then 2 else 1), zi (nI py), u7, u8, u9] [] B3 := by
        have b68' : zgI B2 13 0 68 = nI n := ((g2 13 0 68 (by unfold gB4; omega)).1).trans b68
        rw [B268_194, ho.2.1.1, ho.2.1.2.1, S240 _ _ _ _ (by omega), zbsome, zpu1, B268_205, if_neg l21, e2, zbsome, zpu1, B268_215, e3, zbsome, zpu0, B268_224, b68', nI_1, ← hB3]
        by_cases y : nI py = 0
        · rw [if_pos y, if_pos y]
        · rw [if_neg y, if_neg y]
          by_cases y2 : py = 2
          · rw [if_pos (l2.mpr y2), if_pos y2]
          · rw [if_neg (mt l2.mp y2), if_neg y2]
      by_cases c0 : py = 0
      · -- stands
        rw [if_pos (l0.mpr c0)] at ca mo
        refine ⟨A3, B3, n + 1, s, n + 2, a, _, _, _, fA3, gB3', ho3, ⟨hs1, hs30⟩, ⟨Nat.le_refl _, by omega, fun _ => ⟨rfl, rfl⟩⟩, hp3, by omega, t25, hdl3, Or.inr ⟨false, zi (nI py), ca, mo, ?_, hs3, h64'⟩⟩
        rw [a17, if_neg (by omega)]
        rfl
      · rw [if_neg (mt l0.mp c0)] at ca mo
        obtain ⟨A4, B4, f4, g4, hX1⟩ := X1 (d + 23) r i bi di p h zu zu hx3 hs3 ho3 hi hs20 hna h64'
        have fA4 : zFo (gA r i di) A A4 := zFo_trans fA3 (zFo_mono f4 (fun x y w y => gA1_A y))
        have gB4' : zFo (gB r h) B B4 := zFo_trans gB3' (zFo_mono g4 (fun x y w y => gB1_B y))
        have t25b : ∀ t, zgI A4 25 di t = zgI A 25 di t := fun t => ((f4 25 di t (by unfold gA1; omega)).1).trans (t25 t)
        have hdl4 : hDl r di h ds da dm A4 B4 := hDl_fr hdl3 f4 g4 (by unfold gA1; omega) (by unfold gA1; omega) (fun s => by unfold gA1; omega) (by unfold gB1; omega) (fun s => by unfold gB1; omega)
        have hp4 := hPl_fr hp3 f4 g4 (by unfold gA1; omega) (fun k s hk => by unfold gA1; omega) (by unfold gB1; omega) (by unfold gB1; omega)
        rcases hX1 with ⟨v, hv1, x1, x2, x3', x4', x5, x6⟩ | ⟨x1, x2, x3', x4', x5⟩
        · have x1 : zgo false (d + 29) 39 0 [zr 5 0, zu] [] A3 = some (some (zi 1), A4) := x1
          have x2 : zgo false (d + 29) 264 0 [zr 13 0, zu] [] B3 = some (some (zi 1), B4) := x2
          have ca : zgo false (d + 30) 42 24 [zr 5 0, zi (bI tn), zi (nI n), u3] [] A = if nI py = 2 then some (some (zi 1), A4) else zgo false (d + 30) 42 24 [zr 5 0, zi (bI tn), zi (nI (n + 1)), zi (nI py)] [] A4 := by
            rw [ca, x1, zbsome, zpu1, B42_102, if_neg (by decide), nI_1]
          have mo : zgo false (d + 30) 268 194 [zr 13 0, zi (nI dv), zi hv, zi x3, zi x4, zi 1, u6, u7, u8, u9] [] B = if nI py = 2 then zgo false (d + 30) 268 272 [zr 13 0, zi (nI dv), zi hv, zi x3, zi x4, zi (if py = 2 then 2 else 1), zi (nI py), u7, u8, u9] [] B4 else zgo false (d + 30) 268 194 [zr 13 0, zi (nI dv), zi hv, zi x3, zi x4, zi (if py = 2 then 2 else 1), zi (nI py), u7, u8, u9] [] B4 := by
            rw [mo, B268_251, x2, zbsome, zpu1, B268_255, if_neg (by decide)]
          by_cases c2 : py = 2
          · rw [if_pos (l2.mpr c2)] at ca mo
            rw [if_pos c2] at mo
            refine ⟨A4, B4, n + 1, s + v, n + 2 + 1, oA a v, _, _, _, fA4, gB4', x4', ⟨by omega, by omega⟩, ⟨by omega, by omega, fun y => absurd y (by omega)⟩, hp4, by omega, t25b, hdl4, Or.inr ⟨true, zi (nI py), ca, mo, ?_, x3', x6⟩⟩
            rw [(f4 4 di 17 (by unfold gA1; omega)).1, a17, if_pos c2]
            rfl
          · rw [if_neg (mt l2.mp c2)] at ca mo
            rw [if_neg c2] at mo
            have h17b : zgI A4 4 di 17 = 0 := by rw [(f4 4 di 17 (by unfold gA1; omega)).1, a17, if_neg c2]
            have h70b : zgI B4 13 0 70 = bI tn := by rw [(g4 13 0 70 (by unfold gB1; omega)).1, jB 13 70 (by omega) (by omega) (by omega), h70]
            have hl4 : hLf r h lf B4 := hLf_fr hl gB4' (fun s => by unfold gB; omega)
            obtain ⟨A', B', n', s', m', a', S', Aa', pl', q1, q2, q3, q4, q45, q5, q6, q7, q8, q9⟩ := ih (n + 1) (s + v) (oA a v) A4 B4 _ _ _ (zi (nI py)) (zi (nI py)) u7 u8 u9 (by omega) (yCx_fr hx' fA4 gB4') x3' x4' x5 (by omega) (by omega) (by omega) hl4 ((t25b 0).trans h25) hp4 x6 h70b h17b hdl4
            refine ⟨A', B', n', s', m', a', S', Aa', pl', zFo_trans fA4 q1, zFo_trans gB4' q2, q3, q4, ⟨by have := q45.1; omega, q45.2.1, fun y => absurd y (by have := q45.1; omega)⟩, q5, q6, fun t => (q7 t).trans (t25b t), q8, ?_⟩
            rcases q9 with ⟨y1, y2, y3⟩ | ⟨dbl, w6, y1, y2, y3⟩
            · exact Or.inl ⟨ca.trans y1, mo.trans y2, y3⟩
            · exact Or.inr ⟨dbl, w6, ca.trans y1, mo.trans y2, y3⟩
        · have x1 : zgo false (d + 29) 39 0 [zr 5 0, zu] [] A3 = some (some (zi 0), A4) := x1
          have x2 : zgo false (d + 29) 264 0 [zr 13 0, zu] [] B3 = some (some (zi 0), B4) := x2
          refine ⟨A4, B4, n + 1, s, n + 2, a, _, _, _, fA4, gB4', x4', ⟨hs1, hs30⟩, ⟨Nat.le_refl _, by omega, fun _ => ⟨rfl, rfl⟩⟩, hp4, by omega, t25b, hdl4, Or.inl ⟨?_, ?_, x5, x3'⟩⟩
          · rw [ca, x1, zbsome, zpu1, B42_102, if_pos rfl]
          · rw [mo, B268_251, x2, zbsome, zpu1, B268_255, if_pos rfl]
