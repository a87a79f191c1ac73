/-! ===== what a player sees, and asks his text ===== -/
def ySee (kd : Nat) : Bool := decide (2 ≤ kd ∧ ¬ kd = 6)
def yNs (kd : Nat) (ct tc la : Int32) (k : Nat) : Int32 := if k = 9 then (if ySee kd = true then ct else 0) else if k = 10 then (if ySee kd = true then tc else 0) else if k = 11 then (if kd = 3 then la else 0) else 0
theorem yNs_9 (kd : Nat) (ct tc la : Int32) : yNs kd ct tc la 9 = if ySee kd = true then ct else 0 := if_pos rfl
theorem yNs_10 (kd : Nat) (ct tc la : Int32) : yNs kd ct tc la 10 = if ySee kd = true then tc else 0 := (if_neg (by decide)).trans (if_pos rfl)
theorem yNs_11 (kd : Nat) (ct tc la : Int32) : yNs kd ct tc la 11 = if kd = 3 then la else 0 := (if_neg (by decide)).trans ((if_neg (by decide)).trans (if_pos rfl))
theorem K10 (d bi kd : Nat) {A : zM} (h : zgI A 2 bi 0 = nI kd) (hk : kd ≤ 7) : zgo false d 10 0 [zr 2 bi] [] A = some (some (zi (bI (ySee kd))), A) := by
  rw [B10_0, h, B10_21, B10_22, B10_22]
  rcases (by omega : kd = 0 ∨ kd = 1 ∨ kd = 2 ∨ kd = 3 ∨ kd = 4 ∨ kd = 5 ∨ kd = 6 ∨ kd = 7) with rfl | rfl | rfl | rfl | rfl | rfl | rfl | rfl <;> rfl
theorem K233 (d kd : Nat) (B : zM) (hk : kd ≤ 7) : zgo false (d + 1) 233 0 [zi (nI kd)] [] B = some (some (zi (bI (ySee kd))), B) := by
  rw [B233_0, S232, zbsome, zpu1, B233_5, S232, zbsome, zpu1, B233_13, B233_16, B233_21, B233_21]
  rcases (by omega : kd = 0 ∨ kd = 1 ∨ kd = 2 ∨ kd = 3 ∨ kd = 4 ∨ kd = 5 ∨ kd = 6 ∨ kd = 7) with rfl | rfl | rfl | rfl | rfl | rfl | rfl | rfl <;> rfl
theorem zSo_num {r i P C : Nat} {z : Int32} {c : Nat → Nat} {hid : Nat} {A B : zM} (H : zSo r i P C z c hid A B) : ∃ P C g sn, yNm i A B P C g sn := by
  rcases H with ⟨-, g, ct, sn, e1, e2, e3⟩ | ⟨-, -, -, e⟩
  · exact ⟨P, C, g, sn, yNm_S e1 e2 e3⟩
  · exact e
theorem K48 (d i bi kd : Nat) {A B : zM} {P C g : Nat} {sn : Nat → Nat} (hn : yNm i A B P C g sn) (r11 : zgR A 5 0 11 = (10, i)) (r12 : zgR A 5 0 12 = (2, bi)) (hk : zgI A 2 bi 0 = nI kd) (hk7 : kd ≤ 7) (h0 : ∀ k, 9 ≤ k → k < 12 → zgI A 31 0 k = 0) : ∃ A', zgo false (d + 2) 48 0 [zr 5 0] [] A = some (none, A') ∧ zFo (fun a b c => a = 31 ∧ b = 0 ∧ 9 ≤ c) A A' ∧ ∀ k, 9 ≤ k → k < 12 → zgI A' 31 0 k = yNs kd (zgI A 10 i 8) (yTc (zgI A 10 i 8) (yLf P sn 0)) (nI (yLf P sn 1)) k := by
  obtain ⟨ct, hct⟩ : ∃ ct, ct = zgI A 10 i 8 := ⟨_, rfl⟩
  have l3 : nI kd = 3 ↔ kd = 3 := nI_eq (b := 3) (by omega) (by omega)
  -- the last step
  have last : ∀ (A1 : zM) (x y : Int32), zFo (fun a b c => a = 31 ∧ b = 0 ∧ 9 ≤ c) A A1 → zgI A1 31 0 9 = x → zgI A1 31 0 10 = y → zgI A1 31 0 11 = 0 → ∃ A', zgo false (d + 2) 48 42 [zr 5 0] [] A1 = some (none, A') ∧ zFo (fun a b c => a = 31 ∧ b = 0 ∧ 9 ≤ c) A A' ∧ zgI A' 31 0 9 = x ∧ zgI A' 31 0 10 = y ∧ zgI A' 31 0 11 = if kd = 3 then nI (yLf P sn 1) else 0 := by
    intro A1 x y f e9 e10 e11
    have s11 : zgR A1 5 0 11 = (10, i) := ((f 5 0 11 (by omega)).2.2).trans r11
    have s12 : zgR A1 5 0 12 = (2, bi) := ((f 5 0 12 (by omega)).2.2).trans r12
    have z2 : Nat.beq (zgR A1 5 0 12).1 2 = true := by rw [s12]; rfl
    have z10 : (Nat.beq (zgR A1 5 0 11).1 10 && true) = true := by rw [s11]; rfl
    have ek : zgI A1 2 (zgR A1 5 0 12).2 0 = nI kd := by
      rw [s12]
      exact ((f 2 bi 0 (by omega)).1).trans hk
    by_cases c3 : kd = 3
    · have hn1 : yNm i A1 B P C g sn := yNm_fr hn (fun s _ _ => (f 10 i s (by omega)).1) (fun s _ => (f 47 i s (by omega)).1) (fun _ _ _ _ => rfl) (fun _ _ => rfl)
      have e112 : zgo false (d + 1) 112 0 [zr 10 i, zi 1] [] A1 = some (some (zi (nI (yLf P sn 1))), A1) := S112 d i 1 (yNm_A hn1) (by omega)
      refine ⟨zsI A1 31 0 11 (nI (yLf P sn 1)), ?_, zFo_sI f ⟨rfl, rfl, by omega⟩, ?_, ?_, ?_⟩
      · rw [B48_42, z2, cond_true, ek, if_pos (l3.mpr c3), z10, cond_true, show zp (zgR A1 5 0 11) = zr 10 i from by rw [s11], e112, zbsome]
        show zgo false (d + 2) 48 67 [zr 5 0] [zi (nI (yLf P sn 1)), zi 11, zr 31 0] A1 = _
        have e170 : zgo false (d + 1) 170 0 [zr 31 0, zi 11, zi (nI (yLf P sn 1))] [] A1 = some (none, zsI A1 31 0 11 (nI (yLf P sn 1))) := se31n false (d + 1) 0 11 _ A1 (by omega)
        rw [B48_67, e170, zbsome, zpu0, B48_70]
      · rw [zgI_sI, if_neg (by omega), e9]
      · rw [zgI_sI, if_neg (by omega), e10]
      · rw [zgI_sI, if_pos ⟨rfl, rfl, rfl⟩, if_pos c3]
    · refine ⟨A1, ?_, f, e9, e10, ?_⟩
      · rw [B48_42, z2, cond_true, ek, if_neg (mt l3.mp c3), B48_70]
      · rw [e11, if_neg c3]
  have z12 : (Nat.beq (zgR A 5 0 12).1 2 && true) = true := by rw [r12]; rfl
  have k7 : zgo false (d + 2) 48 0 [zr 5 0] [] A = zgo false (d + 2) 48 7 [zr 5 0] [zi (bI (ySee kd))] A := by
    rw [B48_0, z12, cond_true, show zp (zgR A 5 0 12) = zr 2 bi from by rw [r12], K10 (d + 1) bi kd hk hk7, zbsome]
    rfl
  have out : ∀ (A' : zM) (x y : Int32), x = (if ySee kd = true then ct else 0) → y = (if ySee kd = true then yTc ct (yLf P sn 0) else 0) → zgI A' 31 0 9 = x → zgI A' 31 0 10 = y → zgI A' 31 0 11 = (if kd = 3 then nI (yLf P sn 1) else 0) → ∀ k, 9 ≤ k → k < 12 → zgI A' 31 0 k = yNs kd ct (yTc ct (yLf P sn 0)) (nI (yLf P sn 1)) k := by
    intro A' x y hx hy e9 e10 e11 k k1 k2
    rcases (by omega : k = 9 ∨ k = 10 ∨ k = 11) with rfl | rfl | rfl
    · rw [e9, hx, yNs_9]
    · rw [e10, hy, yNs_10]
    · rw [e11, yNs_11]
  rw [← hct]
  cases hs : ySee kd with
  | false =>
    obtain ⟨A', e, f, e9, e10, e11⟩ := last A 0 0 (zFo_refl _ A) (h0 9 (by omega) (by omega)) (h0 10 (by omega) (by omega)) (h0 11 (by omega) (by omega))
    refine ⟨A', ?_, f, out A' 0 0 (by rw [hs]; rfl) (by rw [hs]; rfl) e9 e10 e11⟩
    rw [k7, hs, B48_7, if_pos (show bI false = 0 from rfl)]
    exact e
  | true =>
    obtain ⟨A1, hA1⟩ : ∃ A1, A1 = zsI A 31 0 9 ct := ⟨_, rfl⟩
    have f1 : zFo (fun a b c => a = 31 ∧ b = 0 ∧ 9 ≤ c) A A1 := by
      rw [hA1]
      exact zFo_sI (zFo_refl _ A) ⟨rfl, rfl, by omega⟩
    have hn1 : yNm i A1 B P C g sn := yNm_fr hn (fun s _ _ => (f1 10 i s (by omega)).1) (fun s _ => (f1 47 i s (by omega)).1) (fun _ _ _ _ => rfl) (fun _ _ => rfl)
    have e114 : zgo false (d + 1) 114 0 [zr 10 i, zu] [] A1 = some (some (zi (yTc ct (yLf P sn 0))), A1) := by
      rw [S114 (d + 1) i zu (yNm_A hn1), (f1 10 i 8 (by omega)).1, ← hct]
    obtain ⟨A2, hA2⟩ : ∃ A2, A2 = zsI A1 31 0 10 (yTc ct (yLf P sn 0)) := ⟨_, rfl⟩
    have f2 : zFo (fun a b c => a = 31 ∧ b = 0 ∧ 9 ≤ c) A A2 := by
      rw [hA2]
      exact zFo_sI f1 ⟨rfl, rfl, by omega⟩
    obtain ⟨A', e, f, e9, e10, e11⟩ := last A2 ct (yTc ct (yLf P sn 0)) f2 (by rw [hA2, zgI_sI, if_neg (by omega), hA1, zgI_sI, if_pos ⟨rfl, rfl, rfl⟩]) (by rw [hA2, zgI_sI, if_pos ⟨rfl, rfl, rfl⟩]) (by rw [hA2, zgI_sI, if_neg (by omega), hA1, zgI_sI, if_neg (by omega), h0 11 (by omega) (by omega)])
    refine ⟨A', ?_, f, out A' ct _ (by rw [hs]; rfl) (by rw [hs]; rfl) e9 e10 e11⟩
    have z10 : Nat.beq (zgR A 5 0 11).1 10 = true := by rw [r11]; rfl
    have s11 : zgR A1 5 0 11 = (10, i) := ((f1 5 0 11 (by omega)).2.2).trans r11
    have z10b : (Nat.beq (zgR A1 5 0 11).1 10 && true) = true := by rw [s11]; rfl
    have e170 : zgo false (d + 1) 170 0 [zr 31 0, zi 9, zi (zgI A 10 (zgR A 5 0 11).2 8)] [] A = some (none, A1) := by
      rw [r11, show zgI A 10 ((10 : Nat), i).2 8 = ct from hct.symm, hA1]
      exact se31n false (d + 1) 0 9 ct A (by omega)
    have e170b : zgo false (d + 1) 170 0 [zr 31 0, zi 10, zi (yTc ct (yLf P sn 0))] [] A1 = some (none, A2) := by
      rw [hA2]
      exact se31n false (d + 1) 0 10 _ A1 (by omega)
    rw [k7, hs, B48_7, if_neg (show ¬ bI true = 0 by decide), z10, cond_true, e170, zbsome, zpu0, B48_26, z10b, cond_true, show zp (zgR A1 5 0 11) = zr 10 i from by rw [s11], e114, zbsome]
    show zgo false (d + 2) 48 39 [zr 5 0] [zi (yTc ct (yLf P sn 0)), zi 10, zr 31 0] A1 = _
    rw [B48_39, e170b, zbsome, zpu0]
    exact e
/-- the same by the model -/
theorem K265 (d i p kd : Nat) (u2 : zV) {A B : zM} {P C g : Nat} {sn : Nat → Nat} (hn : yNm i A B P C g sn) (hp : p < 10) (hk : zgI B 70 0 p = nI kd) (hk7 : kd ≤ 7) : ∃ B', zgo false (d + 3) 265 0 [zr 13 0, zi (nI p), u2] [] B = some (none, B') ∧ zFo (fun a b c => a = 68 ∧ b = 0 ∧ 9 ≤ c) B B' ∧ ∀ k, 9 ≤ k → k < 12 → zgI B' 68 0 k = yNs kd (zgI B 13 0 8) (yTc (zgI B 13 0 8) (yLf P sn 0)) (nI (yLf P sn 1)) k := by
  obtain ⟨ct, hct⟩ : ∃ ct, ct = zgI B 13 0 8 := ⟨_, rfl⟩
  have l3 : nI kd = 3 ↔ kd = 3 := nI_eq (b := 3) (by omega) (by omega)
  have zp10 : zin (nI p) 10 = true := zin_nI (by omega) (by omega)
  have cp : (nI p).toNatClampNeg = p := nI_clamp (by omega)
  have z9 : zin 9 12 = true := rfl
  have z10 : zin 10 12 = true := rfl
  have z11 : zin 11 12 = true := rfl
  have t9 : (9 : Int32).toNatClampNeg = 9 := rfl
  have t10 : (10 : Int32).toNatClampNeg = 10 := rfl
  have t11 : (11 : Int32).toNatClampNeg = 11 := rfl
  obtain ⟨x, hx⟩ : ∃ x, x = (if ySee kd = true then ct else 0) := ⟨_, rfl⟩
  obtain ⟨y, hy⟩ : ∃ y, y = (if ySee kd = true then yTc ct (yLf P sn 0) else 0) := ⟨_, rfl⟩
  obtain ⟨w, hw⟩ : ∃ w, w = (if kd = 3 then nI (yLf P sn 1) else 0) := ⟨_, rfl⟩
  obtain ⟨B1, hB1⟩ : ∃ B1, B1 = zsI B 68 0 9 x := ⟨_, rfl⟩
  obtain ⟨B2, hB2⟩ : ∃ B2, B2 = zsI B1 68 0 10 y := ⟨_, rfl⟩
  obtain ⟨B3, hB3⟩ : ∃ B3, B3 = zsI B2 68 0 11 w := ⟨_, rfl⟩
  have f1 : zFo (fun a b c => a = 68 ∧ b = 0 ∧ 9 ≤ c) B B1 := by
    rw [hB1]
    exact zFo_sI (zFo_refl _ B) ⟨rfl, rfl, by omega⟩
  have f2 : zFo (fun a b c => a = 68 ∧ b = 0 ∧ 9 ≤ c) B B2 := by
    rw [hB2]
    exact zFo_sI f1 ⟨rfl, rfl, by omega⟩
  have f3 : zFo (fun a b c => a = 68 ∧ b = 0 ∧ 9 ≤ c) B B3 := by
    rw [hB3]
    exact zFo_sI f2 ⟨rfl, rfl, by omega⟩
  have hn1 : ∀ B1, zFo (fun a b c => a = 68 ∧ b = 0 ∧ 9 ≤ c) B B1 → yNm i A B1 P C g sn := fun B1 f => yNm_fr hn (fun _ _ _ => rfl) (fun _ _ => rfl) (fun s _ _ _ => (f 13 0 s (by omega)).1) (fun s _ => (f 56 0 s (by omega)).1)
  refine ⟨B3, ?_, f3, fun k k1 k2 => ?_⟩
  · have e201 : zgo false (d + 2) 201 0 [zr 13 0] [] B1 = some (some (zi (yTc ct (yLf P sn 0))), B1) := by
      rw [S201 d i (yNm_B (hn1 B1 f1)), (f1 13 0 8 (by omega)).1, ← hct]
    have e197 : zgo false (d + 2) 197 0 [zr 13 0, zi 1] [] B2 = some (some (zi (nI (yLf P sn 1))), B2) := S197 (d + 1) i 1 (yNm_B (hn1 B2 f2)) (by omega)
    have s2 : ∀ v, zgo false (d + 3) 265 47 [zr 13 0, zi (nI p), zi v] [zi y, zi 10, zr 68 0] B1 = some (none, B3) := by
      intro v
      have k2 : zgI B2 70 0 p = nI kd := ((f2 70 0 p (by omega)).1).trans hk
      rw [B265_47, if_pos z10, if_pos zp10, t10, cp, ← hB2, k2]
      by_cases c3 : kd = 3
      · rw [if_pos (l3.mpr c3), e197, zbsome]
        show zgo false (d + 3) 265 69 [zr 13 0, zi (nI p), zi v] [zi (nI (yLf P sn 1)), zi 11, zr 68 0] B2 = _
        rw [B265_69, B265_73, if_pos z11, t11, hB3, hw, if_pos c3]
      · rw [if_neg (mt l3.mp c3), B265_73, if_pos z11, t11, hB3, hw, if_neg c3]
    have s1 : zgo false (d + 3) 265 28 [zr 13 0, zi (nI p), zi (bI (ySee kd))] [zi x, zi 9, zr 68 0] B = some (none, B3) := by
      rw [B265_28, if_pos z9, t9, ← hB1]
      cases hs : ySee kd with
      | false =>
        have y0 : y = 0 := by rw [hy, hs]; rfl
        rw [if_pos (show bI false = 0 from rfl), ← y0]
        exact s2 _
      | true =>
        have y0 : y = yTc ct (yLf P sn 0) := by rw [hy, hs]; rfl
        rw [if_neg (show ¬ bI true = 0 by decide), e201, zbsome, ← y0]
        show zgo false (d + 3) 265 43 [zr 13 0, zi (nI p), zi (bI true)] [zi y, zi 10, zr 68 0] B1 = _
        rw [B265_43]
        exact s2 _
    have e233 : zgo false (d + 2) 233 0 [zi (nI kd)] [] B = some (some (zi (bI (ySee kd))), B) := K233 (d + 1) kd B hk7
    rw [B265_0, if_pos zp10, cp, hk, e233, zbsome, zpu1, B265_9]
    cases hs : ySee kd with
    | false =>
      have x0 : x = 0 := by rw [hx, hs]; rfl
      rw [hs] at s1
      rw [if_pos (show bI false = 0 from rfl), ← x0]
      exact s1
    | true =>
      have x0 : x = ct := by rw [hx, hs]; rfl
      rw [hs] at s1
      rw [if_neg (show ¬ bI true = 0 by decide), ← hct, ← x0]
      exact s1
  · rw [← hct]
    rcases (by omega : k = 9 ∨ k = 10 ∨ k = 11) with rfl | rfl | rfl
    · rw [yNs_9, hB3, zgI_sI, if_neg (by omega), hB2, zgI_sI, if_neg (by omega), hB1, zgI_sI, if_pos ⟨rfl, rfl, rfl⟩, hx]
    · rw [yNs_10, hB3, zgI_sI, if_neg (by omega), hB2, zgI_sI, if_pos ⟨rfl, rfl, rfl⟩, hy]
    · rw [yNs_11, hB3, zgI_sI, if_pos ⟨rfl, rfl, rfl⟩, hw]
