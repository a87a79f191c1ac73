/-! ===== bets and points ===== -/
def yNb (u : Int32) (kd : Nat) (ct tc la : Int32) (k : Nat) : Int32 := if k = 5 then u else yNs kd ct tc la k
def yBw (T : List (List yOp × List yOp)) (u : Int32) (kd : Nat) (ct tc la : Int32) : Int32 := if T = [] then 1 else yHe (yTx (yNb u kd ct tc la) T) 1 99
def yBe (T : List (List yOp × List yOp)) (u : Int32) (kd : Nat) (cl ct tc la : Int32) : Int32 := if u ≤ (if (kd = 5 ∨ kd = 7) ∧ ¬ cl ≤ tc then 0 else if kd = 4 then 1 else yBw T u kd ct tc la) then u else (if (kd = 5 ∨ kd = 7) ∧ ¬ cl ≤ tc then 0 else if kd = 4 then 1 else yBw T u kd ct tc la)
theorem yNb_of {n : Nat} {M0 M1 M2 : zM} {u ct tc la : Int32} {kd : Nat} (h0 : ∀ k, k < 12 → zgI M0 n 0 k = 0) (h1 : M1 = zsI M0 n 0 5 u) (f : zFo (fun a b c => a = n ∧ b = 0 ∧ 9 ≤ c) M1 M2) (h2 : ∀ k, 9 ≤ k → k < 12 → zgI M2 n 0 k = yNs kd ct tc la k) : ∀ k, k < 12 → zgI M2 n 0 k = yNb u kd ct tc la k := by
  intro k hk
  unfold yNb
  by_cases c9 : 9 ≤ k
  · rw [h2 k c9 hk, if_neg (by omega)]
  · rw [(f n 0 k (by omega)).1, h1, zgI_sI]
    by_cases e : k = 5
    · rw [if_pos ⟨rfl, rfl, e⟩, if_pos e]
    · rw [if_neg (fun w => e w.2.2), if_neg e, h0 k hk, yNs_lo _ _ _ _ (by omega)]
theorem K11 (d bi kd : Nat) {A : zM} (h : zgI A 2 bi 0 = nI kd) (hk : kd ≤ 7) : zgo false d 11 0 [zr 2 bi] [] A = some (some (zi (bI (decide (kd = 5 ∨ kd = 7)))), A) := by
  rw [B11_0, h, B11_17, B11_22, B11_22]
  rcases (by omega : kd = 0 ∨ kd = 1 ∨ kd = 2 ∨ kd = 3 ∨ kd = 4 ∨ kd = 5 ∨ kd = 6 ∨ kd = 7) with rfl | rfl | rfl | rfl | rfl | rfl | rfl | rfl <;> rfl
theorem zund5 {kd : Nat} (hk : kd ≤ 7) : zund (nI kd) 5 = bI (decide (kd = 5 ∨ kd = 7)) := by
  rcases (by omega : kd = 0 ∨ kd = 1 ∨ kd = 2 ∨ kd = 3 ∨ kd = 4 ∨ kd = 5 ∨ kd = 6 ∨ kd = 7) with rfl | rfl | rfl | rfl | rfl | rfl | rfl | rfl <;> rfl
theorem K47 (d i bi kd : Nat) (u : Int32) (T : List (List yOp × List yOp)) {A B : zM} {P C g : Nat} {sn : Nat → Nat} (hn : yNm i A B P C g sn) (r11 : zgR A 5 0 11 = (10, i)) (r12 : zgR A 5 0 12 = (2, bi)) (hk : zgI A 2 bi 0 = nI kd) (hk7 : kd ≤ 7) (hw : yWT T) (hl : yLn T) (hc : yCl A 2 T) : ∃ A', zgo false (d + 6) 47 0 [zr 5 0, zi u] [] A = some (some (zi (yBw T u kd (zgI A 10 i 8) (yTc (zgI A 10 i 8) (yLf P sn 0)) (nI (yLf P sn 1)))), A') ∧ zFo gA3 A A' := by
  have l0 : zgI A 11 2 2 = 0 ↔ T = [] := by
    rw [hc.1, ← yFl_nil T]
    exact nI_eq (b := 0) (by have := hc.2.1; omega) (by omega)
  by_cases c0 : T = []
  · refine ⟨A, ?_, zFo_refl _ A⟩
    have e : yBw T u kd (zgI A 10 i 8) (yTc (zgI A 10 i 8) (yLf P sn 0)) (nI (yLf P sn 1)) = 1 := if_pos c0
    rw [B47_0, if_pos (l0.mpr c0), e]
  · obtain ⟨A0, e0, f0, h0⟩ := S121 (d + 4) zu A
    have e0 : zgo false (d + 5) 121 0 [zr 31 0, zu] [] A = some (none, A0) := e0
    obtain ⟨A1, hA1⟩ : ∃ A1, A1 = zsI A0 31 0 5 u := ⟨_, rfl⟩
    have f1 : zFo (fun a b c => a = 31 ∧ b = 0) A A1 := by
      rw [hA1]
      exact zFo_sI f0 ⟨rfl, rfl⟩
    have hn1 : yNm i A1 B P C g sn := yNm_fr hn (fun s _ _ => (f1 10 i s (by omega)).1) (fun s _ => (f1 47 i s (by omega)).1) (fun _ _ _ _ => rfl) (fun _ _ => rfl)
    obtain ⟨A2, e2, f2, v2⟩ := K48 (d + 3) i bi kd hn1 (((f1 5 0 11 (by omega)).2.2).trans r11) (((f1 5 0 12 (by omega)).2.2).trans r12) (((f1 2 bi 0 (by omega)).1).trans hk) hk7 (fun k k1 k2 => by rw [hA1, zgI_sI, if_neg (by omega), h0 k k2])
    have e2 : zgo false (d + 5) 48 0 [zr 5 0] [] A1 = some (none, A2) := e2
    have f12 : zFo (fun a b c => a = 31 ∧ b = 0) A A2 := zFo_trans f1 (zFo_mono f2 (fun a b c y => ⟨y.1, y.2.1⟩))
    obtain ⟨A3, e3, f3⟩ := S124 (d + 2) 2 zu zu zu T A2 hw hl (yCl_fr hc (f12 11 2 2 (by omega)).1 (fun s => (f12 48 2 s (by omega)).1))
    have e3 : zgo false (d + 5) 124 0 [zr 11 2, zr 31 0, zu, zu, zu] [] A2 = some (some (zi (yTx (fun k => zgI A2 31 0 k) T)), A3) := e3
    rw [(f1 10 i 8 (by omega)).1] at v2
    have ev : yHe (yTx (fun k => zgI A2 31 0 k) T) 1 99 = yBw T u kd (zgI A 10 i 8) (yTc (zgI A 10 i 8) (yLf P sn 0)) (nI (yLf P sn 1)) := by
      have e : yBw T u kd (zgI A 10 i 8) (yTc (zgI A 10 i 8) (yLf P sn 0)) (nI (yLf P sn 1)) = yHe (yTx (yNb u kd (zgI A 10 i 8) (yTc (zgI A 10 i 8) (yLf P sn 0)) (nI (yLf P sn 1))) T) 1 99 := if_neg c0
      rw [e, yTx_congr (yNb_of h0 hA1 f2 v2) hw]
    have s5 : zgo false (d + 5) 170 0 [zr 31 0, zi 5, zi u] [] A0 = some (none, A1) := by
      rw [hA1]
      exact se31n false (d + 5) 0 5 u A0 (by omega)
    refine ⟨A3, ?_, zFo_trans (zFo_mono f12 (fun a b c y => Or.inl y)) (zFo_mono f3 (fun a b c y => by unfold yFu at y; unfold gA3; omega))⟩
    rw [B47_0, if_neg (mt l0.mp c0), e0, zbsome, zpu0, B47_19, s5, zbsome, zpu0, B47_28, e2, zbsome, zpu0, B47_32, e3, zbsome, zpu1, B47_43, S171y _ _ _ _ _ _ (by decide), zbsome, zpu1, B47_49, ev]
/-- 'betNow' -/
theorem K46 (d i bi kd : Nat) (u1 u2 : zV) (T : List (List yOp × List yOp)) {A B : zM} {P C g : Nat} {sn : Nat → Nat} (hn : yNm i A B P C g sn) (r11 : zgR A 5 0 11 = (10, i)) (r12 : zgR A 5 0 12 = (2, bi)) (hk : zgI A 2 bi 0 = nI kd) (hk7 : kd ≤ 7) (hw : yWT T) (hl : yLn T) (hc : yCl A 2 T) : ∃ A', zgo false (d + 7) 46 0 [zr 5 0, u1, u2] [] A = some (some (zi (yBe T (zgI A 2 bi 1 / 100) kd (zgI A 2 bi 2) (zgI A 10 i 8) (yTc (zgI A 10 i 8) (yLf P sn 0)) (nI (yLf P sn 1)))), A') ∧ zFo gA3 A A' := by
  have z2 : ∀ A1, zgR A1 5 0 12 = (2, bi) → Nat.beq (zgR A1 5 0 12).1 2 = true := fun A1 e => by rw [e]; rfl
  have l4 : nI kd = 4 ↔ kd = 4 := nI_eq (b := 4) (by omega) (by omega)
  obtain ⟨tc, htc⟩ : ∃ tc, tc = yTc (zgI A 10 i 8) (yLf P sn 0) := ⟨_, rfl⟩
  obtain ⟨W, hW⟩ : ∃ W, W = (if kd = 4 then 1 else yBw T (zgI A 2 bi 1 / 100) kd (zgI A 10 i 8) tc (nI (yLf P sn 1))) := ⟨_, rfl⟩
  have k31 : ∃ A1, zgo false (d + 7) 46 0 [zr 5 0, u1, u2] [] A = zgo false (d + 7) 46 31 [zr 5 0, zi (zgI A 2 bi 1 / 100), u2] [zi W] A1 ∧ zFo gA3 A A1 := by
    have n100 : ¬ (100 : Int32) = 0 := by decide
    have e0 : zgI A 2 (zgR A 5 0 12).2 0 = nI kd := by rw [r12]; exact hk
    have e1 : zgI A 2 (zgR A 5 0 12).2 1 = zgI A 2 bi 1 := by rw [r12]
    by_cases c4 : kd = 4
    · refine ⟨A, ?_, zFo_refl _ A⟩
      rw [B46_0, z2 A r12, cond_true, if_neg n100, cond_true, e0, if_pos (l4.mpr c4), e1, hW, if_pos c4]
    · obtain ⟨A1, w1, w2⟩ := K47 d i bi kd (zgI A 2 bi 1 / 100) T hn r11 r12 hk hk7 hw hl hc
      refine ⟨A1, ?_, w2⟩
      rw [B46_0, z2 A r12, cond_true, if_neg n100, cond_true, e0, if_neg (mt l4.mp c4), e1, w1, zbsome, zpu1, hW, if_neg c4, htc]
  obtain ⟨A1, k31, f1⟩ := k31
  refine ⟨A1, ?_, f1⟩
  have s12 : zgR A1 5 0 12 = (2, bi) := ((f1 5 0 12 (by unfold gA3; omega)).2.2).trans r12
  have s11 : zgR A1 5 0 11 = (10, i) := ((f1 5 0 11 (by unfold gA3; omega)).2.2).trans r11
  have z2b : (Nat.beq (zgR A1 5 0 12).1 2 && true) = true := by rw [s12]; rfl
  have z10 : (Nat.beq (zgR A1 5 0 11).1 10 && true) = true := by rw [s11]; rfl
  have hn1 : yNm i A1 B P C g sn := yNm_fr hn (fun s _ _ => (f1 10 i s (by unfold gA3; omega)).1) (fun s _ => (f1 47 i s (by unfold gA3; omega)).1) (fun _ _ _ _ => rfl) (fun _ _ => rfl)
  have e114 : zgo false (d + 6) 114 0 [zr 10 i, zu] [] A1 = some (some (zi tc), A1) := by rw [S114 (d + 6) i zu (yNm_A hn1), (f1 10 i 8 (by unfold gA3; omega)).1, htc]
  have ec : zgI A1 2 (zgR A1 5 0 12).2 2 = zgI A 2 bi 2 := by rw [s12]; exact (f1 2 bi 2 (by unfold gA3; omega)).1
  have k61 : ∀ w, zgo false (d + 7) 46 61 [zr 5 0, zi (zgI A 2 bi 1 / 100), zi w] [] A1 = some (some (zi (if zgI A 2 bi 1 / 100 ≤ w then zgI A 2 bi 1 / 100 else w)), A1) := fun w => by
    rw [B46_61, B46_71, B46_71]
    by_cases c : zgI A 2 bi 1 / 100 ≤ w
    · rw [if_pos c, if_pos c]
    · rw [if_neg c, if_neg c]
  rw [k31, B46_31, z2b, cond_true, show zp (zgR A1 5 0 12) = zr 2 bi from by rw [s12], K11 _ bi kd (((f1 2 bi 0 (by unfold gA3; omega)).1).trans hk) hk7, zbsome, zpu1, B46_39, ← htc]
  unfold yBe
  rw [← hW]
  by_cases c1 : kd = 5 ∨ kd = 7
  · rw [decide_eq_true c1, if_neg (show ¬ bI true = 0 by decide), z10, cond_true, show zp (zgR A1 5 0 11) = zr 10 i from by rw [s11], e114, zbsome, zpu1, B46_49, z2 A1 s12, cond_true, ec]
    by_cases c2 : zgI A 2 bi 2 ≤ tc
    · rw [if_pos c2, k61, if_neg (show ¬ ((kd = 5 ∨ kd = 7) ∧ ¬ zgI A 2 bi 2 ≤ tc) from fun w => w.2 c2)]
    · rw [if_neg c2, k61, if_pos (show (kd = 5 ∨ kd = 7) ∧ ¬ zgI A 2 bi 2 ≤ tc from ⟨c1, c2⟩)]
  · rw [decide_eq_false c1, if_pos (show bI false = 0 from rfl), k61, if_neg (show ¬ ((kd = 5 ∨ kd = 7) ∧ ¬ zgI A 2 bi 2 ≤ tc) from fun w => c1 w.1)]
/-- 'betOf' -/
theorem K269 (d i p kd : Nat) (u2 : zV) (T : List (List yOp × List yOp)) {A B : zM} {P C g : Nat} {sn : Nat → Nat} (hn : yNm i A B P C g sn) (hp : p < 10) (hk : zgI B 70 0 p = nI kd) (hk7 : kd ≤ 7) (hw : yWT T) (hc : yMt B 2 T) : ∃ B', zgo false (d + 6) 269 0 [zr 13 0, zi (nI p), u2] [] B = some (some (zi (yBe T (zgI B 71 0 p / 100) kd (zgI B 72 0 p) (zgI B 13 0 8) (yTc (zgI B 13 0 8) (yLf P sn 0)) (nI (yLf P sn 1)))), B') ∧ zFo gB3 B B' := by
  have z25 : zin 2 5 = true := rfl
  have t2 : (2 : Int32).toNatClampNeg = 2 := rfl
  have z5 : zin 5 12 = true := rfl
  have t5 : (5 : Int32).toNatClampNeg = 5 := rfl
  have n100 : ¬ (100 : Int32) = 0 := by decide
  have zp10 : zin (nI p) 10 = true := zin_nI (by omega) (by omega)
  have cp : (nI p).toNatClampNeg = p := nI_clamp (by omega)
  have l4 : nI kd = 4 ↔ kd = 4 := nI_eq (b := 4) (by omega) (by omega)
  obtain ⟨tc, htc⟩ : ∃ tc, tc = yTc (zgI B 13 0 8) (yLf P sn 0) := ⟨_, rfl⟩
  have l0 : zgI B 65 0 2 ≤ 0 ↔ T = [] := by
    rw [hc.1]
    have := hc.2.1
    have e : nI T.length ≤ 0 ↔ T.length ≤ 0 := nI_leI (b := 0) (by omega) (by omega)
    rw [e, Nat.le_zero]
    exact List.length_eq_zero_iff
  have k47 : ∃ B1, zgo false (d + 6) 269 0 [zr 13 0, zi (nI p), u2] [] B = zgo false (d + 6) 269 47 [zr 13 0, zi (nI p), zi (yBw T (zgI B 71 0 p / 100) kd (zgI B 13 0 8) tc (nI (yLf P sn 1)))] [] B1 ∧ zFo gB3 B B1 := by
    by_cases c0 : T = []
    · refine ⟨B, ?_, zFo_refl _ B⟩
      have e : yBw T (zgI B 71 0 p / 100) kd (zgI B 13 0 8) tc (nI (yLf P sn 1)) = 1 := if_pos c0
      rw [B269_0, if_pos z25, t2, if_pos (l0.mpr c0), e]
    · obtain ⟨B0, e0, f0, h0⟩ := S228 (d + 5) zu B
      obtain ⟨B1, hB1⟩ : ∃ B1, B1 = zsI B0 68 0 5 (zgI B 71 0 p / 100) := ⟨_, rfl⟩
      have f1 : zFo (fun a b c => a = 68 ∧ b = 0) B B1 := by
        rw [hB1]
        exact zFo_sI f0 ⟨rfl, rfl⟩
      have hn1 : yNm i A B1 P C g sn := yNm_fr hn (fun _ _ _ => rfl) (fun _ _ => rfl) (fun s _ _ _ => (f1 13 0 s (by omega)).1) (fun s _ => (f1 56 0 s (by omega)).1)
      obtain ⟨B2, e2, f2, v2⟩ := K265 (d + 2) i p kd zu hn1 hp (((f1 70 0 p (by omega)).1).trans hk) hk7
      have e2 : zgo false (d + 5) 265 0 [zr 13 0, zi (nI p), zu] [] B1 = some (none, B2) := e2
      rw [(f1 13 0 8 (by omega)).1] at v2
      have f12 : zFo (fun a b c => a = 68 ∧ b = 0) B B2 := zFo_trans f1 (zFo_mono f2 (fun a b c y => ⟨y.1, y.2.1⟩))
      obtain ⟨B3, e3, f3⟩ := S227 (d + 3) 2 zu zu T B2 (by omega) hw (yMt_fr (by omega) (fun k s hk => (f12 k 0 s (by omega)).1) hc)
      have e3 : zgo false (d + 5) 227 0 [zr 13 0, zi 2, zu, zu] [] B2 = some (some (zi (yTx (fun k => zgI B2 68 0 k) T)), B3) := e3
      refine ⟨B3, ?_, zFo_trans (zFo_mono f12 (fun a b c y => ⟨y.2, Or.inl y.1⟩)) (zFo_mono f3 (fun a b c y => by unfold yFm at y; unfold gB3; omega))⟩
      have e : yBw T (zgI B 71 0 p / 100) kd (zgI B 13 0 8) tc (nI (yLf P sn 1)) = yHe (yTx (yNb (zgI B 71 0 p / 100) kd (zgI B 13 0 8) tc (nI (yLf P sn 1))) T) 1 99 := if_neg c0
      have e71 : zgI B0 71 0 p = zgI B 71 0 p := (f0 71 0 p (by omega)).1
      rw [B269_0, if_pos z25, t2, if_neg (mt l0.mp c0), e0, zbsome, zpu0, B269_15, if_pos zp10, if_neg n100, if_pos z5, t5, cp, e71, ← hB1, e2, zbsome, zpu0, B269_35, e3, zbsome, zpu1, B269_40, S194y, zbsome, zpu1, B269_46, e, htc, yTx_congr (yNb_of h0 hB1 f2 v2) hw]
  obtain ⟨B1, k47, f1⟩ := k47
  refine ⟨B1, ?_, f1⟩
  have g70 : zgI B1 70 0 p = nI kd := ((f1 70 0 p (by unfold gB3; omega)).1).trans hk
  have g71 : zgI B1 71 0 p = zgI B 71 0 p := (f1 71 0 p (by unfold gB3; omega)).1
  have g72 : zgI B1 72 0 p = zgI B 72 0 p := (f1 72 0 p (by unfold gB3; omega)).1
  have hn1 : yNm i A B1 P C g sn := yNm_fr hn (fun _ _ _ => rfl) (fun _ _ => rfl) (fun s _ _ _ => (f1 13 0 s (by unfold gB3; omega)).1) (fun s _ => (f1 56 0 s (by unfold gB3; omega)).1)
  have e201 : zgo false (d + 5) 201 0 [zr 13 0] [] B1 = some (some (zi tc), B1) := by
    rw [htc, ← (f1 13 0 8 (by unfold gB3; omega)).1]
    exact S201 (d + 3) i (yNm_B hn1)
  have k87 : ∀ w, zgo false (d + 6) 269 87 [zr 13 0, zi (nI p), zi w] [] B1 = some (some (zi (if zgI B 71 0 p / 100 ≤ w then zgI B 71 0 p / 100 else w)), B1) := fun w => by
    rw [B269_87, if_pos zp10, if_neg n100, cp, g71, if_pos zp10, if_neg n100, B269_113, B269_113]
    by_cases c : zgI B 71 0 p / 100 ≤ w
    · rw [if_pos c, if_pos c]
    · rw [if_neg c, if_neg c]
  obtain ⟨W, hW⟩ : ∃ W, W = (if kd = 4 then 1 else yBw T (zgI B 71 0 p / 100) kd (zgI B 13 0 8) tc (nI (yLf P sn 1))) := ⟨_, rfl⟩
  have k59 : zgo false (d + 6) 269 47 [zr 13 0, zi (nI p), zi (yBw T (zgI B 71 0 p / 100) kd (zgI B 13 0 8) tc (nI (yLf P sn 1)))] [] B1 = zgo false (d + 6) 269 59 [zr 13 0, zi (nI p), zi W] [] B1 := by
    rw [B269_47, if_pos zp10, cp, g70, hW]
    by_cases c : kd = 4
    · rw [if_pos (l4.mpr c), if_pos c]
    · rw [if_neg (mt l4.mp c), if_neg c]
  rw [k47, k59, B269_59, if_pos zp10, cp, g70, S232, zbsome, zpu1, zund5 hk7, B269_69, ← htc]
  unfold yBe
  rw [← hW]
  by_cases c1 : kd = 5 ∨ kd = 7
  · rw [decide_eq_true c1, if_neg (show ¬ bI true = 0 by decide), e201, zbsome, zpu1, B269_76, if_pos zp10, cp, g72]
    by_cases c2 : zgI B 72 0 p ≤ tc
    · rw [if_pos c2, k87, if_neg (show ¬ ((kd = 5 ∨ kd = 7) ∧ ¬ zgI B 72 0 p ≤ tc) from fun w => w.2 c2)]
    · rw [if_neg c2, k87, if_pos (show (kd = 5 ∨ kd = 7) ∧ ¬ zgI B 72 0 p ≤ tc from ⟨c1, c2⟩)]
  · rw [decide_eq_false c1, if_pos (show bI false = 0 from rfl), k87, if_neg (show ¬ ((kd = 5 ∨ kd = 7) ∧ ¬ zgI B 72 0 p ≤ tc) from fun w => c1 w.1)]
/-! points -/
def yNq (b lb w rr c t : Int32) (k : Nat) : Int32 := if k = 10 then t else if k = 9 then c else if k = 8 then rr else if k = 7 then w else if k = 6 then lb else if k = 5 then b else 0
def yPt (T : List (List yOp × List yOp)) (b lb w rr c t : Int32) : Int32 := if T = [] then 0 else yHe (yTx (yNq b lb w rr c t) T) 0 99
theorem K50 (d di bi : Nat) (x : Int32) (T : List (List yOp × List yOp)) {A : zM} (r12 : zgR A 5 0 12 = (2, bi)) (r13 : zgR A 5 0 13 = (4, di)) (hw : yWT T) (hl : yLn T) (hc : yCl A 3 T) : ∃ A', zgo false (d + 6) 50 0 [zr 5 0, zi x] [] A = some (some (zi (yPt T (zgI A 4 di 9) (zgI A 2 bi 5) x (zgI A 4 di 10 / 100) (zgI A 4 di 14) (zgI A 4 di 15))), A') ∧ zFo gA3 A A' := by
  have l0 : zgI A 11 3 2 = 0 ↔ T = [] := by
    rw [hc.1, ← yFl_nil T]
    exact nI_eq (b := 0) (by have := hc.2.1; omega) (by omega)
  by_cases c0 : T = []
  · refine ⟨A, ?_, zFo_refl _ A⟩
    have e : yPt T (zgI A 4 di 9) (zgI A 2 bi 5) x (zgI A 4 di 10 / 100) (zgI A 4 di 14) (zgI A 4 di 15) = 0 := if_pos c0
    rw [B50_0, if_pos (l0.mpr c0), e]
  · obtain ⟨A0, e0, f0, h0⟩ := S121 (d + 4) zu A
    have e0 : zgo false (d + 5) 121 0 [zr 31 0, zu] [] A = some (none, A0) := e0
    have st : ∀ (M : zM) (j : Nat) (x : Int32), j < 12 → zgo false (d + 5) 170 0 [zr 31 0, zi (nI j), zi x] [] M = some (none, zsI M 31 0 j x) := fun M j x hj => se31n false (d + 5) 0 j x M hj
    obtain ⟨M1, hM1⟩ : ∃ M, M = zsI A0 31 0 5 (zgI A 4 di 9) := ⟨_, rfl⟩
    obtain ⟨M2, hM2⟩ : ∃ M, M = zsI M1 31 0 6 (zgI A 2 bi 5) := ⟨_, rfl⟩
    obtain ⟨M3, hM3⟩ : ∃ M, M = zsI M2 31 0 7 x := ⟨_, rfl⟩
    obtain ⟨M4, hM4⟩ : ∃ M, M = zsI M3 31 0 8 (zgI A 4 di 10 / 100) := ⟨_, rfl⟩
    obtain ⟨M5, hM5⟩ : ∃ M, M = zsI M4 31 0 9 (zgI A 4 di 14) := ⟨_, rfl⟩
    obtain ⟨M6, hM6⟩ : ∃ M, M = zsI M5 31 0 10 (zgI A 4 di 15) := ⟨_, rfl⟩
    have g1 : zFo (fun a b c => a = 31 ∧ b = 0) A M1 := by
      rw [hM1]
      exact zFo_sI f0 ⟨rfl, rfl⟩
    have g2 : zFo (fun a b c => a = 31 ∧ b = 0) A M2 := by
      rw [hM2]
      exact zFo_sI g1 ⟨rfl, rfl⟩
    have g3 : zFo (fun a b c => a = 31 ∧ b = 0) A M3 := by
      rw [hM3]
      exact zFo_sI g2 ⟨rfl, rfl⟩
    have g4 : zFo (fun a b c => a = 31 ∧ b = 0) A M4 := by
      rw [hM4]
      exact zFo_sI g3 ⟨rfl, rfl⟩
    have g5 : zFo (fun a b c => a = 31 ∧ b = 0) A M5 := by
      rw [hM5]
      exact zFo_sI g4 ⟨rfl, rfl⟩
    have g6 : zFo (fun a b c => a = 31 ∧ b = 0) A M6 := by
      rw [hM6]
      exact zFo_sI g5 ⟨rfl, rfl⟩
    have s12 : ∀ M, zFo (fun a b c => a = 31 ∧ b = 0) A M → zgR M 5 0 12 = (2, bi) := fun M f => ((f 5 0 12 (by omega)).2.2).trans r12
    have s13 : ∀ M, zFo (fun a b c => a = 31 ∧ b = 0) A M → zgR M 5 0 13 = (4, di) := fun M f => ((f 5 0 13 (by omega)).2.2).trans r13
    have z2 : ∀ M, zFo (fun a b c => a = 31 ∧ b = 0) A M → Nat.beq (zgR M 5 0 12).1 2 = true := fun M f => by rw [s12 M f]; rfl
    have z4 : ∀ M, zFo (fun a b c => a = 31 ∧ b = 0) A M → Nat.beq (zgR M 5 0 13).1 4 = true := fun M f => by rw [s13 M f]; rfl
    have e4 : ∀ M s, zFo (fun a b c => a = 31 ∧ b = 0) A M → zgI M 4 (zgR M 5 0 13).2 s = zgI A 4 di s := fun M s f => by
      rw [s13 M f]
      exact (f 4 di s (by omega)).1
    have e25 : ∀ M s, zFo (fun a b c => a = 31 ∧ b = 0) A M → zgI M 2 (zgR M 5 0 12).2 s = zgI A 2 bi s := fun M s f => by
      rw [s12 M f]
      exact (f 2 bi s (by omega)).1
    have hv : ∀ k, k < 12 → zgI M6 31 0 k = yNq (zgI A 4 di 9) (zgI A 2 bi 5) x (zgI A 4 di 10 / 100) (zgI A 4 di 14) (zgI A 4 di 15) k := fun k hk => by
      rw [hM6, hM5, hM4, hM3, hM2, hM1]
      simp only [zgI_sI, eq_self, true_and, h0 k hk]
      rfl
    obtain ⟨A3, e3, f3⟩ := S124 (d + 2) 3 zu zu zu T M6 hw hl (yCl_fr hc (g6 11 3 2 (by omega)).1 (fun s => (g6 48 3 s (by omega)).1))
    have e3 : zgo false (d + 5) 124 0 [zr 11 3, zr 31 0, zu, zu, zu] [] M6 = some (some (zi (yTx (fun k => zgI M6 31 0 k) T)), A3) := e3
    have e : yPt T (zgI A 4 di 9) (zgI A 2 bi 5) x (zgI A 4 di 10 / 100) (zgI A 4 di 14) (zgI A 4 di 15) = yHe (yTx (yNq (zgI A 4 di 9) (zgI A 2 bi 5) x (zgI A 4 di 10 / 100) (zgI A 4 di 14) (zgI A 4 di 15)) T) 0 99 := if_neg c0
    have n100 : ¬ (100 : Int32) = 0 := by decide
    have t5 : zgo false (d + 5) 170 0 [zr 31 0, zi 5, zi (zgI A 4 di 9)] [] A0 = some (none, M1) := by rw [hM1]; exact st A0 5 _ (by omega)
    have t6 : zgo false (d + 5) 170 0 [zr 31 0, zi 6, zi (zgI A 2 bi 5)] [] M1 = some (none, M2) := by rw [hM2]; exact st M1 6 _ (by omega)
    have t7 : zgo false (d + 5) 170 0 [zr 31 0, zi 7, zi x] [] M2 = some (none, M3) := by rw [hM3]; exact st M2 7 _ (by omega)
    have t8 : zgo false (d + 5) 170 0 [zr 31 0, zi 8, zi (zgI A 4 di 10 / 100)] [] M3 = some (none, M4) := by rw [hM4]; exact st M3 8 _ (by omega)
    have t9 : zgo false (d + 5) 170 0 [zr 31 0, zi 9, zi (zgI A 4 di 14)] [] M4 = some (none, M5) := by rw [hM5]; exact st M4 9 _ (by omega)
    have t10 : zgo false (d + 5) 170 0 [zr 31 0, zi 10, zi (zgI A 4 di 15)] [] M5 = some (none, M6) := by rw [hM6]; exact st M5 10 _ (by omega)
    refine ⟨A3, ?_, zFo_trans (zFo_mono g6 (fun a b c y => Or.inl y)) (zFo_mono f3 (fun a b c y => by unfold yFu at y; unfold gA3; omega))⟩
    rw [B50_0, if_neg (mt l0.mp c0), e0, zbsome, zpu0, B50_19, z4 A0 f0, cond_true, e4 A0 9 f0, t5, zbsome, zpu0, B50_34, z2 M1 g1, cond_true, e25 M1 5 g1, t6, zbsome, zpu0, B50_50, t7, zbsome, zpu0, B50_60, z4 M3 g3, cond_true, if_neg n100, e4 M3 10 g3, t8, zbsome, zpu0, B50_79, z4 M4 g4, cond_true, e4 M4 14 g4, t9, zbsome, zpu0, B50_95, z4 M5 g5, cond_true, e4 M5 15 g5, t10, zbsome, zpu0, B50_111, e3, zbsome, zpu1, B50_122, S171y _ _ _ _ _ _ (by decide), zbsome, zpu1, B50_128, e, yTx_congr hv hw]
theorem K270 (d p h : Nat) (x3 x4 : Int32) (T : List (List yOp × List yOp)) {B : zM} (hp : p < 10) (hh : h < 60) (hw : yWT T) (hc : yMt B 3 T) : ∃ B', zgo false (d + 6) 270 0 [zr 13 0, zi (nI p), zi (nI h), zi x3, zi x4] [] B = some (some (zi (yPt T (zgI B 83 0 h) (zgI B 75 0 p) x4 (zgI B 84 0 h / 100) x3 (zgI B 86 0 h))), B') ∧ zFo gB3 B B' := by
  have z35 : zin 3 5 = true := rfl
  have t3 : (3 : Int32).toNatClampNeg = 3 := rfl
  have n100 : ¬ (100 : Int32) = 0 := by decide
  have zp10 : zin (nI p) 10 = true := zin_nI (by omega) (by omega)
  have cp : (nI p).toNatClampNeg = p := nI_clamp (by omega)
  have zh60 : zin (nI h) 60 = true := zin_nI (by omega) (by omega)
  have ch : (nI h).toNatClampNeg = h := nI_clamp (by omega)
  have l0 : zgI B 65 0 3 = 0 ↔ T = [] := by
    rw [hc.1]
    have := hc.2.1
    have e : nI T.length = 0 ↔ T.length = 0 := nI_eq (b := 0) (by omega) (by omega)
    rw [e]
    exact List.length_eq_zero_iff
  by_cases c0 : T = []
  · refine ⟨B, ?_, zFo_refl _ B⟩
    have e : yPt T (zgI B 83 0 h) (zgI B 75 0 p) x4 (zgI B 84 0 h / 100) x3 (zgI B 86 0 h) = 0 := if_pos c0
    rw [B270_0, if_pos z35, t3, if_pos (l0.mpr c0), e]
  · obtain ⟨B0, e0, f0, h0⟩ := S228 (d + 5) zu B
    have z5 : zin 5 12 = true := rfl
    have z6 : zin 6 12 = true := rfl
    have z7 : zin 7 12 = true := rfl
    have z8 : zin 8 12 = true := rfl
    have z9 : zin 9 12 = true := rfl
    have z10 : zin 10 12 = true := rfl
    have t5 : (5 : Int32).toNatClampNeg = 5 := rfl
    have t6 : (6 : Int32).toNatClampNeg = 6 := rfl
    have t7 : (7 : Int32).toNatClampNeg = 7 := rfl
    have t8 : (8 : Int32).toNatClampNeg = 8 := rfl
    have t9 : (9 : Int32).toNatClampNeg = 9 := rfl
    have t10 : (10 : Int32).toNatClampNeg = 10 := rfl
    obtain ⟨M1, hM1⟩ : ∃ M, M = zsI B0 68 0 5 (zgI B 83 0 h) := ⟨_, rfl⟩
    obtain ⟨M2, hM2⟩ : ∃ M, M = zsI M1 68 0 6 (zgI B 75 0 p) := ⟨_, rfl⟩
    obtain ⟨M3, hM3⟩ : ∃ M, M = zsI M2 68 0 7 x4 := ⟨_, rfl⟩
    obtain ⟨M4, hM4⟩ : ∃ M, M = zsI M3 68 0 8 (zgI B 84 0 h / 100) := ⟨_, rfl⟩
    obtain ⟨M5, hM5⟩ : ∃ M, M = zsI M4 68 0 9 x3 := ⟨_, rfl⟩
    obtain ⟨M6, hM6⟩ : ∃ M, M = zsI M5 68 0 10 (zgI B 86 0 h) := ⟨_, rfl⟩
    have g1 : zFo (fun a b c => a = 68 ∧ b = 0) B M1 := by
      rw [hM1]
      exact zFo_sI f0 ⟨rfl, rfl⟩
    have g2 : zFo (fun a b c => a = 68 ∧ b = 0) B M2 := by
      rw [hM2]
      exact zFo_sI g1 ⟨rfl, rfl⟩
    have g3 : zFo (fun a b c => a = 68 ∧ b = 0) B M3 := by
      rw [hM3]
      exact zFo_sI g2 ⟨rfl, rfl⟩
    have g4 : zFo (fun a b c => a = 68 ∧ b = 0) B M4 := by
      rw [hM4]
      exact zFo_sI g3 ⟨rfl, rfl⟩
    have g5 : zFo (fun a b c => a = 68 ∧ b = 0) B M5 := by
      rw [hM5]
      exact zFo_sI g4 ⟨rfl, rfl⟩
    have g6 : zFo (fun a b c => a = 68 ∧ b = 0) B M6 := by
      rw [hM6]
      exact zFo_sI g5 ⟨rfl, rfl⟩
    have hv : ∀ k, k < 12 → zgI M6 68 0 k = yNq (zgI B 83 0 h) (zgI B 75 0 p) x4 (zgI B 84 0 h / 100) x3 (zgI B 86 0 h) k := fun k hk => by
      rw [hM6, hM5, hM4, hM3, hM2, hM1]
      simp only [zgI_sI, eq_self, true_and, h0 k hk]
      rfl
    obtain ⟨B3, e3, f3⟩ := S227 (d + 3) 3 zu zu T M6 (by omega) hw (yMt_fr (by omega) (fun k s hk => (g6 k 0 s (by omega)).1) hc)
    have e3 : zgo false (d + 5) 227 0 [zr 13 0, zi 3, zu, zu] [] M6 = some (some (zi (yTx (fun k => zgI M6 68 0 k) T)), B3) := e3
    have e : yPt T (zgI B 83 0 h) (zgI B 75 0 p) x4 (zgI B 84 0 h / 100) x3 (zgI B 86 0 h) = yHe (yTx (yNq (zgI B 83 0 h) (zgI B 75 0 p) x4 (zgI B 84 0 h / 100) x3 (zgI B 86 0 h)) T) 0 99 := if_neg c0
    refine ⟨B3, ?_, zFo_trans (zFo_mono g6 (fun a b c y => ⟨y.2, Or.inl y.1⟩)) (zFo_mono f3 (fun a b c y => by unfold yFm at y; unfold gB3; omega))⟩
    have a83 : zgI B0 83 0 h = zgI B 83 0 h := (f0 83 0 h (by omega)).1
    have a75 : zgI M1 75 0 p = zgI B 75 0 p := (g1 75 0 p (by omega)).1
    have a84 : zgI M3 84 0 h = zgI B 84 0 h := (g3 84 0 h (by omega)).1
    have a86 : zgI M5 86 0 h = zgI B 86 0 h := (g5 86 0 h (by omega)).1
    rw [B270_0, if_pos z35, t3, if_neg (mt l0.mp c0), e0, zbsome, zpu0, B270_15, if_pos zh60, if_pos z5, if_pos zp10, if_pos z6, t5, t6, ch, cp, a83, ← hM1, a75, ← hM2, B270_40, if_pos z7, if_pos zh60, if_neg n100, if_pos z8, t7, t8, ch, ← hM3, a84, ← hM4, B270_65, if_pos z9, if_pos zh60, if_pos z10, t9, t10, ch, ← hM5, a86, ← hM6, B270_86, e3, zbsome, zpu1, B270_91, S194y, zbsome, zpu1, B270_97, e, yTx_congr hv hw]
