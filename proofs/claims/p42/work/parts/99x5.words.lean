/-! ===== the law's three texts, and what they say of a bet and of points ===== -/
def su1 (s : Nat) : Nat := [118, 62, 57, 63, 45, 49, 59, 118, 61, 49, 63, 45, 49, 59, 118, 60, 55].getD s 0
def su2 (s : Nat) : Nat := [49, 43, 116, 42, 116, 43, 115, 47, 57, 43, 98, 47, 53, 48].getD s 0
def su3 (s : Nat) : Nat := [98, 43, 108, 42, 50, 43, 119, 42, 51, 43, 40, 114, 60, 48, 41, 42, 52, 43, 40, 116, 62, 48, 41, 42, 53].getD s 0
def sT1 : List (List yOp × List yOp) := [([.inr (.inl 4), .inl 9, .inr (.inr 62)], [.inl 1, .inr (.inr 1)]), ([.inr (.inl 4), .inl 1, .inr (.inr 61)], [.inl 1, .inr (.inr 1)]), ([], [.inr (.inl 4), .inl 7, .inr (.inr 60)])]
def sT2 : List (List yOp × List yOp) := [([], [.inl 1, .inr (.inl 10), .inr (.inl 10), .inr (.inr 42), .inr (.inr 43), .inr (.inl 11), .inl 9, .inr (.inr 47), .inr (.inr 43), .inr (.inl 5), .inl 50, .inr (.inr 47), .inr (.inr 43)])]
def sT3 : List (List yOp × List yOp) := [([], [.inr (.inl 5), .inr (.inl 6), .inl 2, .inr (.inr 42), .inr (.inr 43), .inr (.inl 7), .inl 3, .inr (.inr 42), .inr (.inr 43), .inr (.inl 8), .inl 0, .inr (.inr 60), .inl 4, .inr (.inr 42), .inr (.inr 43), .inr (.inl 10), .inl 0, .inr (.inr 62), .inl 5, .inr (.inr 42), .inr (.inr 43)])]
theorem su1_p : sTx 17 su1 100 0 0 = some (yFl sT1) := by decide +kernel
theorem su2_p : sTx 14 su2 100 0 0 = some (yFl sT2) := by decide +kernel
theorem su3_p : sTx 25 su3 100 0 0 = some (yFl sT3) := by decide +kernel
theorem su1_b : sBy su1 17 := by unfold sBy; decide +kernel
theorem su2_b : sBy su2 14 := by unfold sBy; decide +kernel
theorem su3_b : sBy su3 25 := by unfold sBy; decide +kernel
theorem su1_l : ∀ s, s < 17 → su1 s < 256 := by decide
theorem su2_l : ∀ s, s < 14 → su2 s < 256 := by decide
theorem su3_l : ∀ s, s < 25 → su3 s < 256 := by decide
theorem sT1_w : yWT sT1 := by
  intro q hq
  unfold sT1 at hq
  simp only [List.mem_cons, List.not_mem_nil, or_false] at hq
  rcases hq with rfl | rfl | rfl
  · exact ⟨Or.inr ⟨by simp [yOk, ySgn], fun nm st => ⟨_, rfl⟩⟩, ⟨by simp [yOk, ySgn], fun nm st => ⟨_, rfl⟩⟩⟩
  · exact ⟨Or.inr ⟨by simp [yOk, ySgn], fun nm st => ⟨_, rfl⟩⟩, ⟨by simp [yOk, ySgn], fun nm st => ⟨_, rfl⟩⟩⟩
  · exact ⟨Or.inl rfl, ⟨by simp [yOk, ySgn], fun nm st => ⟨_, rfl⟩⟩⟩
theorem sT2_w : yWT sT2 := by
  intro q hq
  unfold sT2 at hq
  rw [List.mem_singleton] at hq
  subst hq
  exact ⟨Or.inl rfl, ⟨by simp [yOk, ySgn], fun nm st => ⟨_, rfl⟩⟩⟩
theorem sT3_w : yWT sT3 := by
  intro q hq
  unfold sT3 at hq
  rw [List.mem_singleton] at hq
  subst hq
  exact ⟨Or.inl rfl, ⟨by simp [yOk, ySgn], fun nm st => ⟨_, rfl⟩⟩⟩
theorem sT1_n : yLn sT1 := by unfold yLn sT1; decide
theorem sT2_n : yLn sT2 := by unfold yLn sT2; decide
theorem sT3_n : yLn sT3 := by unfold yLn sT3; decide
theorem sT1_z : (yFl sT1).length ≤ 128 := by decide
theorem sT2_z : (yFl sT2).length ≤ 128 := by decide
theorem sT3_z : (yFl sT3).length ≤ 128 := by decide
theorem sT2_v (nm : Nat → Int32) : yTx nm sT2 = 1 + nm 10 * nm 10 + nm 11 / 9 + nm 5 / 50 := (if_pos rfl).trans (yVal_of rfl)
theorem sT3_v (nm : Nat → Int32) : yTx nm sT3 = nm 5 + nm 6 * 2 + nm 7 * 3 + (if nm 8 < 0 then 1 else 0) * 4 + (if 0 < nm 10 then 1 else 0) * 5 := (if_pos rfl).trans (yVal_of rfl)
theorem sBw (u : Int32) (kd : Nat) (ct tc la : Int32) : yBw sT2 u kd ct tc la = yHe (1 + (if ySee kd = true then tc else 0) * (if ySee kd = true then tc else 0) + (if kd = 3 then la else 0) / 9 + u / 50) 1 99 := by
  unfold yBw
  rw [if_neg (by unfold sT2; simp), sT2_v]
  rfl
theorem yHe_1 (x : Int32) : 1 ≤ yHe x 1 99 ∧ yHe x 1 99 ≤ 99 := by
  unfold yHe
  by_cases c : x < 1
  · rw [if_pos c]; decide
  · rw [if_neg c]
    by_cases c2 : 99 < x
    · rw [if_pos c2]; decide
    · rw [if_neg c2]; exact ⟨z_nlt_le c, z_nlt_le c2⟩
theorem yHe_0 (x : Int32) : 0 ≤ yHe x 0 99 ∧ yHe x 0 99 ≤ 99 := by
  unfold yHe
  by_cases c : x < 0
  · rw [if_pos c]; decide
  · rw [if_neg c]
    by_cases c2 : 99 < x
    · rw [if_pos c2]; decide
    · rw [if_neg c2]; exact ⟨z_nlt_le c, z_nlt_le c2⟩
theorem yBe_of {T : List (List yOp × List yOp)} {u cl ct tc la W : Int32} {kd : Nat} (h : (if (kd = 5 ∨ kd = 7) ∧ ¬ cl ≤ tc then (0 : Int32) else if kd = 4 then 1 else yBw T u kd ct tc la) = W) : yBe T u kd cl ct tc la = if u ≤ W then u else W := by
  unfold yBe
  rw [h]
theorem sB4 {u : Int32} (cl ct tc la : Int32) (h : 1 ≤ u) : yBe sT2 u 4 cl ct tc la = 1 := by
  rw [yBe_of (W := 1) (by rw [if_neg (show ¬ ((4 = 5 ∨ 4 = 7) ∧ ¬ cl ≤ tc) by omega), if_pos rfl])]
  by_cases c : u ≤ 1
  · rw [if_pos c]; exact Int32.le_antisymm c h
  · rw [if_neg c]
theorem sBle {u : Int32} {T : List (List yOp × List yOp)} (kd : Nat) (cl ct tc la : Int32) : yBe T u kd cl ct tc la ≤ u := by
  unfold yBe
  generalize (if (kd = 5 ∨ kd = 7) ∧ ¬ cl ≤ tc then (0 : Int32) else if kd = 4 then 1 else yBw T u kd ct tc la) = w
  by_cases c : u ≤ w
  · rw [if_pos c]; exact Int32.le_refl u
  · rw [if_neg c]; exact Int32.le_of_lt (z_nle_lt c)
theorem sBb {u : Int32} (kd : Nat) (cl ct tc la : Int32) (h : 1 ≤ u) : 0 ≤ yBe sT2 u kd cl ct tc la ∧ yBe sT2 u kd cl ct tc la ≤ 99 := by
  have hw : ∀ w : Int32, 0 ≤ w → w ≤ 99 → 0 ≤ (if u ≤ w then u else w) ∧ (if u ≤ w then u else w) ≤ 99 := by
    intro w w1 w2
    by_cases c : u ≤ w
    · rw [if_pos c]; exact ⟨Int32.le_trans (by decide) h, Int32.le_trans c w2⟩
    · rw [if_neg c]; exact ⟨w1, w2⟩
  unfold yBe
  by_cases c1 : (kd = 5 ∨ kd = 7) ∧ ¬ cl ≤ tc
  · rw [if_pos c1]; exact hw 0 (by decide) (by decide)
  · rw [if_neg c1]
    by_cases c2 : kd = 4
    · rw [if_pos c2]; exact hw 1 (by decide) (by decide)
    · rw [if_neg c2, sBw]
      have := yHe_1 (1 + (if ySee kd = true then tc else 0) * (if ySee kd = true then tc else 0) + (if kd = 3 then la else 0) / 9 + u / 50)
      exact hw _ (Int32.le_trans (by decide) this.1) this.2
/-- the bet of one that sees, as the law has it -/
def sLb1 (u t : Int32) : Int32 := (if (if (1 : Int32) < (if ((1 + (t * t)) + (u / 50)) < (99 : Int32) then ((1 + (t * t)) + (u / 50)) else (99 : Int32)) then (if ((1 + (t * t)) + (u / 50)) < (99 : Int32) then ((1 + (t * t)) + (u / 50)) else (99 : Int32)) else (1 : Int32)) < u then (if (1 : Int32) < (if ((1 + (t * t)) + (u / 50)) < (99 : Int32) then ((1 + (t * t)) + (u / 50)) else (99 : Int32)) then (if ((1 + (t * t)) + (u / 50)) < (99 : Int32) then ((1 + (t * t)) + (u / 50)) else (99 : Int32)) else (1 : Int32)) else u)
theorem sHe1 (x : Int32) : (if (1 : Int32) < (if x < (99 : Int32) then x else (99 : Int32)) then (if x < (99 : Int32) then x else (99 : Int32)) else (1 : Int32)) = yHe x 1 99 := by
  unfold yHe
  by_cases c : x < 99
  · rw [if_pos c, if_neg (show ¬ 99 < x by grind)]
    grind
  · rw [if_neg c, if_pos (by decide), if_neg (show ¬ x < 1 by grind)]
    grind
theorem sBsee {u : Int32} {kd : Nat} (cl ct la t : Int32) (hk : kd = 2 ∨ kd = 5 ∨ kd = 7) (ht : ¬ t < cl) : yBe sT2 u kd cl ct t la = sLb1 u t := by
  have e1 : ySee kd = true := decide_eq_true (by omega)
  rw [yBe_of (W := yHe (1 + t * t + u / 50) 1 99) (by rw [if_neg (show ¬ ((kd = 5 ∨ kd = 7) ∧ ¬ cl ≤ t) from fun q => q.2 (z_nlt_le ht)), if_neg (show ¬ kd = 4 by omega), sBw, e1, if_pos rfl, if_neg (show ¬ kd = 3 by omega), show (0 : Int32) / 9 = 0 from rfl, Int32.add_zero])]
  unfold sLb1
  rw [sHe1]
  generalize yHe (1 + t * t + u / 50) 1 99 = w
  by_cases c : u ≤ w
  · rw [if_pos c, if_neg (z_le_nlt c)]
  · rw [if_neg c, if_pos (z_nle_lt c)]
theorem sB57 {u : Int32} {kd : Nat} (cl ct la t : Int32) (hk : kd = 5 ∨ kd = 7) (hu : 1 ≤ u) : yBe sT2 u kd cl ct t la = 0 ↔ t < cl := by
  by_cases c : t < cl
  · rw [yBe_of (W := 0) (if_pos ⟨hk, fun q => z_le_nlt q c⟩)]
    have hn : ¬ u ≤ 0 := fun q => absurd (Int32.le_trans hu q) (by decide)
    rw [if_neg hn]
    exact ⟨fun _ => c, fun _ => rfl⟩
  · rw [yBe_of ((if_neg (show ¬ ((kd = 5 ∨ kd = 7) ∧ ¬ cl ≤ t) from fun q => q.2 (z_nlt_le c))).trans ((if_neg (show ¬ kd = 4 by omega)).trans (sBw u kd ct t la)))]
    have h1 := yHe_1 (1 + (if ySee kd = true then t else 0) * (if ySee kd = true then t else 0) + (if kd = 3 then la else 0) / 9 + u / 50)
    generalize yHe (1 + (if ySee kd = true then t else 0) * (if ySee kd = true then t else 0) + (if kd = 3 then la else 0) / 9 + u / 50) 1 99 = w at h1
    refine ⟨fun q => ?_, fun q => absurd q c⟩
    exfalso
    by_cases c2 : u ≤ w
    · rw [if_pos c2] at q; rw [q] at hu; exact absurd hu (by decide)
    · rw [if_neg c2] at q; rw [q] at h1; exact absurd h1.1 (by decide)
theorem sBno {u : Nat} {kd : Nat} (cl ct la t : Int32) (hk : kd ≤ 1 ∨ kd = 6) (hu : u < 4950) : yBe sT2 (nI u) kd cl ct t la = if 1 + nI u / 50 < nI u then 1 + nI u / 50 else nI u := by
  have e1 : ySee kd = false := decide_eq_false (by omega)
  have e50 : nI u / 50 = nI (u / 50) := by
    rw [yI_nat, yI_nat, show (50 : Int32) = yI 50 from rfl, yI_div ⟨by omega, by omega⟩ ⟨by omega, by omega⟩ (by omega)]
    congr 1
  have es : (1 : Int32) + 0 * 0 + 0 / 9 + nI u / 50 = nI (1 + u / 50) := by
    rw [e50, show (1 : Int32) + 0 * 0 + 0 / 9 = nI 1 from rfl, nI_add]
  have e1' : (1 : Int32) + nI u / 50 = nI (1 + u / 50) := by
    rw [e50, show (1 : Int32) = nI 1 from rfl, nI_add]
  have eh : yHe (nI (1 + u / 50)) 1 99 = nI (1 + u / 50) := by
    unfold yHe
    rw [if_neg (show ¬ nI (1 + u / 50) < 1 from nI_nlt (b := 1) (by omega) (by omega)), if_neg (show ¬ 99 < nI (1 + u / 50) from nI_nlt (a := 99) (by omega) (by omega))]
  rw [e1', yBe_of (W := nI (1 + u / 50)) (by rw [if_neg (show ¬ ((kd = 5 ∨ kd = 7) ∧ ¬ cl ≤ t) by omega), if_neg (show ¬ kd = 4 by omega), sBw, e1, if_neg (show ¬ false = true by decide), if_neg (show ¬ kd = 3 by omega), es, eh])]
  by_cases c : nI u ≤ nI (1 + u / 50)
  · rw [if_pos c, if_neg (z_le_nlt c)]
  · rw [if_neg c, if_pos (z_nle_lt c)]
/-- points, as the law has them -/
def sLp (b lb w rr t : Int32) : Int32 := if (b + lb * 2 + w * 3 + (if 0 ≤ rr then 0 else 4) + (if t ≤ 0 then 0 else 5)) < 99 then (b + lb * 2 + w * 3 + (if 0 ≤ rr then 0 else 4) + (if t ≤ 0 then 0 else 5)) else 99
theorem sPtl {b lb w : Int32} (rr c t : Int32) (b1 : 0 ≤ b) (b2 : b ≤ 99) (l1 : 0 ≤ lb) (l2 : lb ≤ 99) (hw : w = 0 ∨ w = 1) : yPt sT3 b lb w rr c t = sLp b lb w rr t := by
  unfold yPt
  rw [if_neg (by unfold sT3; simp), sT3_v]
  show yHe (b + lb * 2 + w * 3 + (if rr < 0 then 1 else 0) * 4 + (if 0 < t then 1 else 0) * 5) 0 99 = _
  obtain ⟨B, rfl, hB⟩ : ∃ B : Int, b = yI B ∧ (0 ≤ B ∧ B ≤ 99) := ⟨b.toInt, (Int32.ofInt_toInt b).symm, by rw [zI_le] at b1 b2; exact ⟨b1, b2⟩⟩
  obtain ⟨Y, rfl, hY⟩ : ∃ B : Int, lb = yI B ∧ (0 ≤ B ∧ B ≤ 99) := ⟨lb.toInt, (Int32.ofInt_toInt lb).symm, by rw [zI_le] at l1 l2; exact ⟨l1, l2⟩⟩
  obtain ⟨X, rfl, hX⟩ : ∃ B : Int, w = yI B ∧ (0 ≤ B ∧ B ≤ 1) := by
    rcases hw with rfl | rfl
    · exact ⟨0, rfl, by decide⟩
    · exact ⟨1, rfl, by decide⟩
  have f1 : (if rr < 0 then (1 : Int32) else 0) * 4 = if 0 ≤ rr then 0 else 4 := by
    by_cases c : rr < 0
    · rw [if_pos c, if_neg (fun q => z_le_nlt q c)]; rfl
    · rw [if_neg c, if_pos (z_nlt_le c)]; rfl
  have f2 : (if 0 < t then (1 : Int32) else 0) * 5 = if t ≤ 0 then 0 else 5 := by
    by_cases c : 0 < t
    · rw [if_pos c, if_neg (fun q => z_le_nlt q c)]; rfl
    · rw [if_neg c, if_pos (z_nlt_le c)]; rfl
  rw [f1, f2]
  unfold sLp
  obtain ⟨F, hF, hF2⟩ : ∃ B : Int, (if 0 ≤ rr then (0 : Int32) else 4) = yI B ∧ (0 ≤ B ∧ B ≤ 4) := by
    by_cases c : 0 ≤ rr
    · rw [if_pos c]; exact ⟨0, rfl, by decide⟩
    · rw [if_neg c]; exact ⟨4, rfl, by decide⟩
  obtain ⟨G, hG, hG2⟩ : ∃ B : Int, (if t ≤ 0 then (0 : Int32) else 5) = yI B ∧ (0 ≤ B ∧ B ≤ 5) := by
    by_cases c : t ≤ 0
    · rw [if_pos c]; exact ⟨0, rfl, by decide⟩
    · rw [if_neg c]; exact ⟨5, rfl, by decide⟩
  rw [hF, hG, show (2 : Int32) = yI 2 from rfl, show (3 : Int32) = yI 3 from rfl, yI_mul, yI_mul, yI_add, yI_add, yI_add, yI_add]
  obtain ⟨V, hV⟩ : ∃ V, V = B + Y * 2 + X * 3 + F + G := ⟨_, rfl⟩
  rw [← hV]
  have hVb : yB V := ⟨by omega, by omega⟩
  have k1 : ¬ yI V < 0 := fun q => by
    rw [show (0 : Int32) = yI 0 from rfl, yI_lt hVb ⟨by decide, by decide⟩] at q
    omega
  have k2 : 99 < yI V ↔ 99 < V := yI_lt (a := 99) ⟨by decide, by decide⟩ hVb
  have k3 : yI V < 99 ↔ V < 99 := yI_lt (b := 99) hVb ⟨by decide, by decide⟩
  unfold yHe
  rw [if_neg k1]
  by_cases c : 99 < V
  · rw [if_pos (k2.mpr c), if_neg (fun q => by have := k3.mp q; omega)]
  · rw [if_neg (mt k2.mp c)]
    by_cases c2 : V < 99
    · rw [if_pos (k3.mpr c2)]
    · rw [if_neg (mt k3.mp c2), show V = 99 by omega]
      rfl
