/-! ===== 'play' ===== -/
def pm (n : Nat) : Bool := zo 1 n || (zo 6 n || (zo 7 n || zo 12 n))
theorem oneA_own {p h a b c : Nat} (hp : p < 10) (hh : h < 60) (H : oneA 0 p h a b c) : pm (zown a b c) = true := by
  rcases H with ⟨rfl, rfl | rfl | ⟨rfl, h1⟩⟩ | ⟨rfl, rfl | h1⟩ | ⟨rfl, rfl, h1⟩ | ⟨rfl, rfl | ⟨rfl, h1⟩ | rfl | h1⟩ | rfl | ⟨rfl, rfl⟩
  · rfl
  · rfl
  · rfl
  · rw [show zown 4 b c = if b < 60 ∧ c ≠ 16 then 7 else 12 from rfl]
    by_cases y : b < 60 ∧ c ≠ 16
    · rw [if_pos y]; rfl
    · rw [if_neg y]; rfl
  · rcases (by omega : a = 24 ∨ a = 25 ∨ a = 26 ∨ a = 27 ∨ a = 28) with rfl | rfl | rfl | rfl | rfl
    · rw [show zown 24 b c = if b < 60 then 7 else 12 from rfl, if_pos hh]; rfl
    · rw [show zown 25 b c = if b < 60 then 7 else 12 from rfl, if_pos hh]; rfl
    · rfl
    · rfl
    · rw [show zown 28 b c = if b < 60 then 7 else 12 from rfl, if_pos hh]; rfl
  · rw [show zown 2 b c = if b < 10 then 6 else 12 from rfl, if_pos hp]; rfl
  · rfl
  · rfl
  · rfl
  · rcases (by omega : a = 33 ∨ a = 34 ∨ a = 36 ∨ a = 37 ∨ a = 38 ∨ a = 39 ∨ a = 40 ∨ a = 41 ∨ a = 42) with rfl | rfl | rfl | rfl | rfl | rfl | rfl | rfl | rfl <;> rfl
  · rfl
  · rfl
theorem z13_own {c : Nat} (h : 59 ≤ c ∧ c ≤ 71) : pm (zown 13 0 c) = true := by
  rcases (by omega : c = 59 ∨ c = 60 ∨ c = 61 ∨ c = 62 ∨ c = 63 ∨ c = 64 ∨ c = 65 ∨ c = 66 ∨ c = 67 ∨ c = 68 ∨ c = 69 ∨ c = 70 ∨ c = 71) with rfl | rfl | rfl | rfl | rfl | rfl | rfl | rfl | rfl | rfl | rfl | rfl | rfl <;> rfl
theorem oneB_own {p h a b c : Nat} (H : oneB p h a b c) : pm (zown a b c) = true := by
  obtain ⟨rfl, rfl | rfl | ⟨rfl, h1⟩ | rfl | rfl | h1 | ⟨rfl, h1⟩ | ⟨h1, -⟩ | ⟨h1, -⟩ | ⟨rfl, -⟩ | ⟨h1, -⟩⟩ := H
  · rfl
  · rfl
  · rcases h1 with rfl | rfl | rfl | rfl <;> rfl
  · rfl
  · rfl
  · rcases (by omega : a = 76 ∨ a = 77 ∨ a = 78 ∨ a = 79 ∨ a = 80 ∨ a = 81) with rfl | rfl | rfl | rfl | rfl | rfl <;> rfl
  · exact z13_own ⟨h1.1, by omega⟩
  · rcases h1 with rfl | rfl <;> rfl
  · rcases (by omega : a = 83 ∨ a = 84 ∨ a = 85 ∨ a = 86 ∨ a = 87 ∨ a = 88 ∨ a = 89 ∨ a = 90 ∨ a = 92 ∨ a = 94) with rfl | rfl | rfl | rfl | rfl | rfl | rfl | rfl | rfl | rfl <;> rfl
  · rfl
  · rcases h1 with rfl | rfl | rfl | rfl <;> rfl
def plA (p a b c : Nat) : Prop := (∃ h, h < 60 ∧ oneA 0 p h a b c) ∨ (a = 12 ∧ b = 0 ∧ c = 13)
def plB (p a b c : Nat) : Prop := (∃ h, h < 60 ∧ oneB p h a b c) ∨ (a = 13 ∧ b = 0 ∧ c = 71)
theorem yBr_one {p g h : Nat} {B B' : zM} (hb : yBr g B) (hne : ¬ g = h) (k : zFo (oneB p h) B B') : yBr g B' := by
  obtain ⟨⟨m, m1, m2, m3⟩, ⟨t, t1, t2, t3⟩⟩ := hb
  have hB : ∀ k, k = 92 ∨ k = 94 → zgI B' k 0 g = zgI B k 0 g := fun k1 k2 => (k k1 0 g (by
    rintro ⟨-, y⟩
    rcases y with y | y | y | y | y | y | y | y | y | y | y <;> omega)).1
  have hC : ∀ k1 s, k1 = 91 ∨ k1 = 93 → s < 20 → zgI B' k1 0 (24 * g + s) = zgI B k1 0 (24 * g + s) := fun k1 s k2 k3 => (k k1 0 _ (by
    rintro ⟨-, y⟩
    rcases y with y | y | y | y | y | y | y | y | y | y | y <;> omega)).1
  exact ⟨⟨m, m1, (hB 92 (by omega)).trans m2, fun s hs => by rw [hC 91 s (by omega) (by omega)]; exact m3 s hs⟩, ⟨t, t1, (hB 94 (by omega)).trans t2, fun s hs => by rw [hC 93 s (by omega) (by omega)]; exact t3 s hs⟩⟩
theorem L140 (d p n kd : Nat) (x1 : Int32) (hn : n ≤ 60) (hp : p < 10) {T : Nat → List (List yOp × List yOp)} {q : Nat → Nat} {P C : Nat} : ∀ (j h N : Nat) (A B : zM) (x : Int32) (u6 : zV), h + j = n → ySho 0 P C A B → yTy T q A B → yBd p p N kd A B → N + j ≤ 1000000 → zgI A 12 0 13 = nI h → zgI A 12 0 15 = zgI B 13 0 11 → (0 ≤ zgI B 71 0 p ∧ zgI B 71 0 p ≤ 9999900) → (∀ g, g < h → yDl g g A B ∧ yBr g B) → ∃ (A' B' : zM) (h' N' : Nat) (y : Int32), zgo false (d + 34) 140 35 [zr 12 0, zi x1, zi (nI n), zr 2 p, zi x, zi (nI h), u6] [] A = some (some (zi y), A') ∧ zgo false (d + 33) 272 5 [zr 13 0, zi (nI p), zi (nI n), zi x, zi (nI h)] [] B = some (some (zi y), B') ∧ zFo (plA p) A A' ∧ zFo (plB p) B B' ∧ ySho 0 P C A' B' ∧ yTy T q A' B' ∧ yBd p p N' kd A' B' ∧ N' ≤ N + j ∧ zgI A' 12 0 13 = nI h' ∧ zgI B' 13 0 71 = nI h' ∧ h' ≤ n ∧ (0 ≤ zgI B' 71 0 p ∧ zgI B' 71 0 p ≤ 9999900) ∧ (∀ g, g < h' → yDl g g A' B' ∧ yBr g B') := by
  intro j
  induction j with
  | zero =>
    intro h N A B x u6 hj hs ht hb hN h13 h15 h71 hd
    have hj : h = n := hj
    subst hj
    refine ⟨A, zsI B 13 0 71 (nI h), h, N, x, ?_, ?_, zFo_refl _ A, zFo_sI (zFo_refl _ B) (Or.inr ⟨rfl, rfl, rfl⟩), ?_, ?_, hb, by omega, h13, ?_, Nat.le_refl _, (by rw [zgI_sI, if_neg (by omega)]; exact h71), fun g hg => ⟨yDl_fr (hd g hg).1 (fun _ _ _ => rfl) (fun k s k1 k2 => ?_), (hd g hg).2⟩⟩
    · rw [B140_35, if_pos (nI_le (by omega) (by omega)), B140_121]
    · rw [B272_5, if_pos (nI_le (by omega) (by omega)), B272_53]
    · exact ySho_fr hs (zFo_refl (fun _ _ _ => False) A) (zFo_sI (P := fun a b c => a = 13 ∧ c = 71) (zFo_refl _ B) ⟨rfl, rfl⟩) (fun _ _ _ => id) (fun _ => id) (fun _ => id) (fun s _ => by omega) (fun s => by omega) (fun s => by omega)
    · exact ⟨fun u hu => ⟨(ht.1 u hu).1, (ht.1 u hu).2.1, (ht.1 u hu).2.2.1, yMt_fr hu (fun k s hk => by rw [zgI_sI, if_neg (by omega)]) (ht.1 u hu).2.2.2⟩, ht.2⟩
    · rw [zgI_sI, if_pos ⟨rfl, rfl, rfl⟩]
    · rw [zgI_sI, if_neg (by omega)]
  | succ j ih =>
    intro h N A B x u6 hj hs ht hb hN h13 h15 h71 hd
    have zp10 : zin (nI p) 10 = true := zin_nI (by omega) (by omega)
    have cp : (nI p).toNatClampNeg = p := nI_clamp (by omega)
    have zh60 : zin (nI h) 60 = true := zin_nI (by omega) (by omega)
    have ch : (nI h).toNatClampNeg = h := nI_clamp (by omega)
    have lh : ¬ nI n ≤ nI h := nI_ge (by omega) (by omega)
    obtain ⟨hk7, ⟨hk1, hk2⟩, b1, b2, b3, ⟨b4, b4'⟩, b5⟩ := hb
    -- the end, when no more may be played
    have stop : zgo false (d + 34) 140 35 [zr 12 0, zi x1, zi (nI n), zr 2 p, zi x, zi (nI h), u6] [] A = some (some (zi x), A) → zgo false (d + 33) 272 5 [zr 13 0, zi (nI p), zi (nI n), zi x, zi (nI h)] [] B = some (some (zi x), zsI B 13 0 71 (nI h)) → ∃ (A' B' : zM) (h' N' : Nat) (y : Int32), zgo false (d + 34) 140 35 [zr 12 0, zi x1, zi (nI n), zr 2 p, zi x, zi (nI h), u6] [] A = some (some (zi y), A') ∧ zgo false (d + 33) 272 5 [zr 13 0, zi (nI p), zi (nI n), zi x, zi (nI h)] [] B = some (some (zi y), B') ∧ zFo (plA p) A A' ∧ zFo (plB p) B B' ∧ ySho 0 P C A' B' ∧ yTy T q A' B' ∧ yBd p p N' kd A' B' ∧ N' ≤ N + (j + 1) ∧ zgI A' 12 0 13 = nI h' ∧ zgI B' 13 0 71 = nI h' ∧ h' ≤ n ∧ (0 ≤ zgI B' 71 0 p ∧ zgI B' 71 0 p ≤ 9999900) ∧ (∀ g, g < h' → yDl g g A' B' ∧ yBr g B') := by
      intro c1 c2
      refine ⟨A, zsI B 13 0 71 (nI h), h, N, x, c1, c2, zFo_refl _ A, zFo_sI (zFo_refl _ B) (Or.inr ⟨rfl, rfl, rfl⟩), ?_, ?_, ⟨hk7, ⟨hk1, hk2⟩, b1, b2, b3, ⟨b4, b4'⟩, b5⟩, by omega, h13, ?_, by omega, (by rw [zgI_sI, if_neg (by omega)]; exact h71), fun g hg => ⟨yDl_fr (hd g hg).1 (fun _ _ _ => rfl) (fun k s k1 k2 => ?_), (hd g hg).2⟩⟩
      · exact ySho_fr hs (zFo_refl (fun _ _ _ => False) A) (zFo_sI (P := fun a b c => a = 13 ∧ c = 71) (zFo_refl _ B) ⟨rfl, rfl⟩) (fun _ _ _ => id) (fun _ => id) (fun _ => id) (fun s _ => by omega) (fun s => by omega) (fun s => by omega)
      · exact ⟨fun u hu => ⟨(ht.1 u hu).1, (ht.1 u hu).2.1, (ht.1 u hu).2.2.1, yMt_fr hu (fun k s hk => by rw [zgI_sI, if_neg (by omega)]) (ht.1 u hu).2.2.2⟩, ht.2⟩
      · rw [zgI_sI, if_pos ⟨rfl, rfl, rfl⟩]
      · rw [zgI_sI, if_neg (by omega)]
    have e186 : zgo false (d + 33) 186 0 [zr 12 0, zr 2 p] [] A = some (some (zi (if zgI A 2 p 1 < 100 then 0 else if zgI A 12 0 15 ≤ zgI A 2 p 3 then 0 else 1)), A) := by
      rw [B186_0, B186_24, B186_25, B186_25]
      by_cases y1 : zgI A 2 p 1 < 100
      · rw [if_pos y1, if_pos y1]; rfl
      · rw [if_neg y1, if_neg y1]
        by_cases y2 : zgI A 12 0 15 ≤ zgI A 2 p 3
        · rw [if_pos y2, if_pos y2]; rfl
        · rw [if_neg y2, if_neg y2]; rfl
    by_cases m1 : zgI A 2 p 1 < 100
    · refine stop ?_ ?_
      · rw [B140_35, if_neg lh, e186, zbsome, zpu1, if_pos m1, B140_46, if_pos rfl, B140_121]
      · rw [B272_5, if_neg lh, if_pos zp10, cp, ← b1, if_pos m1, B272_53]
    · have e235 : zgo false (d + 32) 235 0 [zr 13 0, zi (nI p)] [] B = some (some (zi (if zgI B 73 0 p < zgI B 13 0 11 then 0 else 1)), B) := by
        rw [B235_0, if_pos zp10, cp, B235_18, B235_18]
        by_cases y1 : zgI B 73 0 p < zgI B 13 0 11
        · rw [if_pos y1, if_pos y1]; rfl
        · rw [if_neg y1, if_neg y1]; rfl
      by_cases m2 : zgI A 12 0 15 ≤ zgI A 2 p 3
      · have m2' : ¬ zgI B 73 0 p < zgI B 13 0 11 := by
          rw [← b3, ← h15]
          exact z_le_nlt m2
        refine stop ?_ ?_
        · rw [B140_35, if_neg lh, e186, zbsome, zpu1, if_neg m1, if_pos m2, B140_46, if_pos rfl, B140_121]
        · rw [B272_5, if_neg lh, if_pos zp10, cp, ← b1, if_neg m1, e235, if_neg m2', zbsome, zpu1, B272_27, if_neg (by decide), B272_53]
      · have m2' : zgI B 73 0 p < zgI B 13 0 11 := by
          rw [← b3, ← h15]
          grind
        obtain ⟨A1, B1, c1, c2, f1, g1, s1, t1, bd1, w1, w71, br1, dl1⟩ := ONE d 0 p h p h N kd true hs ht ⟨hk7, ⟨hk1, hk2⟩, b1, b2, b3, ⟨b4, b4'⟩, b5⟩ hp (by omega) (by omega)
        have c1 : zgo false (d + 33) 34 0 [zr 5 0, zr 2 p, zr 10 0, zr 4 h, zi 1, zu] [] A = some (none, A1) := zgo_deep c1
        have e13 : zgI A1 12 0 13 = nI h := ((f1 12 0 13 (by unfold oneA; omega)).1).trans h13
        obtain ⟨A2, hA2⟩ : ∃ M, M = zsI A1 12 0 13 (nI (h + 1)) := ⟨_, rfl⟩
        have f2 : zFo (fun a b c => a = 12 ∧ b = 0 ∧ c = 13) A1 A2 := by
          rw [hA2]
          exact zFo_sI (zFo_refl _ A1) ⟨rfl, rfl, rfl⟩
        have dl2 : ∀ g, g < h + 1 → yDl g g A2 B1 ∧ yBr g B1 := fun g hg => by
          have e3 : yBr g B1 := by
            by_cases y : g = h
            · rw [y]; exact br1
            · exact yBr_one (hd g (by omega)).2 y g1
          have e : yDl g g A1 B1 := by
            by_cases y : g = h
            · rw [y]; exact dl1 rfl
            · exact yDl_one (hd g (by omega)).1 y (fun w => y w.symm) f1 g1 (by omega)
          exact ⟨yDl_fr e (fun k s hk => (f2 k g s (by omega)).1) (fun _ _ _ _ => rfl), e3⟩
        obtain ⟨A', B', h', N', y, r1, r2, r3, r4, r5, r6, r7, r8, r9, r10, r11, r12⟩ := ih (h + 1) (N + 1) A2 B1 (x + zgI A1 4 h 10) (zr 4 h) (by omega) (ySho_fr s1 f2 (zFo_refl (fun _ _ _ => False) B1) (fun s _ _ => by omega) (fun s => by omega) (fun s => by omega) (fun _ _ => id) (fun _ => id) (fun _ => id)) ⟨fun u hu => ⟨(t1.1 u hu).1, (t1.1 u hu).2.1, yCl_fr (t1.1 u hu).2.2.1 (f2 11 u 2 (by omega)).1 (fun s => (f2 48 u s (by omega)).1), (t1.1 u hu).2.2.2⟩, fun v v1 v2 => ((f2 30 0 v (by omega)).1).trans (t1.2.1 v v1 v2), ⟨fun w hw => ⟨((f2 29 0 w (by omega)).1).trans (t1.2.2.1.1 w hw).1, (t1.2.2.1.1 w hw).2⟩, t1.2.2.1.2⟩, Raf_fr t1.2.2.2 f2 (fun v => by omega)⟩ (by
          obtain ⟨a1, ⟨a2, a3⟩, a4, a5, a6, ⟨a7, a8⟩, a9⟩ := bd1
          exact ⟨a1, ⟨((f2 2 p 0 (by omega)).1).trans a2, a3⟩, ((f2 2 p 1 (by omega)).1).trans a4, ((f2 2 p 2 (by omega)).1).trans a5, ((f2 2 p 3 (by omega)).1).trans a6, ⟨((f2 2 p 4 (by omega)).1).trans a7, a8⟩, ((f2 2 p 5 (by omega)).1).trans a9⟩) (by omega) (by rw [hA2, zgI_sI, if_pos ⟨rfl, rfl, rfl⟩]) (by rw [(f2 12 0 15 (by omega)).1, (f1 12 0 15 (by unfold oneA; omega)).1, (g1 13 0 11 (by unfold oneB; omega)).1]; exact h15) w71 dl2
        refine ⟨A', B', h', N', y, ?_, ?_, zFo_trans (zFo_mono f1 (fun a b c w => Or.inl ⟨h, by omega, w⟩)) (zFo_trans (zFo_mono f2 (fun a b c w => Or.inr w)) r3), zFo_trans (zFo_mono g1 (fun a b c w => Or.inl ⟨h, by omega, w⟩)) r4, r5, r6, r7, by omega, r9, r10, r11, r12⟩
        · have zb : Nat.beq 4 0 = false := rfl
          have e10 : zgI A2 4 h 10 = zgI A1 4 h 10 := (f2 4 h 10 (by omega)).1
          rw [B140_35, if_neg lh, e186, zbsome, zpu1, if_neg m1, if_neg m2, B140_46, if_neg (by decide), if_neg (show ¬ (60 : Int32) ≤ nI h from nI_ge (b := 60) (by omega) (by omega)), if_pos zh60, ch, B140_70, zb, cond_false, c1, zbsome, zpu0]
          show zgo false (d + 34) 140 95 [zr 12 0, zi x1, zi (nI n), zr 2 p, zi x, zi (nI h), zr 4 h] [] A1 = _
          rw [B140_95, e13, nI_1, ← hA2, e10]
          exact r1
        · rw [B272_5, if_neg lh, if_pos zp10, cp, ← b1, if_neg m1, e235, if_pos m2', zbsome, zpu1, B272_27, if_pos rfl, c2, zbsome, zpu0, B272_37, if_pos zh60, ch, nI_1, ← w1]
          exact r2
