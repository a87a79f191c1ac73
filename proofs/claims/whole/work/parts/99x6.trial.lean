/-! ===== how deep to deal: one trial ===== -/
theorem zFo_symm {P : Nat → Nat → Nat → Prop} {M M' : zM} (f : zFo P M M') : zFo P M' M := fun k i s h => ⟨(f k i s h).1.symm, (f k i s h).2.1.symm, (f k i s h).2.2.symm⟩
theorem yTy_g {T : Nat → List (List yOp × List yOp)} {q : Nat → Nat} {A B A' B' : zM} (H : yTy T q A B) {Q Q' : Nat → Nat → Nat → Prop} (f : zFo Q A A') (g : zFo Q' B B') (h1 : ∀ u, ¬ Q 11 u 2) (h2 : ∀ u s, ¬ Q 48 u s) (h3 : ∀ v, ¬ Q 30 0 v) (h4 : ∀ v, ¬ Q 29 0 v) (h5 : ∀ v, ¬ Q 35 0 v) (k1 : ∀ k s, 57 ≤ k → k ≤ 67 → ¬ Q' k 0 s) : yTy T q A' B' := by
  obtain ⟨ht, hv, ⟨hq, hq2⟩, hR⟩ := H
  refine ⟨fun u hu => ?_, fun v v1 v2 => ?_, ⟨fun w hw => ⟨?_, ?_⟩, hq2⟩, Raf_fr hR f h5⟩
  · obtain ⟨t1, t2, t3, t4⟩ := ht u hu
    exact ⟨t1, t2, yCl_fr t3 (f 11 u 2 (h1 u)).1 (fun s => (f 48 u s (h2 u s)).1), yMt_fr hu (fun k s hk => (g k 0 s (k1 k s (by omega) (by omega))).1) t4⟩
  · rw [(f 30 0 v (h3 v)).1]; exact hv v v1 v2
  · rw [(f 29 0 w (h4 w)).1]; exact (hq w hw).1
  · rw [(g 57 0 w (k1 57 w (by omega) (by omega))).1]; exact (hq w hw).2
theorem S186 (d bi : Nat) (A : zM) : zgo false d 186 0 [zr 12 0, zr 2 bi] [] A = some (some (zi (if zgI A 2 bi 1 < 100 then 0 else if zgI A 12 0 15 ≤ zgI A 2 bi 3 then 0 else 1)), A) := by
  rw [B186_0, B186_24, B186_25, B186_25]
  by_cases y1 : zgI A 2 bi 1 < 100
  · rw [if_pos y1, if_pos y1]; rfl
  · rw [if_neg y1, if_neg y1]
    by_cases y2 : zgI A 12 0 15 ≤ zgI A 2 bi 3
    · rw [if_pos y2, if_pos y2]; rfl
    · rw [if_neg y2, if_neg y2]; rfl
/-- many hands of a player of one's own -/
theorem TL (d p n kd : Nat) (x3 x4 : Int32) (hn : n ≤ 60) (hp : p < 10) {T : Nat → List (List yOp × List yOp)} {q : Nat → Nat} {P C : Nat} : ∀ (j h N : Nat) (A As B : zM) (x : Int32), h + j = n → zgo false (d + 32) 34 0 [zr 5 0, zr 2 10, zr 10 1, zr 4 60, zi (bI false), zu] [] A = zgo false (d + 32) 34 0 [zr 5 0, zr 2 10, zr 10 1, zr 4 60, zi (bI false), zu] [] As → zFo (yShA 1) A As → ySho 1 P C As B → yTy T q As B → yBd 10 p N kd As B → N + j ≤ 1000000 → zgI As 12 0 15 = zgI B 13 0 11 → ∃ (A' B' : zM) (y : Int32), zgo false (d + 33) 191 60 [zr 12 0, zr 2 p, zi (nI n), zi x3, zi x4, zi x, zi (nI h)] [] A = some (some (zi y), A') ∧ zgo false (d + 33) 272 5 [zr 13 0, zi (nI p), zi (nI n), zi x, zi (nI h)] [] B = some (some (zi y), B') ∧ zFo (oneA 1 10 60) A A' ∧ zFo (plB p) B B' := by
  intro j
  induction j with
  | zero =>
    intro h N A As B x hj _ _ _ _ _ _ _
    have hj : h = n := hj
    subst hj
    refine ⟨A, zsI B 13 0 71 (nI h), x, ?_, ?_, zFo_refl _ A, zFo_sI (zFo_refl _ B) (Or.inr ⟨rfl, rfl, rfl⟩)⟩
    · rw [B191_60, if_pos (nI_le (by omega) (by omega)), B191_130]
    · rw [B272_5, if_pos (nI_le (by omega) (by omega)), B272_53]
  | succ j ih =>
    intro h N A As B x hj hE hF hs ht hb hN h15
    have zp10 : zin (nI p) 10 = true := zin_nI (by omega) (by omega)
    have cp : (nI p).toNatClampNeg = p := nI_clamp (by omega)
    have zh60 : zin (nI h) 60 = true := zin_nI (by omega) (by omega)
    have ch : (nI h).toNatClampNeg = h := nI_clamp (by omega)
    have lh : ¬ nI n ≤ nI h := nI_ge (by omega) (by omega)
    have hb0 := hb
    obtain ⟨hk7, ⟨hk1, hk2⟩, b1, b2, b3, ⟨b4, b4'⟩, b5⟩ := hb
    have b1 : zgI A 2 10 1 = zgI B 71 0 p := ((hF 2 10 1 (by unfold yShA; omega)).1).symm.trans b1
    have b3 : zgI A 2 10 3 = zgI B 73 0 p := ((hF 2 10 3 (by unfold yShA; omega)).1).symm.trans b3
    have h15' : zgI A 12 0 15 = zgI B 13 0 11 := ((hF 12 0 15 (by unfold yShA; omega)).1).symm.trans h15
    have e186 := S186 (d + 32) 10 A
    by_cases m1 : zgI A 2 10 1 < 100
    · refine ⟨A, zsI B 13 0 71 (nI h), x, ?_, ?_, zFo_refl _ A, zFo_sI (zFo_refl _ B) (Or.inr ⟨rfl, rfl, rfl⟩)⟩
      · rw [B191_60, if_neg lh, e186, zbsome, zpu1, if_pos m1, B191_77, if_pos rfl, B191_130]
      · rw [B272_5, if_neg lh, if_pos zp10, cp, ← b1, if_pos m1, B272_53]
    · have e235 : zgo false (d + 32) 235 0 [zr 13 0, zi (nI p)] [] B = some (some (zi (if zgI B 73 0 p < zgI B 13 0 11 then 0 else 1)), B) := by
        rw [B235_0, if_pos zp10, cp, B235_18, B235_18]
        by_cases y1 : zgI B 73 0 p < zgI B 13 0 11
        · rw [if_pos y1, if_pos y1]; rfl
        · rw [if_neg y1, if_neg y1]; rfl
      by_cases m2 : zgI A 12 0 15 ≤ zgI A 2 10 3
      · have m2' : ¬ zgI B 73 0 p < zgI B 13 0 11 := by
          rw [← b3, ← h15']
          exact z_le_nlt m2
        refine ⟨A, zsI B 13 0 71 (nI h), x, ?_, ?_, zFo_refl _ A, zFo_sI (zFo_refl _ B) (Or.inr ⟨rfl, rfl, rfl⟩)⟩
        · rw [B191_60, if_neg lh, e186, zbsome, zpu1, if_neg m1, if_pos m2, B191_77, if_pos rfl, B191_130]
        · rw [B272_5, if_neg lh, if_pos zp10, cp, ← b1, if_neg m1, e235, if_neg m2', zbsome, zpu1, B272_27, if_neg (by decide), B272_53]
      · have m2' : zgI B 73 0 p < zgI B 13 0 11 := by
          rw [← b3, ← h15']
          grind
        obtain ⟨A1, B1, c1, c2, f1, g1, s1, t1, bd1, w1, w71, br1, dl1⟩ := ONE d 1 10 60 p h N kd false hs ht hb0 hp (by omega) (by omega)
        have c1' : zgo false (d + 32) 34 0 [zr 5 0, zr 2 10, zr 10 1, zr 4 60, zi 0, zu] [] A = some (none, A1) := hE.trans c1
        obtain ⟨A', B', y, r1, r2, r3, r4⟩ := ih (h + 1) (N + 1) A1 A1 B1 (x + zgI A1 4 60 10) (by omega) rfl (zFo_refl _ A1) s1 t1 bd1 (by omega) (by rw [(f1 12 0 15 (by unfold oneA; omega)).1, (g1 13 0 11 (by unfold oneB; omega)).1]; exact h15)
        refine ⟨A', B', y, ?_, ?_, zFo_trans (zFo_mono hF (fun a b c w => oneA_sh w)) (zFo_trans f1 r3), zFo_trans (zFo_mono g1 (fun a b c w => Or.inl ⟨h, by omega, w⟩)) r4⟩
        · rw [B191_60, if_neg lh, e186, zbsome, zpu1, if_neg m1, if_neg m2, B191_77, if_neg (by decide), c1', zbsome, zpu0, B191_109, nI_1]
          exact r1
        · rw [B272_5, if_neg lh, if_pos zp10, cp, ← b1, if_neg m1, e235, if_pos m2', zbsome, zpu1, B272_27, if_pos rfl, c2, zbsome, zpu0, B272_37, if_pos zh60, ch, nI_1, ← w1]
          exact r2
