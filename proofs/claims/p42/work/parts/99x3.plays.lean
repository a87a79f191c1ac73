/-! ===== hands played one by one: what is led of them ===== -/
def sPu (A : zM) (p0 : Int32) : Nat → Int32
  | 0 => p0
  | g + 1 => yHe (sPu A p0 g + zgI A 4 g 10) 0 9999900
def sPt (A : zM) (t0 : Int32) : Nat → Int32
  | 0 => t0
  | g + 1 => sPt A t0 g + zgI A 4 g 12
def sLb (A : zM) (l0 : Int32) : Nat → Int32
  | 0 => l0
  | g + 1 => zgI A 4 g 9
def sBr (A : zM) : Nat → Int32
  | 0 => 0
  | g + 1 => sBr A g + zgI A 4 g 10
def sHi (A : zM) : Nat → Int32
  | 0 => 0
  | g + 1 => sHi A g + (zgI A 4 g 12 - zgI A 4 g 13)
def sSa (h : Nat) (A A' : zM) : Prop := ∀ g, g < h → ∀ s, zgI A' 4 g s = zgI A 4 g s
theorem sPu_sa {A A' : zM} {p0 : Int32} : ∀ h, sSa h A A' → sPu A' p0 h = sPu A p0 h
  | 0, _ => rfl
  | g + 1, e => by
    show yHe (sPu A' p0 g + zgI A' 4 g 10) 0 9999900 = yHe (sPu A p0 g + zgI A 4 g 10) 0 9999900
    rw [sPu_sa g (fun g' hg s => e g' (by omega) s), e g (by omega)]
theorem sPt_sa {A A' : zM} {t0 : Int32} : ∀ h, sSa h A A' → sPt A' t0 h = sPt A t0 h
  | 0, _ => rfl
  | g + 1, e => by
    show sPt A' t0 g + zgI A' 4 g 12 = sPt A t0 g + zgI A 4 g 12
    rw [sPt_sa g (fun g' hg s => e g' (by omega) s), e g (by omega)]
theorem sLb_sa {A A' : zM} {l0 : Int32} : ∀ h, sSa h A A' → sLb A' l0 h = sLb A l0 h
  | 0, _ => rfl
  | g + 1, e => e g (by omega) 9
theorem sBr_sa {A A' : zM} : ∀ h, sSa h A A' → sBr A' h = sBr A h
  | 0, _ => rfl
  | g + 1, e => by
    show sBr A' g + zgI A' 4 g 10 = sBr A g + zgI A 4 g 10
    rw [sBr_sa g (fun g' hg s => e g' (by omega) s), e g (by omega)]
/-- a hand led -/
def sHd (T2 T3 : List (List yOp × List yOp)) (kd : Nat) (cl lim p0 t0 l0 : Int32) (A : zM) (g : Nat) : Prop :=
  (100 ≤ sPu A p0 g ∧ sPt A t0 g < lim) ∧ (∃ la : Int32, zgI A 4 g 9 = yBe T2 (sPu A p0 g / 100) kd cl (zgI A 4 g 14) (zgI A 4 g 15) la) ∧ (zgI A 4 g 10 = 0 ∨ ∃ y : Int, -200 ≤ y ∧ y ≤ 200 ∧ zgI A 4 g 10 = yI y * zgI A 4 g 9) ∧ (zgI A 4 g 19 = 0 ∨ zgI A 4 g 19 = 1) ∧ (zgI A 4 g 11 = 0 → zgI A 4 g 19 = 0) ∧
  zgI A 4 g 12 = yPt T3 (zgI A 4 g 9) (sLb A l0 g) (zgI A 4 g 19) (zgI A 4 g 10 / 100) (zgI A 4 g 14) (zgI A 4 g 15) ∧ zgI A 4 g 13 = yPt T3 (zgI A 4 g 9) (sLb A l0 g) 0 (zgI A 4 g 10 / 100) (zgI A 4 g 14) (zgI A 4 g 15)
theorem sHd_sa {T2 T3 : List (List yOp × List yOp)} {kd : Nat} {cl lim p0 t0 l0 : Int32} {A A' : zM} {g h : Nat} (hg : g < h) (e : sSa h A A') (H : sHd T2 T3 kd cl lim p0 t0 l0 A g) : sHd T2 T3 kd cl lim p0 t0 l0 A' g := by
  have eg : sSa g A A' := fun g' hg' s => e g' (by omega) s
  unfold sHd at H ⊢
  rw [sPu_sa g eg, sPt_sa g eg, sLb_sa g eg, e g hg, e g hg, e g hg, e g hg, e g hg, e g hg, e g hg, e g hg]
  exact H
def sInv (T2 T3 : List (List yOp × List yOp)) (kd : Nat) (cl lim p0 t0 l0 : Int32) (N0 h : Nat) (A : zM) : Prop :=
  zgI A 2 0 1 = sPu A p0 h ∧ zgI A 2 0 3 = sPt A t0 h ∧ zgI A 2 0 5 = sLb A l0 h ∧ zgI A 2 0 4 = nI (N0 + h) ∧ zgI A 2 0 2 = cl ∧ ∀ g, g < h → sHd T2 T3 kd cl lim p0 t0 l0 A g
def sPA (a b c : Nat) : Prop := (∃ h, h < 60 ∧ oneA 0 0 h a b c) ∨ (a = 12 ∧ b = 0 ∧ c = 13)
theorem yTy_fo {T : Nat → List (List yOp × List yOp)} {q : Nat → Nat} {A B A' : zM} (t1 : yTy T q A B) {Q : Nat → Nat → Nat → Prop} (f2 : zFo Q A A') (h11 : ∀ u, ¬ Q 11 u 2) (h48 : ∀ u s, ¬ Q 48 u s) (h30 : ∀ v, ¬ Q 30 0 v) (h29 : ∀ w, ¬ Q 29 0 w) (h35 : ∀ v, ¬ Q 35 0 v) : yTy T q A' B :=
  ⟨fun u hu => ⟨(t1.1 u hu).1, (t1.1 u hu).2.1, yCl_fr (t1.1 u hu).2.2.1 (f2 11 u 2 (h11 u)).1 (fun s => (f2 48 u s (h48 u s)).1), (t1.1 u hu).2.2.2⟩, fun v v1 v2 => ((f2 30 0 v (h30 v)).1).trans (t1.2.1 v v1 v2), ⟨fun w hw => ⟨((f2 29 0 w (h29 w)).1).trans (t1.2.2.1.1 w hw).1, (t1.2.2.1.1 w hw).2⟩, t1.2.2.1.2⟩, Raf_fr t1.2.2.2 f2 h35⟩
theorem yBd_fo {p N kd : Nat} {A B A' : zM} (b : yBd p p N kd A B) (e : ∀ s, zgI A' 2 p s = zgI A 2 p s) : yBd p p N kd A' B := by
  obtain ⟨a1, ⟨a2, a3⟩, a4, a5, a6, ⟨a7, a8⟩, a9⟩ := b
  exact ⟨a1, ⟨(e 0).trans a2, a3⟩, (e 1).trans a4, (e 2).trans a5, (e 3).trans a6, ⟨(e 4).trans a7, a8⟩, (e 5).trans a9⟩
theorem sPL (d n kd N0 : Nat) (x1 : Int32) (hn : n ≤ 60) (hN : N0 + n ≤ 1000000) {T : Nat → List (List yOp × List yOp)} {q : Nat → Nat} {P C : Nat} {cl lim p0 t0 l0 : Int32} : ∀ (j h : Nat) (A B : zM) (u6 : zV), h + j = n → ySho 0 P C A B → yTy T q A B → yBd 0 0 (N0 + h) kd A B → zgI A 12 0 13 = nI h → zgI A 12 0 15 = lim → sInv (T 2) (T 3) kd cl lim p0 t0 l0 N0 h A →
    ∃ (A' B' : zM) (h' : Nat), zgo false (d + 34) 140 35 [zr 12 0, zi x1, zi (nI n), zr 2 0, zi (sBr A h), zi (nI h), u6] [] A = some (some (zi (sBr A' h')), A') ∧ zFo sPA A A' ∧ ySho 0 P C A' B' ∧ yTy T q A' B' ∧ yBd 0 0 (N0 + h') kd A' B' ∧ zgI A' 12 0 13 = nI h' ∧ h' ≤ n ∧ sInv (T 2) (T 3) kd cl lim p0 t0 l0 N0 h' A' ∧ (h' = n ∨ ¬ (100 ≤ sPu A' p0 h' ∧ sPt A' t0 h' < lim)) := by
  intro j
  induction j with
  | zero =>
    intro h A B u6 hj hs ht hb h13 h15 hI
    have hj : h = n := hj
    subst hj
    refine ⟨A, B, h, ?_, zFo_refl _ A, hs, ht, hb, h13, Nat.le_refl _, hI, Or.inl rfl⟩
    rw [B140_35, if_pos (nI_le (by omega) (by omega)), B140_121]
  | succ j ih =>
    intro h A B u6 hj hs ht hb h13 h15 hI
    obtain ⟨i1, i2, i3, i4, i5, i6⟩ := id hI
    have zh60 : zin (nI h) 60 = true := zin_nI (by omega) (by omega)
    have ch : (nI h).toNatClampNeg = h := nI_clamp (by omega)
    have lh : ¬ nI n ≤ nI h := nI_ge (by omega) (by omega)
    have e186 : zgo false (d + 33) 186 0 [zr 12 0, zr 2 0] [] A = some (some (zi (if zgI A 2 0 1 < 100 then 0 else if zgI A 12 0 15 ≤ zgI A 2 0 3 then 0 else 1)), A) := by
      rw [B186_0, B186_24, B186_25, B186_25]
      by_cases y1 : zgI A 2 0 1 < 100
      · rw [if_pos y1, if_pos y1]; rfl
      · rw [if_neg y1, if_neg y1]
        by_cases y2 : zgI A 12 0 15 ≤ zgI A 2 0 3
        · rw [if_pos y2, if_pos y2]; rfl
        · rw [if_neg y2, if_neg y2]; rfl
    by_cases m1 : zgI A 2 0 1 < 100
    · refine ⟨A, B, h, ?_, zFo_refl _ A, hs, ht, hb, h13, by omega, hI, Or.inr (fun w => ?_)⟩
      · rw [B140_35, if_neg lh, e186, zbsome, zpu1, if_pos m1, B140_46, if_pos rfl, B140_121]
      · rw [i1] at m1
        exact z_le_nlt w.1 m1
    · by_cases m2 : zgI A 12 0 15 ≤ zgI A 2 0 3
      · refine ⟨A, B, h, ?_, zFo_refl _ A, hs, ht, hb, h13, by omega, hI, Or.inr (fun w => ?_)⟩
        · rw [B140_35, if_neg lh, e186, zbsome, zpu1, if_neg m1, if_pos m2, B140_46, if_pos rfl, B140_121]
        · rw [i2, h15] at m2
          exact z_le_nlt m2 w.2
      · obtain ⟨A1, B1, c1, -, f1, g1, s1, t1, bd1, -, -, -, -, yo⟩ := ONE d 0 0 h 0 h (N0 + h) kd true hs ht hb (by omega) (by omega) (by omega)
        have c1 : zgo false (d + 33) 34 0 [zr 5 0, zr 2 0, zr 10 0, zr 4 h, zi 1, zu] [] A = some (none, A1) := zgo_deep c1
        have e13 : zgI A1 12 0 13 = nI h := ((f1 12 0 13 (by unfold oneA; omega)).1).trans h13
        obtain ⟨A2, hA2⟩ : ∃ M, M = zsI A1 12 0 13 (nI (h + 1)) := ⟨_, rfl⟩
        have f2 : zFo (fun a b c => a = 12 ∧ b = 0 ∧ c = 13) A1 A2 := by
          rw [hA2]
          exact zFo_sI (zFo_refl _ A1) ⟨rfl, rfl, rfl⟩
        have k2 : ∀ k i s, ¬ k = 12 → zgI A2 k i s = zgI A1 k i s := fun k i s hk => (f2 k i s (by omega)).1
        have sa : sSa h A A2 := fun g hg s => (k2 4 g s (by omega)).trans (f1 4 g s (by unfold oneA; omega)).1
        obtain ⟨w1, w2, w3, w4, w5, w6, w7, w8, w9, w10⟩ := yo
        have hH : sHd (T 2) (T 3) kd cl lim p0 t0 l0 A2 h := by
          unfold sHd
          rw [sPu_sa h sa, sPt_sa h sa, sLb_sa h sa, ← i1, ← i2, ← i3, k2 4 h 9 (by omega), k2 4 h 10 (by omega), k2 4 h 11 (by omega), k2 4 h 12 (by omega), k2 4 h 13 (by omega), k2 4 h 14 (by omega), k2 4 h 15 (by omega), k2 4 h 19 (by omega)]
          rw [i5] at w1
          refine ⟨⟨z_nlt_le m1, ?_⟩, w1, w2, w3, w4, w5, w6⟩
          rw [← h15]
          exact z_nle_lt m2
        have hI2 : sInv (T 2) (T 3) kd cl lim p0 t0 l0 N0 (h + 1) A2 := by
          refine ⟨?_, ?_, ?_, ?_, ?_, fun g hg => ?_⟩
          · show zgI A2 2 0 1 = yHe (sPu A2 p0 h + zgI A2 4 h 10) 0 9999900
            rw [sPu_sa h sa, ← i1, k2 2 0 1 (by omega), k2 4 h 10 (by omega), w7]
          · show zgI A2 2 0 3 = sPt A2 t0 h + zgI A2 4 h 12
            rw [sPt_sa h sa, ← i2, k2 2 0 3 (by omega), k2 4 h 12 (by omega), w8]
          · show zgI A2 2 0 5 = zgI A2 4 h 9
            rw [k2 2 0 5 (by omega), k2 4 h 9 (by omega), w10]
          · rw [k2 2 0 4 (by omega), w9, i4, nI_1]
            rfl
          · rw [k2 2 0 2 (by omega), (f1 2 0 2 (by unfold oneA; omega)).1, i5]
          · by_cases y : g = h
            · rw [y]; exact hH
            · exact sHd_sa (h := h) (by omega) sa (i6 g (by omega))
        obtain ⟨A', B', h', r1, r2, r3, r4, r5, r6, r7, r8, r9⟩ := ih (h + 1) A2 B1 (zr 4 h) (by omega) (ySho_fr s1 f2 (zFo_refl (fun _ _ _ => False) B1) (fun s _ _ => by omega) (fun s => by omega) (fun s => by omega) (fun _ _ => id) (fun _ => id) (fun _ => id)) (yTy_fo t1 f2 (fun u => by omega) (fun u s => by omega) (fun v => by omega) (fun w => by omega) (fun v => by omega)) (yBd_fo bd1 (fun s => k2 2 0 s (by omega))) (by rw [hA2, zgI_sI, if_pos ⟨rfl, rfl, rfl⟩]) (by rw [(f2 12 0 15 (by omega)).1, (f1 12 0 15 (by unfold oneA; omega)).1]; exact h15) hI2
        refine ⟨A', B', h', ?_, zFo_trans (zFo_mono f1 (fun a b c w => Or.inl ⟨h, by omega, w⟩)) (zFo_trans (zFo_mono f2 (fun a b c w => Or.inr w)) r2), r3, r4, r5, r6, r7, r8, r9⟩
        have zb : Nat.beq 4 0 = false := rfl
        have e10 : sBr A h + zgI A2 4 h 10 = sBr A2 (h + 1) := by
          show _ = sBr A2 h + zgI A2 4 h 10
          rw [sBr_sa h sa]
        rw [B140_35, if_neg lh, e186, zbsome, zpu1, if_neg m1, if_neg m2, B140_46, if_neg (by decide), if_neg (show ¬ (60 : Int32) ≤ nI h from nI_ge (b := 60) (by omega) (by omega)), if_pos zh60, ch, B140_70, zb, cond_false, c1, zbsome, zpu0]
        show zgo false (d + 34) 140 95 [zr 12 0, zi x1, zi (nI n), zr 2 0, zi (sBr A h), zi (nI h), zr 4 h] [] A1 = _
        rw [B140_95, e13, nI_1, ← hA2, e10]
        exact r1
/-- 'play' of the only player -/
theorem sPlay (d n kd N0 : Nat) (hn : 1 ≤ n ∧ n ≤ 60) (hN : N0 + n ≤ 1000000) {T : Nat → List (List yOp × List yOp)} {q : Nat → Nat} {P C : Nat} {A B : zM} (hs : ySho 0 P C A B) (ht : yTy T q A B) (hb : yBd 0 0 N0 kd A B) (h12 : zgI A 12 0 12 = 1) :
    ∃ (A' B' : zM) (h' : Nat), zgo false (d + 34) 140 0 [zr 12 0, zi 0, zi (nI n), zu, zu, zu, zu] [] A = some (some (zi (sBr A' h')), A') ∧ zFo sPA A A' ∧ ySho 0 P C A' B' ∧ yTy T q A' B' ∧ yBd 0 0 (N0 + h') kd A' B' ∧ zgI A' 12 0 13 = nI h' ∧ h' ≤ n ∧ sInv (T 2) (T 3) kd (zgI A 2 0 2) (zgI A 12 0 15) (zgI A 2 0 1) (zgI A 2 0 3) (zgI A 2 0 5) N0 h' A' ∧ (h' = n ∨ ¬ (100 ≤ sPu A' (zgI A 2 0 1) h' ∧ sPt A' (zgI A 2 0 3) h' < zgI A 12 0 15)) := by
  have f0 : zFo (fun a b c => a = 12 ∧ b = 0 ∧ c = 13) A (zsI A 12 0 13 0) := zFo_sI (zFo_refl _ A) ⟨rfl, rfl, rfl⟩
  have k0 : ∀ k i s, ¬ k = 12 → zgI (zsI A 12 0 13 0) k i s = zgI A k i s := fun k i s hk => (f0 k i s (by omega)).1
  have b4 : zgI A 2 0 4 = nI N0 := hb.2.2.2.2.2.1.1
  obtain ⟨A', B', h', r1, r2, r⟩ := sPL d n kd N0 0 hn.2 hN (T := T) (q := q) (P := P) (C := C) (cl := zgI A 2 0 2) (lim := zgI A 12 0 15) (p0 := zgI A 2 0 1) (t0 := zgI A 2 0 3) (l0 := zgI A 2 0 5) n 0 (zsI A 12 0 13 0) B zu (by omega) (ySho_fr hs f0 (zFo_refl (fun _ _ _ => False) B) (fun s _ _ => by omega) (fun s => by omega) (fun s => by omega) (fun _ _ => id) (fun _ => id) (fun _ => id)) (yTy_fo ht f0 (fun u => by omega) (fun u s => by omega) (fun v => by omega) (fun w => by omega) (fun v => by omega)) (yBd_fo hb (fun s => k0 2 0 s (by omega))) rfl (by rw [(f0 12 0 15 (by omega)).1]) ⟨k0 2 0 1 (by omega), k0 2 0 3 (by omega), k0 2 0 5 (by omega), (k0 2 0 4 (by omega)).trans b4, k0 2 0 2 (by omega), fun g hg => absurd hg (Nat.not_lt_zero g)⟩
  refine ⟨A', B', h', ?_, zFo_trans (zFo_mono f0 (fun a b c w => Or.inr w)) r2, r⟩
  have e181 : zgo false (d + 33) 181 0 [zr 12 0, zi 0] [] A = some (some (zr 2 0), A) := by
    rw [B181_0, if_neg (by decide), h12, if_neg (by decide), if_neg (by decide), if_pos (by decide), B181_31]
    rfl
  have zb : Nat.beq 2 0 = false := rfl
  have c1 : ¬ nI n < 1 := nI_nlt (b := 1) (by omega) (by omega)
  have c2 : nI n ≤ 60 := nI_le (b := 60) hn.2 (by omega)
  rw [B140_0, e181, zbsome]
  show zgo false (d + 34) 140 5 [zr 12 0, zi 0, zi (nI n), zu, zu, zu, zu] [zr 2 0] A = _
  rw [B140_5, zb, cond_false, if_neg c1, if_pos c2]
  exact r1
