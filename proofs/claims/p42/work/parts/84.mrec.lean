/-! ===== odds: 'findEnds' ===== -/
theorem mE_same {B B' : zM} {o q : Nat → Nat} {s : Nat} {a : Bool} (h : zgI B 78 0 (mA s a) = 0 ∨ (zgI B 78 0 (mA s a) = 1 ∧ ∀ k, k < 8 → zgL B 77 0 (8 * mA s a + k) = yJ (oEe o q k s a))) (e1 : zgI B' 78 0 (mA s a) = zgI B 78 0 (mA s a)) (e2 : ∀ k, k < 8 → zgL B' 77 0 (8 * mA s a + k) = zgL B 77 0 (8 * mA s a + k)) : zgI B' 78 0 (mA s a) = 0 ∨ (zgI B' 78 0 (mA s a) = 1 ∧ ∀ k, k < 8 → zgL B' 77 0 (8 * mA s a + k) = yJ (oEe o q k s a)) := by
  rcases h with h | ⟨h, w⟩
  · exact Or.inl (e1.trans h)
  · exact Or.inr ⟨e1.trans h, fun k hk => (e2 k hk).trans (w k hk)⟩
theorem mH_fr {B B' : zM} {o : Nat → Nat} {P : Nat → Nat → Nat → Prop} (h : mH B o) (f : zFo P B B') (hp : ∀ v, ¬ P 76 0 v) : mH B' o := ⟨fun v v1 v2 => ((f 76 0 v (hp v)).1).trans (h.1 v v1 v2), ((f 76 0 0 (hp 0)).1).trans h.2.1, h.2.2⟩
theorem mR_fr {B B' : zM} {q : Nat → Nat} {P : Nat → Nat → Nat → Prop} (h : mR B q) (f : zFo P B B') (hp : ∀ v, ¬ P 57 0 v) : mR B' q := ⟨fun v v1 => ((f 57 0 v (hp v)).1).trans (h.1 v v1), h.2⟩
theorem mE_up {B B' : zM} {o q : Nat → Nat} {lo lo2 : Nat} (h : mE B o q lo) (hl : lo ≤ lo2) (f : zFo (mFe lo2) B B') (h2 : mE B' o q lo2) : mE B' o q lo := by
  intro s a s1 s2
  rcases Nat.lt_or_ge s lo2 with z | z
  · have := bN_le a
    refine mE_same (h s a s1 s2) ?_ (fun k hk => ?_)
    · exact (f 78 0 _ (by unfold mFe mA; omega)).1
    · exact (f 77 0 _ (by unfold mFe mA; omega)).2.1
  · exact h2 s a z s2
theorem mFe_mono {B B' : zM} {lo lo2 : Nat} (f : zFo (mFe lo2) B B') (hl : lo ≤ lo2) : zFo (mFe lo) B B' := zFo_mono f (fun a b c z => by unfold mFe at z ⊢; omega)
/-- what is done once it is known whether the dealer draws -/
theorem S243h (d s : Nat) (a : Bool) (hs : s ≤ 31) (u3 u4 u5 u6 u7 : zV) {o q : Nat → Nat} {B : zM} (hE : zgI B 78 0 (mA s a) = 0) (hR : mR B q) (hH : mH B o) : ∃ B2, zgo false (d + 2) 243 0 [zr 13 0, zi (nI s), zi (bI a), u3, u4, u5, u6, u7] [] B = zgo false (d + 2) 243 66 [zr 13 0, zi (nI s), zi (bI a), zi (nI (mA s a)), zi 8, u5, u6, u7] [zi (bI (oDw q s a))] B2 ∧ zFo (fun x y z => y = 0 ∧ ((x = 77 ∧ 8 * mA s a ≤ z ∧ z < 8 * mA s a + 8) ∨ (x = 78 ∧ z = mA s a))) B B2 ∧ zgI B2 78 0 (mA s a) = 1 ∧ ∀ k, k < 8 → zgL B2 77 0 (8 * mA s a + k) = 0 := by
  have hb := bN_le a
  have ha : mA s a ≤ 63 := by
    unfold mA
    omega
  obtain ⟨B2, e, f, w⟩ := L243a (d + 1) s a hs u5 u6 u7 8 0 (zsI B 78 0 (mA s a) 1) (by omega) (fun k' h' => by omega)
  have f1 : zFo (fun x y z => y = 0 ∧ ((x = 77 ∧ 8 * mA s a ≤ z ∧ z < 8 * mA s a + 8) ∨ (x = 78 ∧ z = mA s a))) B (zsI B 78 0 (mA s a) 1) := zFo_sI (zFo_refl _ B) ⟨rfl, Or.inr ⟨rfl, rfl⟩⟩
  have ff := zFo_trans f1 (zFo_mono f (fun x y z r => ⟨r.2.1, Or.inl ⟨r.1, r.2.2⟩⟩))
  refine ⟨B2, ?_, ff, ?_, w⟩
  · have z1 : zin (nI (mA s a)) 64 = true := zin_nI (by omega) (by omega)
    have c1 : (nI (mA s a)).toNatClampNeg = mA s a := nI_clamp (by omega)
    have k12 : zgo false (d + 2) 243 0 [zr 13 0, zi (nI s), zi (bI a), u3, u4, u5, u6, u7] [] B = zgo false (d + 2) 243 12 [zr 13 0, zi (nI s), zi (bI a), u3, u4, u5, u6, u7] [zi (nI (bN a)), zi (nI (2 * s))] B := by
      have e2 : 2 * nI s = nI (2 * s) := by rw [show (2 : Int32) = nI 2 from rfl, pk_mul]
      rw [B243_0, e2]
      cases a with
      | true => rw [if_neg (by decide)]; rfl
      | false => rw [if_pos (show bI false = 0 from rfl)]; rfl
    have es : nI (2 * s) + nI (bN a) = nI (mA s a) := nI_add _ _
    have k34 : zgo false (d + 2) 243 34 [zr 13 0, zi (nI s), zi (bI a), zi (nI (mA s a)), zi 8, u5, u6, u7] [] B2 = zgo false (d + 2) 243 66 [zr 13 0, zi (nI s), zi (bI a), zi (nI (mA s a)), zi 8, u5, u6, u7] [zi (bI (oDw q s a))] B2 := by
      rw [B243_34, if_pos (by decide), S242 d s a q zu B2 hs (mR_fr hR ff (fun v r => by omega)), zbsome, zpu1]
    rw [k12, B243_12, es, if_pos z1, c1, hE, if_pos rfl, if_pos z1, B243_31, ← k34]
    exact e
  · rw [(f 78 0 _ (fun r => by cases r.1)).1]
    rw [zgI_sI, if_pos ⟨rfl, rfl, rfl⟩]
def mOw (s : Nat) (a : Bool) (x y z : Nat) : Prop := y = 0 ∧ ((x = 77 ∧ 8 * mA s a ≤ z ∧ z < 8 * mA s a + 8) ∨ (x = 78 ∧ z = mA s a))
theorem mOw_fe {s : Nat} {a : Bool} {B B' : zM} (f : zFo (mOw s a) B B') : zFo (mFe s) B B' := zFo_mono f (fun x y z r => by
  have := bN_le a
  unfold mOw at r
  unfold mFe
  unfold mA at r
  omega)
/-- only the own entry was written, and it is right -/
theorem mE_own {s lo : Nat} {a : Bool} {B B' : zM} {o q : Nat → Nat} (h : mE B o q lo) (f : zFo (mOw s a) B B') (h1 : zgI B' 78 0 (mA s a) = 1) (h2 : ∀ k, k < 8 → zgL B' 77 0 (8 * mA s a + k) = yJ (oEe o q k s a)) : mE B' o q lo := by
  intro s' a' s1 s2
  by_cases z : mA s' a' = mA s a
  · have z1 : s' = s ∧ a' = a := by
      unfold mA bN at z
      cases a <;> cases a' <;> simp at z ⊢ <;> omega
    rw [z1.1, z1.2]
    exact Or.inr ⟨h1, h2⟩
  · refine mE_same (h s' a' s1 s2) ?_ (fun k hk => ?_)
    · exact (f 78 0 _ (by unfold mOw; omega)).1
    · exact (f 77 0 _ (by unfold mOw; omega)).2.1
theorem mono_own {s : Nat} {a : Bool} {B B' : zM} (f : zFo (mOw s a) B B') (h1 : zgI B' 78 0 (mA s a) = 1) : ∀ x, zgI B 78 0 x = 1 → zgI B' 78 0 x = 1 := by
  intro x hx
  by_cases z : x = mA s a
  · rw [z]
    exact h1
  · rw [(f 78 0 x (by unfold mOw; omega)).1]
    exact hx
theorem S243m (d s : Nat) (a : Bool) (hs : s ≤ 31) (u3 u4 u5 u6 u7 : zV) {B : zM} (h : zgI B 78 0 (mA s a) = 1) : zgo false d 243 0 [zr 13 0, zi (nI s), zi (bI a), u3, u4, u5, u6, u7] [] B = some (none, B) := by
  have hb := bN_le a
  have ha : mA s a ≤ 63 := by
    unfold mA
    omega
  have z1 : zin (nI (mA s a)) 64 = true := zin_nI (by omega) (by omega)
  have c1 : (nI (mA s a)).toNatClampNeg = mA s a := nI_clamp (by omega)
  have k12 : zgo false d 243 0 [zr 13 0, zi (nI s), zi (bI a), u3, u4, u5, u6, u7] [] B = zgo false d 243 12 [zr 13 0, zi (nI s), zi (bI a), u3, u4, u5, u6, u7] [zi (nI (bN a)), zi (nI (2 * s))] B := by
    have e2 : 2 * nI s = nI (2 * s) := by rw [show (2 : Int32) = nI 2 from rfl, pk_mul]
    rw [B243_0, e2]
    cases a with
    | true => rw [if_neg (by decide)]; rfl
    | false => rw [if_pos (show bI false = 0 from rfl)]; rfl
  have es : nI (2 * s) + nI (bN a) = nI (mA s a) := nI_add _ _
  rw [k12, B243_12, es, if_pos z1, c1, h, if_neg (by decide)]
/-- the dealer stands -/
theorem S243n (d s : Nat) (a : Bool) (hs : s ≤ 31) (u3 u4 u5 u6 u7 : zV) {o q : Nat → Nat} {B : zM} (hE : zgI B 78 0 (mA s a) = 0) (hR : mR B q) (hH : mH B o) (hd : ¬ oDw q s a = true) : ∃ B', zgo false (d + 2) 243 0 [zr 13 0, zi (nI s), zi (bI a), u3, u4, u5, u6, u7] [] B = some (none, B') ∧ zFo (mOw s a) B B' ∧ zgI B' 78 0 (mA s a) = 1 ∧ ∀ k, k < 8 → zgL B' 77 0 (8 * mA s a + k) = yJ (oEe o q k s a) := by
  obtain ⟨B2, e, f, w1, w2⟩ := S243h d s a hs u3 u4 u5 u6 u7 (o := o) (q := q) hE hR hH
  have hb := bN_le a
  have ha : mA s a ≤ 63 := by
    unfold mA
    omega
  have hq3 := hR.2.2.2.2.2.2
  have t15 : 15 ≤ oTt s a := by
    have n : ¬ oTt s a < q 3 := fun z => hd (oDw_iff.mpr (Or.inl z))
    have := hR.2.2.2.2.2.1
    omega
  have tt : oTt s a ≤ 41 := by
    unfold oTt
    by_cases z : a = true ∧ s ≤ 11
    · rw [if_pos z]; omega
    · rw [if_neg z]; omega
  let kk : Nat := if oTt s a ≤ 21 then oTt s a - 15 else 7
  have hkk : kk < 8 := by
    show (if oTt s a ≤ 21 then oTt s a - 15 else 7) < 8
    by_cases z : oTt s a ≤ 21
    · rw [if_pos z]; omega
    · rw [if_neg z]; omega
  have l : nI (oTt s a) ≤ 21 ↔ oTt s a ≤ 21 := nI_leI (b := 21) (by omega) (by omega)
  have e8 : 8 * nI (mA s a) = nI (8 * mA s a) := by rw [show (8 : Int32) = nI 8 from rfl, pk_mul]
  have z1 : zin (nI (8 * mA s a + kk)) 512 = true := zin_nI (by omega) (by omega)
  have c1 : (nI (8 * mA s a + kk)).toNatClampNeg = 8 * mA s a + kk := nI_clamp (by omega)
  refine ⟨zsL B2 77 0 (8 * mA s a + kk) 1000000, ?_, zFo_trans f (zFo_sL (zFo_refl _ B2) ⟨rfl, Or.inl ⟨rfl, by omega, by omega⟩⟩), w1, fun k hk => ?_⟩
  · have k101 : zgo false (d + 2) 243 66 [zr 13 0, zi (nI s), zi (bI a), zi (nI (mA s a)), zi 8, u5, u6, u7] [zi (bI (oDw q s a))] B2 = zgo false (d + 2) 243 101 [zr 13 0, zi (nI s), zi (bI a), zi (nI (mA s a)), zi (nI (oTt s a)), u5, u6, u7] [zi (nI kk), zi (nI (8 * mA s a)), zr 77 0] B2 := by
      rw [B243_66, if_pos ((bI_0 _).mpr hd), S240 _ _ _ _ (by omega), zbsome, zpu1, B243_74, e8]
      by_cases z : oTt s a ≤ 21
      · have ek : kk = oTt s a - 15 := if_pos z
        rw [if_pos (l.mpr z), ek, show (15 : Int32) = nI 15 from rfl, pk_sub t15]
      · have ek : kk = 7 := if_neg z
        rw [if_neg (mt l.mp z), ek]
        rfl
    rw [e, k101, B243_101, nI_add, if_pos z1, c1]
  · rw [zgL_sL, oEe_eq hq3, if_neg hd]
    by_cases z : k = kk
    · rw [if_pos ⟨rfl, rfl, by omega⟩, if_pos]
      · rfl
      · rw [z]
        show oTt s a = (if oTt s a ≤ 21 then oTt s a - 15 else 7) + 15 ∨ ((if oTt s a ≤ 21 then oTt s a - 15 else 7) = 7 ∧ 22 ≤ oTt s a)
        by_cases z : oTt s a ≤ 21
        · rw [if_pos z]; omega
        · rw [if_neg z]; omega
    · rw [if_neg (by omega), w2 k hk, if_neg]
      · rfl
      · intro y
        apply z
        show k = (if oTt s a ≤ 21 then oTt s a - 15 else 7)
        by_cases z : oTt s a ≤ 21
        · rw [if_pos z]; omega
        · rw [if_neg z]; omega
theorem S243 {o q : Nat → Nat} : ∀ (f d s : Nat) (a : Bool) (u3 u4 u5 u6 u7 : zV) (B : zM), 21 ≤ s + f → s ≤ 31 → mH B o → mR B q → mE B o q s → ∃ B', zgo false (d + f + 2) 243 0 [zr 13 0, zi (nI s), zi (bI a), u3, u4, u5, u6, u7] [] B = some (none, B') ∧ zFo (mFe s) B B' ∧ mE B' o q s ∧ zgI B' 78 0 (mA s a) = 1 ∧ ∀ x, zgI B 78 0 x = 1 → zgI B' 78 0 x = 1 := by
  intro f
  induction f with
  | zero =>
    intro d s a u3 u4 u5 u6 u7 B hf hs hH hR hE
    rcases hE s a (Nat.le_refl _) hs with z | ⟨z, w⟩
    · obtain ⟨B', e, f, w1, w2⟩ := S243n d s a hs u3 u4 u5 u6 u7 (o := o) z hR hH (oDw_22 hR.2.2.2.2.2.2 (by omega))
      exact ⟨B', e, mOw_fe f, mE_own hE f w1 w2, w1, mono_own f w1⟩
    · exact ⟨B, S243m _ s a hs u3 u4 u5 u6 u7 z, zFo_refl _ B, hE, z, fun _ h => h⟩
  | succ f ih =>
    intro d s a u3 u4 u5 u6 u7 B hf hs hH hR hE
    rcases hE s a (Nat.le_refl _) hs with z | ⟨z, w⟩
    case inr => exact ⟨B, S243m _ s a hs u3 u4 u5 u6 u7 z, zFo_refl _ B, hE, z, fun _ h => h⟩
    by_cases hd : oDw q s a = true
    case neg =>
      obtain ⟨B', e, f, w1, w2⟩ := S243n (d + f + 1) s a hs u3 u4 u5 u6 u7 (o := o) z hR hH hd
      exact ⟨B', e, mOw_fe f, mE_own hE f w1 w2, w1, mono_own f w1⟩
    have s20 : s < 20 := by
      rcases Nat.lt_or_ge s 20 with z | z
      · exact z
      · exact absurd hd (oDw_22 hR.2.2.2.2.2.2 z)
    obtain ⟨B2, e2, f2, w1, w2⟩ := S243h (d + f + 1) s a hs u3 u4 u5 u6 u7 (o := o) (q := q) z hR hH
    have hE2 : mE B2 o q (s + 1) := fun s' a' s1 s2 => by
      have := bN_le a
      have := bN_le a'
      refine mE_same (hE s' a' (by omega) s2) ?_ (fun k hk => ?_)
      · exact (f2 78 0 _ (by unfold mA; omega)).1
      · exact (f2 77 0 _ (by unfold mA; omega)).2.1
    -- the loop over values
    have loop : ∀ (j n : Nat) (C : zM), n + j = 10 → mH C o → mR C q → mE C o q (s + 1) → (∀ v, 1 ≤ v → v ≤ n → 0 < o v → zgI C 78 0 (mA (s + v) (oA a v)) = 1) → ∃ C', zgo false (d + f + 3) 243 110 [zr 13 0, zi (nI s), zi (bI a), zi (nI (mA s a)), zi (nI (n + 1)), u5, u6, u7] [] C = zgo false (d + f + 3) 243 159 [zr 13 0, zi (nI s), zi (bI a), zi (nI (mA s a)), zi 0, u5, u6, u7] [] C' ∧ zFo (mFe (s + 1)) C C' ∧ mE C' o q (s + 1) ∧ (∀ v, 1 ≤ v → v ≤ 10 → 0 < o v → zgI C' 78 0 (mA (s + v) (oA a v)) = 1) ∧ ∀ x, zgI C 78 0 x = 1 → zgI C' 78 0 x = 1 := by
      intro j
      induction j with
      | zero =>
        intro n C hn h1 h2 h3 h4
        have hn : n = 10 := hn
        subst hn
        refine ⟨C, ?_, zFo_refl _ C, h3, h4, fun _ h => h⟩
        rw [B243_110, if_pos (by decide)]
      | succ j jh =>
        intro n C hn h1 h2 h3 h4
        have c : ¬ (10 : Int32) < nI (n + 1) := nI_nlt (a := 10) (by omega) (by omega)
        have z11 : zin (nI (n + 1)) 11 = true := zin_nI (by omega) (by omega)
        have c11 : (nI (n + 1)).toNatClampNeg = n + 1 := nI_clamp (by omega)
        have ob := oLe h1.2.2.2 (show n < 10 by omega)
        have e76 := h1.1 (n + 1) (by omega) (by omega)
        by_cases zo : o (n + 1) = 0
        · obtain ⟨C', e, r⟩ := jh (n + 1) C (by omega) h1 h2 h3 (fun v v1 v2 v3 => by
            rcases (by omega : v ≤ n ∨ v = n + 1) with y | y
            · exact h4 v v1 y v3
            · subst y
              omega)
          refine ⟨C', ?_, r⟩
          have l : nI (o (n + 1)) ≤ 0 := by rw [zo]; decide
          rw [B243_110, if_neg c, if_pos z11, c11, e76, if_pos l, B243_150, nI_1]
          exact e
        · obtain ⟨C1, e1, g1, m1, o1, p1⟩ := ih d (s + (n + 1)) (oA a (n + 1)) zu zu zu zu zu C (by omega) (by omega) h1 h2 (fun s' a' s1 s2 => h3 s' a' (by omega) s2)
          have g1' := mFe_mono g1 (show s + 1 ≤ s + (n + 1) by omega)
          obtain ⟨C', e, g, m, r, p⟩ := jh (n + 1) C1 (by omega) (mH_fr h1 g1 (fun v r => by unfold mFe at r; omega)) (mR_fr h2 g1 (fun v r => by unfold mFe at r; omega)) (mE_up h3 (by omega) g1 m1) (fun v v1 v2 v3 => by
            rcases (by omega : v ≤ n ∨ v = n + 1) with y | y
            · exact p1 _ (h4 v v1 y v3)
            · subst y
              exact o1)
          refine ⟨C', ?_, zFo_trans g1' g, m, r, fun x hx => p x (p1 x hx)⟩
          have l : ¬ nI (o (n + 1)) ≤ nI 0 := nI_ge (by omega) (by omega)
          have lx : nI (n + 1) = 1 ↔ n + 1 = 1 := nI_eq (b := 1) (by omega) (by omega)
          have hb := bI_or a (n + 1) ⟨by omega, by omega⟩
          have k147 : ∀ x : Int32, x = bI (oA a (n + 1)) → zgo false (d + f + 3) 243 147 [zr 13 0, zi (nI s), zi (bI a), zi (nI (mA s a)), zi (nI (n + 1)), u5, u6, u7] [zi x, zi (nI (s + (n + 1))), zr 13 0] C = zgo false (d + f + 3) 243 159 [zr 13 0, zi (nI s), zi (bI a), zi (nI (mA s a)), zi 0, u5, u6, u7] [] C' := by
            intro x hx
            rw [hx, B243_147, e1, zbsome, zpu0, B243_150, nI_1]
            exact e
          rw [B243_110, if_neg c, if_pos z11, c11, e76, if_neg (show ¬ nI (o (n + 1)) ≤ 0 from l), nI_add]
          by_cases ha : a = true
          · have hb1 : bI (oA a (n + 1)) = 1 := by rw [bI_n, hb, if_pos ha]; rfl
            rw [if_neg (fun y => (bI_0 a).mp y ha), B243_142]
            exact k147 1 hb1.symm
          · rw [if_pos ((bI_0 a).mpr ha)]
            rw [if_neg ha] at hb
            by_cases hv : n + 1 = 1
            · have hb1 : bI (oA a (n + 1)) = 1 := by rw [bI_n, hb, if_pos hv]; rfl
              rw [if_pos (lx.mpr hv), B243_142]
              exact k147 1 hb1.symm
            · have hb1 : bI (oA a (n + 1)) = 0 := by rw [bI_n, hb, if_neg hv]; rfl
              rw [if_neg (mt lx.mp hv)]
              exact k147 0 hb1.symm
    have hH2 : mH B2 o := mH_fr hH f2 (fun v r => by omega)
    have hR2 : mR B2 q := mR_fr hR f2 (fun v r => by omega)
    obtain ⟨B3, e3, f3, m3, v3, p3⟩ := loop 10 0 B2 rfl hH2 hR2 hE2 (fun v v1 v2 => by omega)
    have hH3 : mH B3 o := mH_fr hH2 f3 (fun v r => by unfold mFe at r; omega)
    obtain ⟨B4, e4, f4, w4⟩ := L243c (d + f + 3) s a (by omega) (o := o) (q := q) 8 0 B3 u5 u6 u7 rfl hH3 (fun k hk v v1 v2 v3' => by
      rcases m3 (s + v) (oA a v) (by omega) (by omega) with y | ⟨y, w⟩
      · rw [v3 v v1 v2 v3'] at y
        exact absurd y (by decide)
      · exact w k hk) (fun k' h' => by omega)
    have hb := bN_le a
    have g4 : zgI B4 78 0 (mA s a) = 1 := by
      rw [(f4 78 0 _ (by omega)).1, (f3 78 0 _ (by unfold mFe mA; omega)).1]
      exact w1
    refine ⟨B4, ?_, zFo_trans (mOw_fe f2) (zFo_trans (mFe_mono f3 (by omega)) (zFo_mono f4 (fun x y z r => by unfold mFe; unfold mA at r; omega))), ?_, g4, fun x hx => ?_⟩
    · have e66 : zgo false (d + f + 3) 243 66 [zr 13 0, zi (nI s), zi (bI a), zi (nI (mA s a)), zi 8, u5, u6, u7] [zi (bI (oDw q s a))] B2 = zgo false (d + f + 3) 243 110 [zr 13 0, zi (nI s), zi (bI a), zi (nI (mA s a)), zi 1, u5, u6, u7] [] B2 := by
        rw [B243_66, if_neg (fun y => (bI_0 _).mp y hd)]
      exact e2.trans (e66.trans (e3.trans e4))
    · intro s' a' s1 s2
      have hb' := bN_le a'
      by_cases zz : mA s' a' = mA s a
      · have z1 : s' = s ∧ a' = a := by
          unfold mA bN at zz
          cases a <;> cases a' <;> simp at zz ⊢ <;> omega
        rw [z1.1, z1.2]
        exact Or.inr ⟨g4, fun k hk => by rw [w4 k hk, oEe_eq hR.2.2.2.2.2.2, if_pos hd]⟩
      · rcases Nat.lt_or_ge s s' with y | y
        · refine mE_same (m3 s' a' (by omega) s2) ?_ (fun k hk => ?_)
          · exact (f4 78 0 _ (by omega)).1
          · exact (f4 77 0 _ (by unfold mA at zz ⊢; omega)).2.1
        · refine mE_same (hE s' a' s1 s2) ?_ (fun k hk => ?_)
          · rw [(f4 78 0 _ (by omega)).1, (f3 78 0 _ (by unfold mFe mA; omega)).1, (f2 78 0 _ (by omega)).1]
          · rw [(f4 77 0 _ (by unfold mA at zz ⊢; omega)).2.1, (f3 77 0 _ (by unfold mFe mA; omega)).2.1, (f2 77 0 _ (by unfold mA at zz ⊢; omega)).2.1]
    · rw [(f4 78 0 _ (by omega)).1]
      apply p3
      by_cases zz : x = mA s a
      · rw [zz]
        exact w1
      · rw [(f2 78 0 _ (by omega)).1]
        exact hx
