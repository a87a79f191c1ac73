/-! ===== odds: 'drawAt', 'doubleAt', 'playAt', 'bestAt' ===== -/
def mFd (a b _c : Nat) : Prop := b = 0 ∧ (a = 80 ∨ a = 81)
theorem mA_inj {s s' : Nat} {a a' : Bool} (h : mA s a = mA s' a') : s = s' ∧ a = a' := by
  unfold mA bN at h
  cases a <;> cases a' <;> simp at h ⊢ <;> omega
theorem oTt_le (s : Nat) (a : Bool) : oTt s a ≤ s + 10 ∧ s ≤ oTt s a := by
  unfold oTt
  by_cases z : a = true ∧ s ≤ 11
  · rw [if_pos z]; omega
  · rw [if_neg z]; omega
theorem oTt_cap (s : Nat) (a : Bool) (hs : s ≤ 31) : oTt s a ≤ 31 := by
  unfold oTt
  by_cases z : a = true ∧ s ≤ 11
  · rw [if_pos z]; omega
  · rw [if_neg z]; omega
theorem L247 (D s : Nat) (a : Bool) (hs : 1 ≤ s ∧ s ≤ 21) {o : Nat → Nat} {O : Nat → Int} (hO : ∀ k, 0 ≤ O k) (hQ : oQ O ≤ 1000000) (hrec : ∀ (v : Nat) (C : zM), 1 ≤ v → v ≤ 10 → oTt (s + v) (oA a v) < 21 → mH C o → mO C O → mD C o O → ∃ C', zgo false D 247 0 [zr 13 0, zi (nI (s + v)), zi (bI (oA a v)), zu, zu, zu, zu, zu, zu, zu, zu, zu, zu] [] C = some (some (zl (yJ (oDe o O (s + v) (oA a v)))), C') ∧ zFo mFd C C' ∧ mD C' o O) : ∀ (j n : Nat) (C : zM) (u5 u7 u8 u9 u10 u11 u12 : zV), n + j = 10 → mH C o → mO C O → mD C o O → ∃ C', zgo false (D + 1) 247 36 [zr 13 0, zi (nI s), zi (bI a), zi (nI (mA s a)), zl (yJ (oSm o (fun v => oNx O (oTt (s + v) (oA a v)) (oDe o O (s + v) (oA a v))) n)), u5, zi (nI (n + 1)), u7, u8, u9, u10, u11, u12] [] C = some (some (zl (yJ (oDe o O s a))), C') ∧ zFo mFd C C' ∧ mD C' o O
  | 0, n, C, u5, u7, u8, u9, u10, u11, u12, hn, hH, hM, hD => by
    have hn : n = 10 := hn
    subst hn
    have hb := bN_le a
    have ha : mA s a ≤ 63 := by
      unfold mA
      omega
    have z1 : zin (nI (mA s a)) 64 = true := zin_nI (by omega) (by omega)
    have c1 : (nI (mA s a)).toNatClampNeg = mA s a := nI_clamp (by omega)
    have b := oSm_b (o := o) (n := 10) (m := 1000000) (f := fun v => oNx O (oTt (s + v) (oA a v)) (oDe o O (s + v) (oA a v))) (by decide) hH.2.2.2 (Nat.le_refl _) (fun v _ _ => oNx_b hO hQ _ (oD_b hH.2.2.1 hO hQ 40 _ _))
    have bb : yB (ysm o : Nat) := ⟨by omega, by have := hH.2.2.2; omega⟩
    have w : yW (ysm o : Nat) := ⟨by omega, by have := hH.2.2.2; omega⟩
    have e0 : zgI (zsI C 81 0 (mA s a) (1 &&& 1)) 76 0 (0 : Int32).toNatClampNeg = nI (ysm o) := hH.2.1
    have ed : (yJ (oSm o (fun v => oNx O (oTt (s + v) (oA a v)) (oDe o O (s + v) (oA a v))) 10)) / yJ (ysm o) = yJ (oDe o O s a) := by
      rw [yJ_div ⟨by omega, by omega⟩ w (by have := hH.2.2.1; omega), oDe_eq]
      rfl
    refine ⟨zsL (zsI C 81 0 (mA s a) 1) 80 0 (mA s a) (yJ (oDe o O s a)), ?_, zFo_sL (zFo_sI (zFo_refl _ C) ⟨rfl, Or.inr rfl⟩) ⟨rfl, Or.inl rfl⟩, fun s' a' hs' => ?_⟩
    · have z0 : zin 0 11 = true := rfl
      rw [B247_36, if_pos (by decide), if_pos z1, if_pos z0, c1, e0, yI_nat, yIJ bb, if_neg (yJ_ne0 w (by have := hH.2.2.1; omega)), if_pos z1, ed, B247_171, if_pos z1, c1, zgL_sL, if_pos ⟨rfl, rfl, rfl⟩]
      rfl
    · by_cases z : mA s' a' = mA s a
      · have zz := mA_inj z
        rw [zz.1, zz.2]
        exact Or.inr ⟨by show zgI (zsI C 81 0 (mA s a) 1) 81 0 (mA s a) = 1; rw [zgI_sI, if_pos ⟨rfl, rfl, rfl⟩], by rw [zgL_sL, if_pos ⟨rfl, rfl, rfl⟩]⟩
      · have e1 : zgI (zsL (zsI C 81 0 (mA s a) 1) 80 0 (mA s a) (yJ (oDe o O s a))) 81 0 (mA s' a') = zgI C 81 0 (mA s' a') := by
          show zgI (zsI C 81 0 (mA s a) 1) 81 0 (mA s' a') = _
          rw [zgI_sI, if_neg (by omega)]
        have e2 : zgL (zsL (zsI C 81 0 (mA s a) 1) 80 0 (mA s a) (yJ (oDe o O s a))) 80 0 (mA s' a') = zgL C 80 0 (mA s' a') := by
          rw [zgL_sL, if_neg (by omega)]
          rfl
        rw [e1, e2]
        exact hD s' a' hs'
  | j + 1, n, C, u5, u7, u8, u9, u10, u11, u12, hn, hH, hM, hD => by
    have c : ¬ (10 : Int32) < nI (n + 1) := nI_nlt (a := 10) (by omega) (by omega)
    have z11 : zin (nI (n + 1)) 11 = true := zin_nI (by omega) (by omega)
    have c11 : (nI (n + 1)).toNatClampNeg = n + 1 := nI_clamp (by omega)
    have ob := oLe hH.2.2.2 (show n < 10 by omega)
    have e76 := hH.1 (n + 1) (by omega) (by omega)
    have l0 : nI (o (n + 1)) = 0 ↔ o (n + 1) = 0 := nI_eq (b := 0) (by omega) (by omega)
    by_cases zo : o (n + 1) = 0
    · obtain ⟨C', ih, r⟩ := L247 D s a hs hO hQ hrec j (n + 1) C (zkl u5) u7 u8 u9 u10 u11 u12 (by omega) hH hM hD
      have e : oSm o (fun v => oNx O (oTt (s + v) (oA a v)) (oDe o O (s + v) (oA a v))) (n + 1) = oSm o (fun v => oNx O (oTt (s + v) (oA a v)) (oDe o O (s + v) (oA a v))) n := by
        show _ + ((o (n + 1) : Nat) : Int) * _ = _
        rw [zo]
        simp
      rw [e] at ih
      refine ⟨C', ?_, r⟩
      rw [B247_36, if_neg c, if_pos z11, c11, e76, if_pos (l0.mpr zo), B247_142, nI_1]
      exact ih
    · let a' := oA a (n + 1)
      let t := oTt (s + (n + 1)) a'
      have tc : t ≤ 31 := oTt_cap _ _ (by omega)
      have hb := bI_or a (n + 1) ⟨by omega, by omega⟩
      have lv1 : nI (n + 1) = 1 ↔ n + 1 = 1 := nI_eq (b := 1) (by omega) (by omega)
      have l21 : (21 : Int32) ≤ nI t ↔ 21 ≤ t := nI_leI (a := 21) (by omega) (by omega)
      have e240 : zgo false D 240 0 [zi (nI (s + (n + 1))), zi (bI a')] [] C = some (some (zi (nI t)), C) := S240 D _ _ C (by omega)
      have e246 : zgo false D 246 0 [zr 13 0, zi (nI t), zu, zu, zu] [] C = some (some (zl (yJ (oSt O t))), C) := S246 D t (by omega) zu zu zu hM
      -- behind the bit
      have k77 : zgo false (D + 1) 247 36 [zr 13 0, zi (nI s), zi (bI a), zi (nI (mA s a)), zl (yJ (oSm o (fun v => oNx O (oTt (s + v) (oA a v)) (oDe o O (s + v) (oA a v))) n)), u5, zi (nI (n + 1)), u7, u8, u9, u10, u11, u12] [] C = zgo false (D + 1) 247 77 [zr 13 0, zi (nI s), zi (bI a), zi (nI (mA s a)), zl (yJ (oSm o (fun v => oNx O (oTt (s + v) (oA a v)) (oDe o O (s + v) (oA a v))) n)), u5, zi (nI (n + 1)), zi (nI (s + (n + 1))), u8, u9, u10, u11, u12] [zi (bI a')] C := by
        rw [B247_36, if_neg c, if_pos z11, c11, e76, if_neg (mt l0.mp zo), nI_add, B247_62]
        by_cases ha : a = true
        · have hb1 : bI a' = 1 := by rw [bI_n, hb, if_pos ha]; rfl
          rw [if_neg (fun y => (bI_0 a).mp y ha), B247_72, hb1]
        · rw [if_pos ((bI_0 a).mpr ha)]
          rw [if_neg ha] at hb
          by_cases hv : n + 1 = 1
          · have hb1 : bI a' = 1 := by rw [bI_n, hb, if_pos hv]; rfl
            rw [if_pos (lv1.mpr hv), B247_72, hb1]
          · have hb1 : bI a' = 0 := by rw [bI_n, hb, if_neg hv]; rfl
            rw [if_neg (mt lv1.mp hv), hb1]
      have k99 : zgo false (D + 1) 247 77 [zr 13 0, zi (nI s), zi (bI a), zi (nI (mA s a)), zl (yJ (oSm o (fun v => oNx O (oTt (s + v) (oA a v)) (oDe o O (s + v) (oA a v))) n)), u5, zi (nI (n + 1)), zi (nI (s + (n + 1))), u8, u9, u10, u11, u12] [zi (bI a')] C = zgo false (D + 1) 247 99 [zr 13 0, zi (nI s), zi (bI a), zi (nI (mA s a)), zl (yJ (oSm o (fun v => oNx O (oTt (s + v) (oA a v)) (oDe o O (s + v) (oA a v))) n)), u5, zi (nI (n + 1)), zi (nI (s + (n + 1))), zi (bI a'), zl (yJ (oSt O t)), zu, u11, u12] [zi (nI t)] C := by
        rw [B247_77, e240, zbsome]
        show zgo false (D + 1) 247 87 _ [zi (nI t), zr 13 0] C = _
        rw [B247_87, e246, zbsome]
        show zgo false (D + 1) 247 90 _ [zl (yJ (oSt O t))] C = _
        rw [B247_90, e240, zbsome, zpu1]
      have es : oSm o (fun v => oNx O (oTt (s + v) (oA a v)) (oDe o O (s + v) (oA a v))) (n + 1) = oSm o (fun v => oNx O (oTt (s + v) (oA a v)) (oDe o O (s + v) (oA a v))) n + (o (n + 1) : Int) * oNx O t (oDe o O (s + (n + 1)) a') := rfl
      -- what is added, and on
      have fin : ∀ (C1 : zM) (x : Int) (u10' u11' u12' : zV), x = oNx O t (oDe o O (s + (n + 1)) a') → mH C1 o → mO C1 O → mD C1 o O → ∃ C', zgo false (D + 1) 247 126 [zr 13 0, zi (nI s), zi (bI a), zi (nI (mA s a)), zl (yJ (oSm o (fun v => oNx O (oTt (s + v) (oA a v)) (oDe o O (s + v) (oA a v))) n)), u5, zi (nI (n + 1)), zi (nI (s + (n + 1))), zi (bI a'), zl (yJ x), u10', u11', u12'] [] C1 = some (some (zl (yJ (oDe o O s a))), C') ∧ zFo mFd C1 C' ∧ mD C' o O := by
        intro C1 x u10' u11' u12' hx hH1 hM1 hD1
        obtain ⟨C', ih, r⟩ := L247 D s a hs hO hQ hrec j (n + 1) C1 (zkl zu) (zi (nI (s + (n + 1)))) (zi (bI a')) (zl (yJ x)) u10' u11' u12' (by omega) hH1 hM1 hD1
        rw [es, ← hx] at ih
        refine ⟨C', ?_, r⟩
        have e761 := hH1.1 (n + 1) (by omega) (by omega)
        rw [B247_126, if_pos z11, c11, e761, yI_nat (o (n + 1)), yIJ ⟨by omega, by omega⟩, yJ_mul, yJ_add, B247_142, nI_1]
        exact ih
      rw [k77, k99]
      by_cases h21 : 21 ≤ t
      · have ex : oSt O t = oNx O t (oDe o O (s + (n + 1)) a') := (if_neg (by omega)).symm
        obtain ⟨C', e, r⟩ := fin C (oSt O t) zu u11 u12 ex hH hM hD
        refine ⟨C', ?_, r⟩
        rw [B247_99, if_pos (l21.mpr h21)]
        exact e
      · obtain ⟨C1, e1, f1, m1⟩ := hrec (n + 1) C (by omega) (by omega) (show t < 21 by omega) hH hM hD
        have hH1 : mH C1 o := mH_fr hH f1 (fun v r => by unfold mFd at r; omega)
        have hM1 : mO C1 O := mO_fr hM f1 (fun v r => by unfold mFd at r; omega)
        have b1 := oSt_b hO hQ t
        have b2 : -1000000 ≤ oDe o O (s + (n + 1)) a' ∧ oDe o O (s + (n + 1)) a' ≤ 1000000 := oD_b hH.2.2.1 hO hQ 40 _ _
        have ln : lg_cmp (yJ (oDe o O (s + (n + 1)) a')) (yJ (oSt O t)) ≤ 0 ↔ oDe o O (s + (n + 1)) a' ≤ oSt O t := by
          rw [lg_cmp_le]
          exact yJ_le ⟨by omega, by omega⟩ ⟨by omega, by omega⟩
        have k112 : zgo false (D + 1) 247 99 [zr 13 0, zi (nI s), zi (bI a), zi (nI (mA s a)), zl (yJ (oSm o (fun v => oNx O (oTt (s + v) (oA a v)) (oDe o O (s + v) (oA a v))) n)), u5, zi (nI (n + 1)), zi (nI (s + (n + 1))), zi (bI a'), zl (yJ (oSt O t)), zu, u11, u12] [zi (nI t)] C = zgo false (D + 1) 247 112 [zr 13 0, zi (nI s), zi (bI a), zi (nI (mA s a)), zl (yJ (oSm o (fun v => oNx O (oTt (s + v) (oA a v)) (oDe o O (s + v) (oA a v))) n)), u5, zi (nI (n + 1)), zi (nI (s + (n + 1))), zi (bI a'), zl (yJ (oSt O t)), zu, u11, u12] [zl (yJ (oDe o O (s + (n + 1)) a'))] C1 := by
          rw [B247_99, if_neg (mt l21.mp h21), e1]
          rfl
        by_cases hl : oSt O t < oDe o O (s + (n + 1)) a'
        · have ex : oDe o O (s + (n + 1)) a' = oNx O t (oDe o O (s + (n + 1)) a') := by
            unfold oNx
            rw [if_pos (by omega), if_pos hl]
          obtain ⟨C', e, g, m⟩ := fin C1 _ zu (zl (yJ (oDe o O (s + (n + 1)) a'))) zu ex hH1 hM1 m1
          refine ⟨C', ?_, zFo_trans f1 g, m⟩
          rw [k112, B247_112, if_neg (mt ln.mp (by omega))]
          exact e
        · have ex : oSt O t = oNx O t (oDe o O (s + (n + 1)) a') := by
            unfold oNx
            rw [if_pos (by omega), if_neg hl]
          obtain ⟨C', e, g, m⟩ := fin C1 _ (zkl zu) (zl (yJ (oDe o O (s + (n + 1)) a'))) zu ex hH1 hM1 m1
          refine ⟨C', ?_, zFo_trans f1 g, m⟩
          rw [k112, B247_112, if_pos (ln.mpr (by omega))]
          exact e
theorem S247p (D s : Nat) (a : Bool) (hs : s ≤ 31) (u3 u4 u5 u6 u7 u8 u9 u10 u11 u12 : zV) (B : zM) : zgo false D 247 0 [zr 13 0, zi (nI s), zi (bI a), u3, u4, u5, u6, u7, u8, u9, u10, u11, u12] [] B = if zgI B 81 0 (mA s a) = 0 then zgo false D 247 36 [zr 13 0, zi (nI s), zi (bI a), zi (nI (mA s a)), zl 0, zkl zu, zi 1, u7, u8, u9, u10, u11, u12] [] B else some (some (zl (zgL B 80 0 (mA s a))), B) := by
  have hb := bN_le a
  have ha : mA s a ≤ 63 := by
    unfold mA
    omega
  have z1 : zin (nI (mA s a)) 64 = true := zin_nI (by omega) (by omega)
  have c1 : (nI (mA s a)).toNatClampNeg = mA s a := nI_clamp (by omega)
  have k12 : zgo false D 247 0 [zr 13 0, zi (nI s), zi (bI a), u3, u4, u5, u6, u7, u8, u9, u10, u11, u12] [] B = zgo false D 247 12 [zr 13 0, zi (nI s), zi (bI a), u3, u4, u5, u6, u7, u8, u9, u10, u11, u12] [zi (nI (bN a)), zi (nI (2 * s))] B := by
    have e2 : 2 * nI s = nI (2 * s) := by rw [show (2 : Int32) = nI 2 from rfl, pk_mul]
    rw [B247_0, e2]
    cases a with
    | true => rw [if_neg (by decide)]; rfl
    | false => rw [if_pos (show bI false = 0 from rfl)]; rfl
  have es : nI (2 * s) + nI (bN a) = nI (mA s a) := nI_add _ _
  rw [k12, B247_12, es, if_pos z1, c1, B247_33]
  by_cases z : zgI B 81 0 (mA s a) = 0
  · rw [if_pos z, if_pos z]
  · rw [if_neg z, if_neg z, if_pos z1]
/-- 'drawAt' -/
theorem S247 {o : Nat → Nat} {O : Nat → Int} (hO : ∀ k, 0 ≤ O k) (hQ : oQ O ≤ 1000000) : ∀ (f d s : Nat) (a : Bool) (u3 u4 u5 u6 u7 u8 u9 u10 u11 u12 : zV) (B : zM), 21 ≤ s + f → 1 ≤ s → s ≤ 21 → mH B o → mO B O → mD B o O → ∃ B', zgo false (d + f + 1) 247 0 [zr 13 0, zi (nI s), zi (bI a), u3, u4, u5, u6, u7, u8, u9, u10, u11, u12] [] B = some (some (zl (yJ (oDe o O s a))), B') ∧ zFo mFd B B' ∧ mD B' o O := by
  intro f
  induction f with
  | zero =>
    intro d s a u3 u4 u5 u6 u7 u8 u9 u10 u11 u12 B hf h1 h2 hH hM hD
    rcases hD s a (by omega) with z | ⟨z, w⟩
    · obtain ⟨B', e, r⟩ := L247 d s a ⟨h1, h2⟩ hO hQ (fun v C v1 v2 ht _ _ _ => by
        have := (oTt_le (s + v) (oA a v)).2
        omega) 10 0 B (zkl zu) u7 u8 u9 u10 u11 u12 rfl hH hM hD
      refine ⟨B', ?_, r⟩
      rw [S247p _ _ _ (by omega), if_pos z]
      exact e
    · refine ⟨B, ?_, zFo_refl _ B, hD⟩
      rw [S247p _ _ _ (by omega), z, if_neg (by decide), w]
  | succ f ih =>
    intro d s a u3 u4 u5 u6 u7 u8 u9 u10 u11 u12 B hf h1 h2 hH hM hD
    rcases hD s a (by omega) with z | ⟨z, w⟩
    · obtain ⟨B', e, r⟩ := L247 (d + f + 1) s a ⟨h1, h2⟩ hO hQ (fun v C v1 v2 ht q1 q2 q3 => by
        have := (oTt_le (s + v) (oA a v)).2
        exact ih d (s + v) (oA a v) zu zu zu zu zu zu zu zu zu zu C (by omega) (by omega) (by omega) q1 q2 q3) 10 0 B (zkl zu) u7 u8 u9 u10 u11 u12 rfl hH hM hD
      refine ⟨B', ?_, r⟩
      have k := S247p (d + (f + 1) + 1) s a (by omega) u3 u4 u5 u6 u7 u8 u9 u10 u11 u12 B
      rw [k, if_pos z]
      exact e
    · refine ⟨B, ?_, zFo_refl _ B, hD⟩
      rw [S247p _ _ _ (by omega), z, if_neg (by decide), w]
theorem L248 (d s : Nat) (a : Bool) (hs : s ≤ 21) {o : Nat → Nat} {O : Nat → Int} (hO : ∀ k, 0 ≤ O k) (hQ : oQ O ≤ 1000000) {B : zM} (hH : mH B o) (hM : mO B O) : ∀ (j n : Nat) (u4 : zV), n + j = 10 → zgo false (d + 1) 248 5 [zr 13 0, zi (nI s), zi (bI a), zl (yJ (oSm o (fun v => oSt O (oTt (s + v) (oA a v))) n)), u4, zi (nI (n + 1))] [] B = some (some (zl (yJ (oDb o O s a))), B)
  | 0, n, u4, hn => by
    have hn : n = 10 := hn
    subst hn
    have b := oSm_b (o := o) (n := 10) (m := 1000000) (f := fun v => oSt O (oTt (s + v) (oA a v))) (by decide) hH.2.2.2 (Nat.le_refl _) (fun v _ _ => oSt_b hO hQ _)
    have bb : yB (ysm o : Nat) := ⟨by omega, by have := hH.2.2.2; omega⟩
    have w : yW (ysm o : Nat) := ⟨by omega, by have := hH.2.2.2; omega⟩
    have e0 : zgI B 76 0 (0 : Int32).toNatClampNeg = nI (ysm o) := hH.2.1
    have z0 : zin 0 11 = true := rfl
    rw [B248_5, if_pos (by decide), if_pos z0, e0, yI_nat, yIJ bb, if_neg (yJ_ne0 w (by have := hH.2.2.1; omega)), yJ_div ⟨by omega, by omega⟩ w (by have := hH.2.2.1; omega), show (2 : Int64) = yJ 2 from rfl, yJ_mul]
    rfl
  | j + 1, n, u4, hn => by
    have ih := L248 d s a hs hO hQ hH hM j (n + 1) zu (by omega)
    have c : ¬ (10 : Int32) < nI (n + 1) := nI_nlt (a := 10) (by omega) (by omega)
    have z11 : zin (nI (n + 1)) 11 = true := zin_nI (by omega) (by omega)
    have c11 : (nI (n + 1)).toNatClampNeg = n + 1 := nI_clamp (by omega)
    have ob := oLe hH.2.2.2 (show n < 10 by omega)
    have e76 := hH.1 (n + 1) (by omega) (by omega)
    have hb := bI_or a (n + 1) ⟨by omega, by omega⟩
    have lv1 : nI (n + 1) = 1 ↔ n + 1 = 1 := nI_eq (b := 1) (by omega) (by omega)
    have tc : oTt (s + (n + 1)) (oA a (n + 1)) ≤ 31 := oTt_cap _ _ (by omega)
    have k41 : ∀ x : Int32, x = bI (oA a (n + 1)) → zgo false (d + 1) 248 41 [zr 13 0, zi (nI s), zi (bI a), zl (yJ (oSm o (fun v => oSt O (oTt (s + v) (oA a v))) n)), u4, zi (nI (n + 1))] [zi x, zi (nI (s + (n + 1))), zr 13 0, zl (yJ (o (n + 1))), zl (yJ (oSm o (fun v => oSt O (oTt (s + v) (oA a v))) n))] B = some (some (zl (yJ (oDb o O s a))), B) := by
      intro x hx
      rw [hx, B248_41, S240 _ _ _ _ (by omega), zbsome]
      show zgo false (d + 1) 248 44 _ [zi (nI (oTt (s + (n + 1)) (oA a (n + 1)))), zr 13 0, zl (yJ (o (n + 1))), zl _] B = _
      rw [B248_44, S246 _ _ (by omega) zu zu zu hM, zbsome]
      show zgo false (d + 1) 248 47 _ [zl (yJ (oSt O (oTt (s + (n + 1)) (oA a (n + 1))))), zl (yJ (o (n + 1))), zl _] B = _
      rw [B248_47, nI_1, yJ_mul, yJ_add]
      exact ih
    rw [B248_5, if_neg c, if_pos z11, c11, e76, yI_nat (o (n + 1)), yIJ ⟨by omega, by omega⟩, nI_add]
    by_cases ha : a = true
    · have hb1 : bI (oA a (n + 1)) = 1 := by rw [bI_n, hb, if_pos ha]; rfl
      rw [if_neg (fun y => (bI_0 a).mp y ha), B248_36]
      exact k41 1 hb1.symm
    · rw [if_pos ((bI_0 a).mpr ha)]
      rw [if_neg ha] at hb
      by_cases hv : n + 1 = 1
      · have hb1 : bI (oA a (n + 1)) = 1 := by rw [bI_n, hb, if_pos hv]; rfl
        rw [if_pos (lv1.mpr hv), B248_36]
        exact k41 1 hb1.symm
      · have hb1 : bI (oA a (n + 1)) = 0 := by rw [bI_n, hb, if_neg hv]; rfl
        rw [if_neg (mt lv1.mp hv)]
        exact k41 0 hb1.symm
/-- 'playAt' -/
theorem S249 (d s p : Nat) (a : Bool) (hs : 1 ≤ s ∧ s ≤ 21) (hp : p ≤ 2) {o : Nat → Nat} {O : Nat → Int} (hO : ∀ k, 0 ≤ O k) (hQ : oQ O ≤ 1000000) {B : zM} (hH : mH B o) (hM : mO B O) (hD : mD B o O) : ∃ B', zgo false (d + 24) 249 0 [zr 13 0, zi (nI s), zi (bI a), zi (nI p)] [] B = some (some (zl (yJ (oW o O s a p))), B') ∧ zFo mFd B B' ∧ mD B' o O := by
  have tc : oTt s a ≤ 31 := oTt_cap _ _ (by omega)
  rcases (by omega : p = 0 ∨ p = 1 ∨ p = 2) with rfl | rfl | rfl
  · refine ⟨B, ?_, zFo_refl _ B, hD⟩
    rw [B249_0, if_pos (show nI 0 = 0 from rfl), S240 _ _ _ _ (by omega), zbsome]
    show zgo false (d + 24) 249 10 _ [zi (nI (oTt s a)), zr 13 0] B = _
    rw [B249_10, S246 _ _ (by omega) zu zu zu hM, zbsome]
    show zgo false (d + 24) 249 13 _ [zl (yJ (oSt O (oTt s a)))] B = _
    rw [B249_13, B249_36]
    rfl
  · obtain ⟨B', e, r⟩ := S247 hO hQ 21 (d + 1) s a zu zu zu zu zu zu zu zu zu zu B (by omega) hs.1 hs.2 hH hM hD
    refine ⟨B', ?_, r⟩
    have e : zgo false (d + 23) 247 0 [zr 13 0, zi (nI s), zi (bI a), zu, zu, zu, zu, zu, zu, zu, zu, zu, zu] [] B = some (some (zl (yJ (oDe o O s a))), B') := e
    rw [B249_0, if_neg (by decide), if_pos (show nI 1 = 1 from rfl), e, zbsome]
    show zgo false (d + 24) 249 27 _ [zl (yJ (oDe o O s a))] B' = _
    rw [B249_27, B249_36]
    rfl
  · refine ⟨B, ?_, zFo_refl _ B, hD⟩
    have e : zgo false (d + 23) 248 0 [zr 13 0, zi (nI s), zi (bI a), zu, zu, zu] [] B = some (some (zl (yJ (oDb o O s a))), B) := by
      rw [B248_0]
      exact L248 (d + 22) s a hs.2 hO hQ hH hM 10 0 zu rfl
    rw [B249_0, if_neg (by decide), if_neg (by decide), e, zbsome]
    show zgo false (d + 24) 249 36 _ [zl (yJ (oDb o O s a))] B = _
    rw [B249_36]
    rfl
