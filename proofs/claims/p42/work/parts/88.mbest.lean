/-! ===== odds: 'bestAt' ===== -/
theorem S250s (d s b k : Nat) (a : Bool) (hs : 1 ≤ s ∧ s ≤ 21) (hb : b ≤ 2) (hk : k ≤ 2) (x3 x5 : Int32) {o : Nat → Nat} {O : Nat → Int} (hO : ∀ k, 0 ≤ O k) (hQ : oQ O ≤ 1000000) {B : zM} (hH : mH B o) (hM : mO B O) (hD : mD B o O) (hx : ¬ x5 ≤ nI k) : ∃ B', zgo false (d + 25) 250 27 [zr 13 0, zi (nI s), zi (bI a), zi x3, zi (nI b), zi x5, zi (nI k)] [] B = zgo false (d + 25) 250 27 [zr 13 0, zi (nI s), zi (bI a), zi x3, zi (nI (if oW o O s a b < oW o O s a k then k else b)), zi x5, zi (nI (k + 1))] [] B' ∧ zFo mFd B B' ∧ mD B' o O := by
  obtain ⟨B1, e1, f1, m1⟩ := S249 d s k a hs hk hO hQ hH hM hD
  have hH1 : mH B1 o := mH_fr hH f1 (fun v r => by unfold mFd at r; omega)
  have hM1 : mO B1 O := mO_fr hM f1 (fun v r => by unfold mFd at r; omega)
  obtain ⟨B2, e2, f2, m2⟩ := S249 d s b a hs hb hO hQ hH1 hM1 m1
  refine ⟨B2, ?_, zFo_trans f1 f2, m2⟩
  have b1 := oW_b hH.2.2.1 hO hQ s a b
  have b2 := oW_b hH.2.2.1 hO hQ s a k
  have ln : lg_cmp (yJ (oW o O s a k)) (yJ (oW o O s a b)) ≤ 0 ↔ oW o O s a k ≤ oW o O s a b := by
    rw [lg_cmp_le]
    exact yJ_le ⟨by omega, by omega⟩ ⟨by omega, by omega⟩
  rw [B250_27, if_neg hx, e1, zbsome]
  show zgo false (d + 25) 250 42 _ [zl (yJ (oW o O s a k))] B1 = _
  rw [B250_42, e2, zbsome]
  show zgo false (d + 25) 250 50 _ [zl (yJ (oW o O s a b)), zl (yJ (oW o O s a k))] B2 = _
  rw [B250_50]
  by_cases z : oW o O s a b < oW o O s a k
  · rw [if_neg (mt ln.mp (by omega)), if_pos z, B250_58, nI_1]
  · rw [if_pos (ln.mpr (by omega)), if_neg z, B250_58, nI_1]
theorem S250 (d s : Nat) (a b : Bool) (hs : 1 ≤ s ∧ s ≤ 21) (u4 u5 u6 : zV) {o q : Nat → Nat} {O : Nat → Int} (hO : ∀ k, 0 ≤ O k) (hQ : oQ O ≤ 1000000) {B : zM} (hH : mH B o) (hR : mR B q) (hM : mO B O) (hD : mD B o O) : ∃ B', zgo false (d + 25) 250 0 [zr 13 0, zi (nI s), zi (bI a), zi (bI b), u4, u5, u6] [] B = some (some (zi (nI (oBst o O s a (b && Nat.beq (q 2) 1)))), B') ∧ zFo mFd B B' ∧ mD B' o O := by
  have z2 : zin 2 4 = true := rfl
  have c2 : (2 : Int32).toNatClampNeg = 2 := rfl
  have e57 := hR.1 2 (by omega)
  let m : Nat := if (b && Nat.beq (q 2) 1) = true then 3 else 2
  have k27 : zgo false (d + 25) 250 0 [zr 13 0, zi (nI s), zi (bI a), zi (bI b), u4, u5, u6] [] B = zgo false (d + 25) 250 27 [zr 13 0, zi (nI s), zi (bI a), zi (bI b), zi 0, zi (nI m), zi 1] [] B := by
    have two : m = 2 → zgo false (d + 25) 250 21 [zr 13 0, zi (nI s), zi (bI a), zi (bI b), zi 0, u5, u6] [] B = zgo false (d + 25) 250 27 [zr 13 0, zi (nI s), zi (bI a), zi (bI b), zi 0, zi (nI m), zi 1] [] B := by
      intro h
      rw [B250_21, B250_22, h]
      rfl
    rw [B250_0]
    cases b with
    | false =>
      rw [if_pos (show bI false = 0 from rfl)]
      exact two rfl
    | true =>
      rw [if_neg (by decide), if_pos z2, c2, e57]
      by_cases z : q 2 = 1
      · have l : nI (q 2) = 1 := by rw [z]; rfl
        have em : m = 3 := by
          show (if (true && Nat.beq (q 2) 1) = true then 3 else 2) = 3
          rw [z]
          rfl
        rw [if_pos l, B250_22, em]
        rfl
      · have l : ¬ nI (q 2) = 1 := by
          rw [show (1 : Int32) = nI 1 from rfl, nI_eq (by have := hR.2; omega) (by omega)]
          exact z
        have em : m = 2 := by
          refine if_neg ?_
          intro y
          exact z (Nat.eq_of_beq_eq_true y)
        rw [if_neg l]
        exact two em
  have m3 : m ≤ 3 ∧ 2 ≤ m := by
    show (if (b && Nat.beq (q 2) 1) = true then 3 else 2) ≤ 3 ∧ 2 ≤ (if (b && Nat.beq (q 2) 1) = true then 3 else 2)
    by_cases z : (b && Nat.beq (q 2) 1) = true
    · rw [if_pos z]; omega
    · rw [if_neg z]; omega
  obtain ⟨B1, e1, f1, m1⟩ := S250s d s 0 1 a hs (by omega) (by omega) (bI b) (nI m) hO hQ hH hM hD (nI_ge (by omega) (by omega))
  have hH1 : mH B1 o := mH_fr hH f1 (fun v r => by unfold mFd at r; omega)
  have hM1 : mO B1 O := mO_fr hM f1 (fun v r => by unfold mFd at r; omega)
  have ep : (if oW o O s a 0 < oW o O s a 1 then 1 else 0) = oM1 o O s a := rfl
  have hm1 : oM1 o O s a ≤ 2 := by
    unfold oM1
    by_cases z : oSt O (oTt s a) < oDe o O s a
    · rw [if_pos z]; omega
    · rw [if_neg z]; omega
  rw [ep] at e1
  by_cases z : (b && Nat.beq (q 2) 1) = true
  · have em : m = 3 := if_pos z
    obtain ⟨B2, e2, f2, m2⟩ := S250s d s (oM1 o O s a) 2 a hs hm1 (by omega) (bI b) (nI m) hO hQ hH1 hM1 m1 (nI_ge (by omega) (by omega))
    refine ⟨B2, ?_, zFo_trans f1 f2, m2⟩
    have er : (if oW o O s a (oM1 o O s a) < oW o O s a 2 then 2 else oM1 o O s a) = oBst o O s a (b && Nat.beq (q 2) 1) := by
      unfold oBst
      rw [z]
      by_cases y : oW o O s a (oM1 o O s a) < oDb o O s a
      · rw [if_pos (show oW o O s a (oM1 o O s a) < oW o O s a 2 from y), if_pos ⟨rfl, y⟩]
      · rw [if_neg (show ¬ oW o O s a (oM1 o O s a) < oW o O s a 2 from y), if_neg (fun w => y w.2)]
    rw [er] at e2
    rw [k27]
    refine e1.trans (e2.trans ?_)
    rw [B250_27, em, if_pos (by decide)]
  · have em : m = 2 := if_neg z
    refine ⟨B1, ?_, f1, m1⟩
    have er : oBst o O s a (b && Nat.beq (q 2) 1) = oM1 o O s a := if_neg (fun w => z w.1)
    rw [k27]
    refine e1.trans ?_
    rw [B250_27, em, if_pos (by decide), er]
