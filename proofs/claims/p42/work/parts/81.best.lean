/-! ===== odds: plays and the best of them ===== -/
def oW (o : Nat → Nat) (O : Nat → Int) (s : Nat) (a : Bool) (p : Nat) : Int := if p = 0 then oSt O (oTt s a) else if p = 1 then oDe o O s a else oDb o O s a
def oM1 (o : Nat → Nat) (O : Nat → Int) (s : Nat) (a : Bool) : Nat := if oSt O (oTt s a) < oDe o O s a then 1 else 0
/-- the best play; b: whether it may be the double -/
def oBst (o : Nat → Nat) (O : Nat → Int) (s : Nat) (a b : Bool) : Nat := if b = true ∧ oW o O s a (oM1 o O s a) < oDb o O s a then 2 else oM1 o O s a
theorem oDb_hard (o : Nat → Nat) (O : Nat → Int) (s : Nat) (h : 11 < s) : oDb o O s true = oDb o O s false := by
  unfold oDb
  have e : oAv o (fun v => oSt O (oTt (s + v) (oA true v))) = oAv o (fun v => oSt O (oTt (s + v) (oA false v))) := oAv_congr (fun v v1 v2 => by
    rw [oTt_hard (by omega : ¬ (oA true v = true ∧ s + v ≤ 11)), oTt_hard (by omega : ¬ (oA false v = true ∧ s + v ≤ 11))])
  rw [e]
theorem oDn_at2 {A : zM} {o : Nat → Nat} {O : Nat → Int} {lo lo2 s : Nat} {a : Bool} (h : oDn A o O lo lo2) (h1 : lo ≤ s) (h2 : lo2 ≤ s) (hs : s ≤ 21) : zgI A 40 0 (oPl s a) = yI (oDb o O s a) := by
  unfold oPl
  by_cases c : a = true ∧ s ≤ 11
  · rw [if_pos c, (h.2 s h2 c.2).2, c.1]
  · rw [if_neg c, if_pos (by omega), (h.1 s h1 hs).2]
    cases ha : a with
    | false => rfl
    | true =>
      have : 11 < s := by
        rcases Nat.lt_or_ge 11 s with z | z
        · exact z
        · exact absurd ⟨ha, z⟩ c
      rw [oDb_hard o O s this]
theorem oW_b {o : Nat → Nat} {O : Nat → Int} (hN : 0 < ysm o) (hO : ∀ k, 0 ≤ O k) (hQ : oQ O ≤ 1000000) (s : Nat) (a : Bool) (p : Nat) : -2000000 ≤ oW o O s a p ∧ oW o O s a p ≤ 2000000 := by
  have b1 := oSt_b hO hQ (oTt s a)
  have b2 : -1000000 ≤ oDe o O s a ∧ oDe o O s a ≤ 1000000 := oD_b hN hO hQ 40 s a
  have b3 := oAv_b (o := o) (f := fun v => oSt O (oTt (s + v) (oA a v))) (m := 1000000) (by decide) hN (fun v _ _ => oSt_b hO hQ _)
  unfold oW
  by_cases c : p = 0
  · rw [if_pos c]; omega
  · rw [if_neg c]
    by_cases c : p = 1
    · rw [if_pos c]; omega
    · rw [if_neg c]
      unfold oDb
      omega
/-- what stands ready against an open value -/
def oFc (A : zM) (o : Nat → Nat) (O : Nat → Int) : Prop := oOp A O ∧ oSd A O ∧ oDn A o O 1 1 ∧ (∀ k, 0 ≤ O k) ∧ oQ O ≤ 1000000 ∧ 0 < ysm o
theorem S63 (d s p : Nat) (a : Bool) (hs : 1 ≤ s ∧ s ≤ 21) (hp : p ≤ 2) (u3 : zV) {A : zM} {o : Nat → Nat} {O : Nat → Int} (h : oFc A o O) : zgo false (d + 1) 63 0 [zr 7 0, zi (nI (oHd s a)), zi (nI p), u3] [] A = some (some (zi (yI (oW o O s a p))), A) := by
  obtain ⟨h1, h2, h3, -⟩ := h
  have hl : oPl s a ≤ 53 := oPl_lt
  have go : ∀ K, (∀ d, zgo false d 169 0 [zr K 0, zi (nI (oPl s a))] [] A = some (some (zi (yI (oW o O s a p))), A)) → zgo false (d + 1) 63 27 [zr 7 0, zi (nI (oHd s a)), zi (nI p), u3] [zr K 0] A = some (some (zi (yI (oW o O s a p))), A) := by
    intro K hK
    rw [B63_27, S74y _ _ _ _ _ (by omega), zbsome]
    show zgo false (d + 1) 63 33 [zr 7 0, zi (nI (oHd s a)), zi (nI p), zr K 0] [zi (nI (oPl s a)), zr K 0] A = _
    rw [B63_33, hK, zbsome, zpu1, B63_36]
  rcases (by omega : p = 0 ∨ p = 1 ∨ p = 2) with rfl | rfl | rfl
  · rw [B63_0, if_pos (show nI 0 = 0 from rfl)]
    exact go 38 (fun d => (at38n false d 0 _ A (by omega)).trans (by rw [oSd_at h2 hs.1]; rfl))
  · rw [B63_0, if_neg (by decide), if_pos (show nI 1 = 1 from rfl)]
    exact go 39 (fun d => (at39n false d 0 _ A (by omega)).trans (by rw [oDn_at h3 hs.1 hs.1 hs.2]; rfl))
  · rw [B63_0, if_neg (by decide), if_neg (by decide)]
    exact go 40 (fun d => (at40n false d 0 _ A (by omega)).trans (by rw [oDn_at2 h3 hs.1 hs.1 hs.2]; rfl))
theorem S64 (d s : Nat) (a b : Bool) (hs : 1 ≤ s ∧ s ≤ 21) (u3 u4 u5 : zV) {A : zM} {o q : Nat → Nat} {O : Nat → Int} (hR : oR A q) (h : oFc A o O) : zgo false (d + 1) 64 0 [zr 7 0, zi (nI (oHd s a)), zi (if b = true then 1 else 0), u3, u4, u5] [] A = some (some (zi (nI (oBst o O s a (b && Nat.beq (q 2) 1)))), A) := by
  have hh := h
  obtain ⟨h1, h2, h3, hO, hQ, hN⟩ := h
  have hl : oPl s a ≤ 53 := oPl_lt
  have s1 : ∀ d, zgo false d 169 0 [zr 38 0, zi (nI (oPl s a))] [] A = some (some (zi (yI (oSt O (oTt s a)))), A) := fun d => (at38n false d 0 _ A (by omega)).trans (by rw [oSd_at h2 hs.1])
  have s2 : ∀ d, zgo false d 169 0 [zr 39 0, zi (nI (oPl s a))] [] A = some (some (zi (yI (oDe o O s a))), A) := fun d => (at39n false d 0 _ A (by omega)).trans (by rw [oDn_at h3 hs.1 hs.1 hs.2])
  have s3 : ∀ d, zgo false d 169 0 [zr 40 0, zi (nI (oPl s a))] [] A = some (some (zi (yI (oDb o O s a))), A) := fun d => (at40n false d 0 _ A (by omega)).trans (by rw [oDn_at2 h3 hs.1 hs.1 hs.2])
  have r2 : ∀ d, zgo false d 169 0 [zr 34 0, zi 2] [] A = some (some (zi (nI (q 2))), A) := fun d => (at34n false d 0 2 A (by omega)).trans (by rw [hR.1 2 (by omega)])
  have b0 := oW_b hN hO hQ s a 0
  have b1 := oW_b hN hO hQ s a 1
  have b2 := oW_b hN hO hQ s a 2
  have bm := oW_b hN hO hQ s a (oM1 o O s a)
  have e0 : oW o O s a 0 = oSt O (oTt s a) := rfl
  have e1 : oW o O s a 1 = oDe o O s a := rfl
  have e2 : oW o O s a 2 = oDb o O s a := rfl
  have l1 : yI (oDe o O s a) ≤ yI (oSt O (oTt s a)) ↔ oDe o O s a ≤ oSt O (oTt s a) := yI_le ⟨by omega, by omega⟩ ⟨by omega, by omega⟩
  have l2 : yI (oDb o O s a) ≤ yI (oW o O s a (oM1 o O s a)) ↔ oDb o O s a ≤ oW o O s a (oM1 o O s a) := yI_le ⟨by omega, by omega⟩ ⟨by omega, by omega⟩
  have k : zgo false (d + 1) 64 0 [zr 7 0, zi (nI (oHd s a)), zi (if b = true then 1 else 0), u3, u4, u5] [] A = zgo false (d + 1) 64 44 [zr 7 0, zi (nI (oHd s a)), zi (if b = true then 1 else 0), zi (nI (oPl s a)), zi (nI (oM1 o O s a)), zi (yI (oW o O s a (oM1 o O s a)))] [] A := by
    rw [B64_0, S74y _ _ _ _ _ (by omega), zbsome, zpu1, B64_4, s1, zbsome, zpu1, B64_16, s2, zbsome, zpu1, B64_26]
    by_cases z : oSt O (oTt s a) < oDe o O s a
    · have em : oM1 o O s a = 1 := if_pos z
      rw [if_neg (mt l1.mp (by omega)), s2, zbsome, zpu1, B64_42, em]
      rfl
    · have em : oM1 o O s a = 0 := if_neg z
      rw [if_pos (l1.mpr (by omega)), em]
      rfl
  rw [k, B64_44]
  cases b with
  | false =>
    have e : oBst o O s a (false && Nat.beq (q 2) 1) = oM1 o O s a := if_neg (fun z => by cases z.1)
    rw [if_pos (by decide), B64_77, B64_79, e]
  | true =>
    rw [if_neg (by decide), r2, zbsome, zpu1, B64_56]
    by_cases z : q 2 = 1
    · have e : (true && Nat.beq (q 2) 1) = true := by rw [z]; rfl
      have l3 : nI (q 2) = 1 := by rw [z]; rfl
      rw [if_pos l3, s3, zbsome, zpu1, B64_68, e]
      by_cases z2 : oW o O s a (oM1 o O s a) < oDb o O s a
      · have e3 : oBst o O s a true = 2 := if_pos ⟨rfl, z2⟩
        rw [if_neg (mt l2.mp (by omega)), B64_79, e3]
        rfl
      · have e3 : oBst o O s a true = oM1 o O s a := if_neg (fun y => z2 y.2)
        rw [if_pos (l2.mpr (by omega)), B64_77, B64_79, e3]
    · have e : (true && Nat.beq (q 2) 1) = false := by
        cases hb : Nat.beq (q 2) 1 with
        | false => rfl
        | true => exact absurd (Nat.eq_of_beq_eq_true hb) z
      have l3 : ¬ nI (q 2) = 1 := by
        rw [show (1 : Int32) = nI 1 from rfl, nI_eq (by have := hR.2; omega) (by omega)]
        exact z
      have e3 : oBst o O s a false = oM1 o O s a := if_neg (fun y => by cases y.1)
      rw [if_neg l3, B64_77, B64_79, e, e3]
theorem oBst_le (o : Nat → Nat) (O : Nat → Int) (s : Nat) (a b : Bool) : oBst o O s a b ≤ 2 := by
  unfold oBst oM1
  by_cases z : b = true ∧ oW o O s a (if oSt O (oTt s a) < oDe o O s a then 1 else 0) < oDb o O s a
  · rw [if_pos z]; omega
  · rw [if_neg z]
    by_cases z : oSt O (oTt s a) < oDe o O s a
    · rw [if_pos z]; omega
    · rw [if_neg z]; omega
def oMx (x y : Int) : Int := if x < y then y else x
/-- what the best play is better than the next -/
def oLn (o : Nat → Nat) (O : Nat → Int) (s : Nat) (a b : Bool) : Int := oW o O s a (oBst o O s a b) - (if oBst o O s a b = 2 then oMx (oW o O s a 0) (oW o O s a 1) else if b = true then oMx (oW o O s a (if oBst o O s a b = 0 then 1 else 0)) (oW o O s a 2) else oW o O s a (if oBst o O s a b = 0 then 1 else 0))
theorem S65 (d s : Nat) (a : Bool) (hs : 1 ≤ s ∧ s ≤ 21) (u2 u3 : zV) {A : zM} {o q : Nat → Nat} {O : Nat → Int} (hR : oR A q) (h : oFc A o O) : zgo false (d + 2) 65 0 [zr 7 0, zi (nI (oHd s a)), u2, u3] [] A = some (some (zi (yI (oLn o O s a (Nat.beq (q 2) 1)))), A) := by
  have hh := h
  obtain ⟨h1, h2, h3, hO, hQ, hN⟩ := h
  have r2 : ∀ d, zgo false d 169 0 [zr 34 0, zi 2] [] A = some (some (zi (nI (q 2))), A) := fun d => (at34n false d 0 2 A (by omega)).trans (by rw [hR.1 2 (by omega)])
  have bl := oBst_le o O s a (Nat.beq (q 2) 1)
  have e64 : ∀ d, zgo false (d + 1) 64 0 [zr 7 0, zi (nI (oHd s a)), zi 1, zu, zu, zu] [] A = some (some (zi (nI (oBst o O s a (Nat.beq (q 2) 1)))), A) := fun d => S64 d s a true hs zu zu zu hR hh
  have w := fun d p (hp : p ≤ 2) => S63 d s p a hs hp zu hh
  have mx : ∀ x y, x ≤ 2 → y ≤ 2 → (if yI (oW o O s a x) < yI (oW o O s a y) then yI (oW o O s a y) else yI (oW o O s a x)) = yI (oMx (oW o O s a x) (oW o O s a y)) := by
    intro x y _ _
    have bx := oW_b hN hO hQ s a x
    have bb := oW_b hN hO hQ s a y
    have l : yI (oW o O s a x) < yI (oW o O s a y) ↔ oW o O s a x < oW o O s a y := yI_lt ⟨by omega, by omega⟩ ⟨by omega, by omega⟩
    unfold oMx
    by_cases z : oW o O s a x < oW o O s a y
    · rw [if_pos z, if_pos (l.mpr z)]
    · rw [if_neg z, if_neg (mt l.mp z)]
  rw [B65_0, e64, zbsome, zpu1]
  generalize hB : oBst o O s a (Nat.beq (q 2) 1) = B at bl ⊢
  have fin : ∀ x, zgo false (d + 2) 65 64 [zr 7 0, zi (nI (oHd s a)), zi (nI B), zi (yI x)] [] A = some (some (zi (yI (oW o O s a B - x))), A) := fun x => by
    rw [B65_64, w _ B bl, zbsome, zpu1, B65_70, yI_sub]
  have l0 : nI B = 0 ↔ B = 0 := nI_eq (b := 0) (by omega) (by omega)
  have l2 : nI B = 2 ↔ B = 2 := nI_eq (b := 2) (by omega) (by omega)
  have k : zgo false (d + 2) 65 6 [zr 7 0, zi (nI (oHd s a)), u2, u3] [zi (nI B)] A = zgo false (d + 2) 65 21 [zr 7 0, zi (nI (oHd s a)), zi (nI B), u3] [zi (yI (oW o O s a (if B = 0 then 1 else 0)))] A := by
    rw [B65_6]
    by_cases z : B = 0
    · rw [if_pos (l0.mpr z), if_pos z, B65_18]
      have e := w (d) 1 (by omega)
      have e : zgo false (d + 1) 63 0 [zr 7 0, zi (nI (oHd s a)), zi 1, zu] [] A = some (some (zi (yI (oW o O s a 1))), A) := e
      rw [e, zbsome, zpu1]
    · rw [if_neg (mt l0.mp z), if_neg z, B65_18]
      have e := w (d) 0 (by omega)
      have e : zgo false (d + 1) 63 0 [zr 7 0, zi (nI (oHd s a)), zi 0, zu] [] A = some (some (zi (yI (oW o O s a 0))), A) := e
      rw [e, zbsome, zpu1]
  unfold oLn
  rw [hB, k, B65_21]
  by_cases z : B = 2
  · have e := w (d) 1 (by omega)
    have e : zgo false (d + 1) 63 0 [zr 7 0, zi (nI (oHd s a)), zi 1, zu] [] A = some (some (zi (yI (oW o O s a 1))), A) := e
    rw [if_pos (l2.mpr z), if_pos z, if_neg (show ¬ B = 0 by omega), e, zbsome]
    show zgo false (d + 2) 65 34 [zr 7 0, zi (nI (oHd s a)), zi (nI B), zi (yI (oW o O s a 0))] [zi (yI (oW o O s a 1)), zi (yI (oW o O s a 0))] A = _
    rw [B65_34, mx 0 1 (by omega) (by omega), fin]
  · rw [if_neg (mt l2.mp z), if_neg z, r2, zbsome, zpu1, B65_49]
    by_cases z2 : q 2 = 1
    · have e : Nat.beq (q 2) 1 = true := by rw [z2]; rfl
      have l3 : nI (q 2) = 1 := by rw [z2]; rfl
      have e2 := w (d) 2 (by omega)
      have e2 : zgo false (d + 1) 63 0 [zr 7 0, zi (nI (oHd s a)), zi 2, zu] [] A = some (some (zi (yI (oW o O s a 2))), A) := e2
      rw [if_pos l3, if_pos e, e2, zbsome]
      show zgo false (d + 2) 65 60 [zr 7 0, zi (nI (oHd s a)), zi (nI B), zi _] [zi (yI (oW o O s a 2)), zi _] A = _
      rw [B65_60]
      by_cases z3 : B = 0
      · rw [if_pos z3, mx 1 2 (by omega) (by omega), fin]
      · rw [if_neg z3, mx 0 2 (by omega) (by omega), fin]
    · have e : ¬ Nat.beq (q 2) 1 = true := fun y => z2 (Nat.eq_of_beq_eq_true y)
      have l3 : ¬ nI (q 2) = 1 := by
        rw [show (1 : Int32) = nI 1 from rfl, nI_eq (by have := hR.2; omega) (by omega)]
        exact z2
      rw [if_neg l3, if_neg e, fin]
