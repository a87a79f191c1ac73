/-! ===== odds: stood, drawn, doubled ===== -/
def oPs (F : Nat → Int) : Nat → Int
  | 0 => 0
  | n + 1 => oPs F n + F n
theorem oPs_8 (F : Nat → Int) : oPs F 8 = oQ F := by
  unfold oQ
  simp [oPs]
def oOp (A : zM) (O : Nat → Int) : Prop := ∀ k, k < 9 → zgI A 37 0 k = yI (O k)
theorem L78 (d t : Nat) (O : Nat → Int) (ht : t ≤ 22) {A : zM} (h : oOp A O) : ∀ (j n : Nat) (u4 : zV), n + j = 8 → zgo false (d + 2) 78 5 [zr 7 0, zi (nI t), zi (yI (oPs (oStk O t) n)), zi (nI (15 + n)), u4] [] A = some (some (zi (yI (oSt O t))), A)
  | 0, n, u4, hn => by
    have hn : n = 8 := hn
    subst hn
    rw [B78_5, if_pos (by decide), oPs_8]
    rfl
  | j + 1, n, u4, hn => by
    have ih := L78 d t O ht h j (n + 1) (zi (yI (O n))) (by omega)
    have c : ¬ (22 : Int32) < nI (15 + n) := nI_nlt (a := 22) (by omega) (by omega)
    have e1 : nI (15 + n) - 15 = nI n := by rw [show (15 : Int32) = nI 15 from rfl, pk_sub (by omega), show 15 + n - 15 = n by omega]
    have e62 : zgo false (d + 1) 62 0 [zr 7 0, zi (nI (15 + n))] [] A = some (some (zi (yI (O n))), A) := by
      rw [B62_0, e1, at37n _ _ _ _ _ (by omega), h n (by omega), zbsome, zpu1, B62_11]
    have l1 : nI t ≤ 21 ↔ t ≤ 21 := nI_leI (b := 21) (by omega) (by omega)
    have l2 : nI (15 + n) = 22 ↔ 15 + n = 22 := nI_eq (b := 22) (by omega) (by omega)
    have l3 : nI t ≤ nI (15 + n) ↔ t ≤ 15 + n := nI_leI (by omega) (by omega)
    have l4 : nI (15 + n) ≤ nI t ↔ 15 + n ≤ t := nI_leI (by omega) (by omega)
    rw [B78_5, if_neg c, e62, zbsome, zpu1, B78_16]
    have st : ∀ x : Int, x = oStk O t n → zgo false (d + 2) 78 61 [zr 7 0, zi (nI t), zi (yI (oPs (oStk O t) n + x)), zi (nI (15 + n)), zi (yI (O n))] [] A = some (some (zi (yI (oSt O t))), A) := by
      intro x hx
      rw [B78_61, nI_1, hx]
      exact ih
    by_cases c1 : t ≤ 21
    · rw [if_pos (l1.mpr c1)]
      by_cases c2 : 15 + n = 22
      · rw [if_pos (l2.mpr c2), B78_43, yI_add]
        refine st _ ?_
        unfold oStk
        rw [if_neg (by omega), if_pos (by omega)]
      · rw [if_neg (mt l2.mp c2)]
        by_cases c3 : t ≤ 15 + n
        · rw [if_pos (l3.mpr c3)]
          by_cases c4 : 15 + n ≤ t
          · rw [if_pos (l4.mpr c4)]
            have := st 0 (by
              unfold oStk
              rw [if_neg (by omega), if_neg (by omega), if_neg (by omega)])
            rw [Int.add_zero] at this
            exact this
          · rw [if_neg (mt l4.mp c4), yI_sub, Int.sub_eq_add_neg]
            refine st _ ?_
            unfold oStk
            rw [if_neg (by omega), if_neg (by omega), if_pos (by omega)]
        · rw [if_neg (mt l3.mp c3), B78_43, yI_add]
          refine st _ ?_
          unfold oStk
          rw [if_neg (by omega), if_pos (by omega)]
    · rw [if_neg (mt l1.mp c1), yI_sub, Int.sub_eq_add_neg]
      refine st _ ?_
      unfold oStk
      rw [if_pos (by omega)]
theorem S78 (d t : Nat) (O : Nat → Int) (ht : t ≤ 22) (u2 u3 u4 : zV) {A : zM} (h : oOp A O) : zgo false (d + 2) 78 0 [zr 7 0, zi (nI t), u2, u3, u4] [] A = some (some (zi (yI (oSt O t))), A) := by
  rw [B78_0]
  exact L78 d t O ht h 8 0 u4 rfl
/-- what stands, hard and soft -/
def oSd (A : zM) (O : Nat → Int) : Prop := ∀ t, 1 ≤ t → t ≤ 22 → zgI A 38 0 t = yI (oSt O t) ∧ zgI A 38 0 (32 + t) = yI (oSt O t)
theorem oSd_at {A : zM} {O : Nat → Int} (h : oSd A O) {s : Nat} {a : Bool} (hs : 1 ≤ s) : zgI A 38 0 (oPl s a) = yI (oSt O (oTt s a)) := by
  unfold oPl oTt
  by_cases c : a = true ∧ s ≤ 11
  · rw [if_pos c, if_pos c, show 42 + s = 32 + (s + 10) by omega]
    exact (h (s + 10) (by omega) (by omega)).2
  · rw [if_neg c, if_neg c]
    by_cases c2 : s ≤ 22
    · rw [if_pos c2]
      exact (h s hs c2).1
    · rw [if_neg c2, oSt_big (show 22 ≤ s by omega)]
      exact (h 22 (by omega) (by omega)).1
/-- what is drawn and doubled, from lo on -/
def oDn (A : zM) (o : Nat → Nat) (O : Nat → Int) (lo lo2 : Nat) : Prop := (∀ s, lo ≤ s → s ≤ 21 → zgI A 39 0 s = yI (oDe o O s false) ∧ zgI A 40 0 s = yI (oDb o O s false)) ∧ ∀ s, lo2 ≤ s → s ≤ 11 → zgI A 39 0 (42 + s) = yI (oDe o O s true) ∧ zgI A 40 0 (42 + s) = yI (oDb o O s true)
theorem oDn_at {A : zM} {o : Nat → Nat} {O : Nat → Int} {lo lo2 s : Nat} {a : Bool} (h : oDn A o O lo lo2) (h1 : lo ≤ s) (h2 : lo2 ≤ s) (hs : s ≤ 21) : zgI A 39 0 (oPl s a) = yI (oDe o O s a) := by
  unfold oPl
  by_cases c : a = true ∧ s ≤ 11
  · rw [if_pos c, (h.2 s h2 c.2).1, c.1]
  · rw [if_neg c, if_pos (by omega), (h.1 s h1 hs).1]
    cases ha : a with
    | false => rfl
    | true =>
      have : 11 < s := by
        rcases Nat.lt_or_ge 11 s with z | z
        · exact z
        · exact absurd ⟨ha, z⟩ c
      unfold oDe
      rw [oD_hard o O 40 s this]
theorem oTt_21 {s : Nat} {a : Bool} : (oPl s a = 21 ∨ oPl s a = 22 ∨ oPl s a = 53) ↔ 21 ≤ oTt s a := by
  unfold oPl oTt
  by_cases c : a = true ∧ s ≤ 11
  · rw [if_pos c, if_pos c]; omega
  · rw [if_neg c, if_neg c]
    by_cases c2 : s ≤ 22
    · rw [if_pos c2]; omega
    · rw [if_neg c2]; omega
theorem S80 (d s : Nat) (a : Bool) (hs : 1 ≤ s) (u2 : zV) {A : zM} {o : Nat → Nat} {O : Nat → Int} (hN : 0 < ysm o) (hO : ∀ k, 0 ≤ O k) (hQ : oQ O ≤ 1000000) (h1 : oSd A O) (h2 : oTt s a < 21 → zgI A 39 0 (oPl s a) = yI (oDe o O s a)) : zgo false (d + 1) 80 0 [zr 7 0, zi (nI (oPl s a)), u2] [] A = some (some (zi (yI (oNx O (oTt s a) (oDe o O s a)))), A) := by
  have hl : oPl s a ≤ 53 := oPl_lt
  have s1 : zgo false d 169 0 [zr 38 0, zi (nI (oPl s a))] [] A = some (some (zi (yI (oSt O (oTt s a)))), A) := (at38n false d 0 _ A (by omega)).trans (by rw [oSd_at h1 hs])
  have l1 : nI (oPl s a) < 21 ↔ oPl s a < 21 := nI_ltI (b := 21) (by omega) (by omega)
  have l2 : nI (oPl s a) ≤ 22 ↔ oPl s a ≤ 22 := nI_leI (b := 22) (by omega) (by omega)
  have l3 : nI (oPl s a) = 53 ↔ oPl s a = 53 := nI_eq (b := 53) (by omega) (by omega)
  have t := oTt_21 (s := s) (a := a)
  by_cases c : 21 ≤ oTt s a
  · have e : oNx O (oTt s a) (oDe o O s a) = oSt O (oTt s a) := if_neg (by omega)
    have k : zgo false (d + 1) 80 0 [zr 7 0, zi (nI (oPl s a)), u2] [] A = zgo false (d + 1) 80 23 [zr 7 0, zi (nI (oPl s a)), u2] [zi 1] A := by
      rcases t.mpr c with z | z | z
      · rw [B80_0, if_neg (mt l1.mp (by omega)), if_pos (l2.mpr (by omega)), B80_18]
      · rw [B80_0, if_neg (mt l1.mp (by omega)), if_pos (l2.mpr (by omega)), B80_18]
      · rw [B80_0, if_neg (mt l1.mp (by omega)), if_neg (mt l2.mp (by omega)), B80_12, if_pos (l3.mpr z), B80_18]
    rw [k, B80_23, if_neg (by decide), s1, zbsome, zpu1, B80_36, B80_58, e]
  · have nt := mt t.mp c
    have k : zgo false (d + 1) 80 0 [zr 7 0, zi (nI (oPl s a)), u2] [] A = zgo false (d + 1) 80 23 [zr 7 0, zi (nI (oPl s a)), u2] [zi 0] A := by
      have k2 : zgo false (d + 1) 80 12 [zr 7 0, zi (nI (oPl s a)), u2] [] A = zgo false (d + 1) 80 23 [zr 7 0, zi (nI (oPl s a)), u2] [zi 0] A := by
        rw [B80_12, if_neg (mt l3.mp (by omega))]
      by_cases z : oPl s a < 21
      · rw [B80_0, if_pos (l1.mpr z), k2]
      · rw [B80_0, if_neg (mt l1.mp z), if_neg (mt l2.mp (by omega)), k2]
    have s2 : zgo false d 169 0 [zr 39 0, zi (nI (oPl s a))] [] A = some (some (zi (yI (oDe o O s a))), A) := (at39n false d 0 _ A (by omega)).trans (by rw [h2 (by omega)])
    rw [k, B80_23, if_pos rfl, s1, zbsome, zpu1, B80_47, s2, zbsome]
    show zgo false (d + 1) 80 55 [zr 7 0, zi (nI (oPl s a)), zi 0] [zi (yI (oDe o O s a)), zi (yI (oSt O (oTt s a)))] A = _
    have b1 := oSt_b hO hQ (oTt s a)
    have b2 : -1000000 ≤ oDe o O s a ∧ oDe o O s a ≤ 1000000 := oD_b hN hO hQ 40 s a
    have l4 : yI (oSt O (oTt s a)) < yI (oDe o O s a) ↔ oSt O (oTt s a) < oDe o O s a := yI_lt ⟨by omega, by omega⟩ ⟨by omega, by omega⟩
    rw [B80_55, B80_58]
    unfold oNx
    rw [if_pos (show oTt s a < 21 by omega)]
    by_cases z : oSt O (oTt s a) < oDe o O s a
    · rw [if_pos z, if_pos (l4.mpr z)]
    · rw [if_neg z, if_neg (mt l4.mp z)]
theorem oNx_b {O : Nat → Int} (hO : ∀ k, 0 ≤ O k) (hQ : oQ O ≤ 1000000) (t : Nat) {x : Int} (hx : -1000000 ≤ x ∧ x ≤ 1000000) : -1000000 ≤ oNx O t x ∧ oNx O t x ≤ 1000000 := by
  have b := oSt_b hO hQ t
  unfold oNx
  by_cases c : t < 21
  · rw [if_pos c]
    by_cases z : oSt O t < x
    · rw [if_pos z]; exact hx
    · rw [if_neg z]; exact b
  · rw [if_neg c]; exact b
theorem L79 (d s : Nat) (a : Bool) (hs : 1 ≤ s ∧ s ≤ 21) {A : zM} {o : Nat → Nat} {O : Nat → Int} (hA : Raf A) (hH : oH A o) (hO : ∀ k, 0 ≤ O k) (hQ : oQ O ≤ 1000000) (h1 : oSd A O) (h2 : ∀ v, 1 ≤ v → v ≤ 10 → oTt (s + v) (oA a v) < 21 → zgI A 39 0 (oPl (s + v) (oA a v)) = yI (oDe o O (s + v) (oA a v))) : ∀ (j n : Nat), n + j = 10 → zgo false (d + 2) 79 4 [zr 7 0, zi (nI (oPl s a)), zi (yI (oSm o (fun v => oNx O (oTt (s + v) (oA a v)) (oDe o O (s + v) (oA a v))) n)), zi (nI (n + 1))] [] A = some (none, zsI (zsI A 39 0 (oPl s a) (yI (oDe o O s a))) 40 0 (oPl s a) (yI (oDb o O s a)))
  | 0, n, hn => by
    have hn : n = 10 := hn
    subst hn
    have hl : oPl s a ≤ 53 := oPl_lt
    have hb : ∀ v, 1 ≤ v → v ≤ 10 → -1000000 ≤ oNx O (oTt (s + v) (oA a v)) (oDe o O (s + v) (oA a v)) ∧ oNx O (oTt (s + v) (oA a v)) (oDe o O (s + v) (oA a v)) ≤ 1000000 := fun v _ _ => oNx_b hO hQ _ (oD_b hH.2.2.1 hO hQ 40 _ _)
    have b := oSm_b (o := o) (n := 10) (m := 1000000) (by decide) hH.2.2.2 (Nat.le_refl _) hb
    have e := (oDe_eq (o := o) (O := O) s a).symm
    unfold oAv at e
    have f1 : zFo (fun a b _ => a = 39 ∧ b = 0) A (zsI A 39 0 (oPl s a) (yI (oDe o O s a))) := zFo_sI (zFo_refl _ A) ⟨rfl, rfl⟩
    rw [B79_4, if_pos (by decide), S72y _ _ hH ⟨by omega, by omega⟩, zbsome, e]
    show zgo false (d + 2) 79 55 [zr 7 0, zi (nI (oPl s a)), _, _] [zi (yI (oDe o O s a)), zi (nI (oPl s a)), zr 39 0] A = _
    rw [B79_55, se39n _ _ _ _ _ _ (by omega), zbsome, zpu0, B79_58]
    have row := S76y d 38 (oPl s a) 0 zu zu (fun v => oSt O (oTt (s + v) (oA a v))) (A := zsI A 39 0 (oPl s a) (yI (oDe o O s a))) (o := o) (Raf_fr hA f1 (fun v z => by cases z.1)) (oH_fr hH f1 (fun v z => by cases z.1) (fun z => by cases z.1)) (oPl_dom hs.2) (fun v _ _ => oSt_b hO hQ _) (fun v v1 v2 d => by
      have l2 : oPl (s + v) (oA a v) ≤ 53 := oPl_lt
      rw [oAf_eq (by omega) v1 (by omega), show (0 : Int32) = nI 0 from rfl, nI_add, Nat.zero_add, at38n _ _ _ _ _ (by omega), (f1 38 0 _ (fun z => by cases z.1)).1, oSd_at h1 (by omega)])
    have e2 : yI (oAv o fun v => oSt O (oTt (s + v) (oA a v))) * 2 = yI (oDb o O s a) := by
      unfold oDb
      rw [show (2 : Int32) = yI 2 from rfl, yI_mul, Int.mul_comm]
    have e2' : 2 * yI (oAv o fun v => oSt O (oTt (s + v) (oA a v))) = yI (oDb o O s a) := by
      rw [show (2 : Int32) = yI 2 from rfl, yI_mul]
      rfl
    rw [row, zbsome]
    show zgo false (d + 2) 79 74 [zr 7 0, zi (nI (oPl s a)), _, _] [zi (yI (oAv o fun v => oSt O (oTt (s + v) (oA a v)))), zi 2, zi (nI (oPl s a)), zr 40 0] _ = _
    rw [B79_74, e2', se40n _ _ _ _ _ _ (by omega), zbsome, zpu0, B79_78]
  | j + 1, n, hn => by
    have ih := L79 d s a hs hA hH hO hQ h1 h2 j (n + 1) (by omega)
    have hl : oPl s a ≤ 53 := oPl_lt
    have hdm := oPl_dom (a := a) hs.2
    have c : ¬ (10 : Int32) < nI (n + 1) := nI_nlt (a := 10) (by omega) (by omega)
    have a1 : ∀ d, zgo false d 169 0 [zr 33 0, zi (nI (n + 1))] [] A = some (some (zi (nI (o (n + 1)))), A) := fun d => (at33n false d 0 (n + 1) A (by omega)).trans (by rw [hH.1 (n + 1) (by omega) (by omega)])
    have e : nI (oPl s a) * 11 + nI (n + 1) = nI (oPl s a * 11 + (n + 1)) := by
      rw [show (11 : Int32) = nI 11 from rfl, pk_mul, nI_add]
    have a2 : ∀ d, zgo false d 169 0 [zr 35 0, zi (nI (oPl s a * 11 + (n + 1)))] [] A = some (some (zi (nI (oPl (s + (n + 1)) (oA a (n + 1))))), A) := fun d => (at35n false d 0 _ A (by omega)).trans (by rw [hA _ (n + 1) hdm (by omega) (by omega), oAf_eq (by omega) (by omega) (by omega)])
    rw [B79_4, if_neg c, a1, zbsome]
    show zgo false (d + 2) 79 19 [zr 7 0, zi (nI (oPl s a)), _, zi (nI (n + 1))] [zi (nI (o (n + 1))), _] A = _
    rw [B79_19, e, a2, zbsome]
    show zgo false (d + 2) 79 33 [zr 7 0, zi (nI (oPl s a)), _, zi (nI (n + 1))] [zi (nI (oPl (s + (n + 1)) (oA a (n + 1)))), zr 7 0, zi (nI (o (n + 1))), _] A = _
    rw [B79_33, S80 d _ _ (by omega) zu hH.2.2.1 hO hQ h1 (h2 (n + 1) (by omega) (by omega)), zbsome]
    show zgo false (d + 2) 79 36 [zr 7 0, zi (nI (oPl s a)), _, zi (nI (n + 1))] [zi (yI (oNx O (oTt (s + (n + 1)) (oA a (n + 1))) (oDe o O (s + (n + 1)) (oA a (n + 1))))), zi (nI (o (n + 1))), _] A = _
    rw [B79_36, nI_1, yI_nat (o (n + 1)), yI_mul, yI_add]
    exact ih
