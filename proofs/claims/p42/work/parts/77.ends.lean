/-! ===== odds: the class's table of ends ===== -/
theorem oPl_lt {s : Nat} {a : Bool} : oPl s a ≤ 53 := by
  unfold oPl
  by_cases c : a = true ∧ s ≤ 11
  · rw [if_pos c]; omega
  · rw [if_neg c]
    by_cases c2 : s ≤ 22
    · rw [if_pos c2]; omega
    · rw [if_neg c2]; omega
theorem oPl_dom {s : Nat} {a : Bool} (hs : s ≤ 21) : oPl s a ≤ 21 ∨ (42 ≤ oPl s a ∧ oPl s a ≤ 53) := by
  unfold oPl
  by_cases c : a = true ∧ s ≤ 11
  · rw [if_pos c]; omega
  · rw [if_neg c, if_pos (by omega)]; omega
theorem oPl_ne {s v : Nat} {a : Bool} (hs : s ≤ 21) (hv : 1 ≤ v) : oPl (s + v) (oA a v) ≠ oPl s a := by
  unfold oPl
  by_cases c : a = true ∧ s ≤ 11
  · rw [if_pos c]
    by_cases c1 : oA a v = true ∧ s + v ≤ 11
    · rw [if_pos c1]; omega
    · rw [if_neg c1]
      by_cases c2 : s + v ≤ 22
      · rw [if_pos c2]; omega
      · rw [if_neg c2]; omega
  · rw [if_neg c, if_pos (show s ≤ 22 by omega)]
    by_cases c1 : oA a v = true ∧ s + v ≤ 11
    · rw [if_pos c1]; omega
    · rw [if_neg c1]
      by_cases c2 : s + v ≤ 22
      · rw [if_pos c2]; omega
      · rw [if_neg c2]; omega
theorem oQ_one {F : Nat → Int} {m : Int} (h : ∀ k, 0 ≤ F k) (h2 : oQ F ≤ m) {k : Nat} (hk : k < 8) : F k ≤ m := by
  have n0 := h 0
  have n1 := h 1
  have n2 := h 2
  have n3 := h 3
  have n4 := h 4
  have n5 := h 5
  have n6 := h 6
  have n7 := h 7
  unfold oQ at h2
  rcases (by omega : k = 0 ∨ k = 1 ∨ k = 2 ∨ k = 3 ∨ k = 4 ∨ k = 5 ∨ k = 6 ∨ k = 7) with rfl | rfl | rfl | rfl | rfl | rfl | rfl | rfl <;> omega
theorem oE_1 {o q : Nat → Nat} (hN : 0 < ysm o) {k : Nat} (hk : k < 8) (s : Nat) (a : Bool) : -1000000 ≤ oEe o q k s a ∧ oEe o q k s a ≤ 1000000 := by
  have n := oE_nn (o := o) (q := q) k 40 s a
  exact ⟨Int.le_trans (by decide) n, oQ_one (F := fun k => oE o q k 40 s a) (fun k => oE_nn k 40 s a) (oE_q hN 40 s a) hk⟩
def oFe (i a b c : Nat) : Prop := a = 36 ∧ b = 0 ∧ c % 64 = i
theorem oH_fr {A A' : zM} {o : Nat → Nat} {P : Nat → Nat → Nat → Prop} (h : oH A o) (f : zFo P A A') (hp : ∀ v, ¬ P 33 0 v) (hp2 : ¬ P 7 0 10) : oH A' o := ⟨fun v v1 v2 => ((f 33 0 v (hp v)).1).trans (h.1 v v1 v2), ((f 7 0 10 hp2).1).trans h.2.1, h.2.2⟩
theorem oR_fr {A A' : zM} {q : Nat → Nat} {P : Nat → Nat → Nat → Prop} (h : oR A q) (f : zFo P A A') (hp : ∀ v, ¬ P 34 0 v) : oR A' q := ⟨fun v v1 => ((f 34 0 v (hp v)).1).trans (h.1 v v1), h.2⟩
theorem Raf_fr {A A' : zM} {P : Nat → Nat → Nat → Prop} (h : Raf A) (f : zFo P A A') (hp : ∀ v, ¬ P 35 0 v) : Raf A' := fun i v hi v1 v2 => ((f 35 0 _ (hp _)).1).trans (h i v hi v1 v2)
theorem L75 (d s : Nat) (a : Bool) (hs : 1 ≤ s) (hs2 : s ≤ 22) {o q : Nat → Nat} : ∀ (j k : Nat) (A : zM) (u6 : zV), k + j = 8 → Raf A → oH A o → oR A q → (oDw q s a = true → ∀ k, k < 8 → ∀ v, 1 ≤ v → v ≤ 10 → zgI A 36 0 (64 * k + oPl (s + v) (oA a v)) = yI (oEe o q k (s + v) (oA a v))) → ∃ A', zgo false (d + 2) 75 24 [zr 7 0, zi (nI (oHd s a)), zi (if oDw q s a = true then 1 else 0), zi (nI (oPl s a)), zi (nI (oTt s a)), zi (nI (15 + k)), u6] [] A = some (none, A') ∧ zFo (fun x y z => oFe (oPl s a) x y z ∧ 64 * k ≤ z) A A' ∧ ∀ k', k ≤ k' → k' < 8 → zgI A' 36 0 (64 * k' + oPl s a) = yI (oEe o q k' s a)
  | 0, k, A, u6, hk, hA, hO, hR, hE => by
    have hk : k = 8 := hk
    subst hk
    refine ⟨A, ?_, zFo_refl _ A, fun k' k1 k2 => by omega⟩
    rw [B75_24, if_pos (by decide)]
  | j + 1, k, A, u6, hk, hA, hO, hR, hE => by
    have hl : oPl s a ≤ 53 := oPl_lt
    have hq3 := hR.2.2.2.2.2.2
    have c22 : ¬ (22 : Int32) < nI (15 + k) := nI_nlt (a := 22) (by omega) (by omega)
    have e1 : (nI (15 + k) - 15) * 64 = nI (64 * k) := by
      rw [show (15 : Int32) = nI 15 from rfl, show (64 : Int32) = nI 64 from rfl, pk_sub (by omega), show 15 + k - 15 = k by omega, pk_mul, Nat.mul_comm]
    have e2 : nI (64 * k) + nI (oPl s a) = nI (64 * k + oPl s a) := nI_add _ _
    let A1 := zsI A 36 0 (64 * k + oPl s a) (yI (oEe o q k s a))
    have f1 : zFo (fun x y z => oFe (oPl s a) x y z ∧ 64 * k ≤ z) A A1 := zFo_sI (zFo_refl _ A) ⟨⟨rfl, rfl, by omega⟩, by omega⟩
    have e80 : ∀ x6, zgo false (d + 2) 75 80 [zr 7 0, zi (nI (oHd s a)), zi (if oDw q s a = true then 1 else 0), zi (nI (oPl s a)), zi (nI (oTt s a)), zi (nI (15 + k)), zi x6] [zi (yI (oEe o q k s a)), zi (nI (64 * k + oPl s a)), zr 36 0] A = zgo false (d + 2) 75 24 [zr 7 0, zi (nI (oHd s a)), zi (if oDw q s a = true then 1 else 0), zi (nI (oPl s a)), zi (nI (oTt s a)), zi (nI (15 + (k + 1))), zi x6] [] A1 := fun x6 => by
      rw [B75_80, se36n _ _ _ _ _ _ (by omega), zbsome, zpu0, B75_83, nI_1]
      rfl
    obtain ⟨A', e, f, w⟩ := L75 d s a hs hs2 j (k + 1) A1 (zi (nI (64 * k))) (by omega) (Raf_fr hA f1 (fun v z => by cases z.1.1)) (oH_fr hO f1 (fun v z => by cases z.1.1) (fun z => by cases z.1.1)) (oR_fr hR f1 (fun v z => by cases z.1.1)) (fun hd k' k1 v v1 v2 => by
      have s20 : s < 20 := by
        rcases Nat.lt_or_ge s 20 with z | z
        · exact z
        · exact absurd hd (oDw_22 hq3 z)
      have ne := oPl_ne (a := a) (show s ≤ 21 by omega) v1
      have l2 : oPl (s + v) (oA a v) ≤ 53 := oPl_lt
      rw [(f1 36 0 _ (fun z => by have := z.1.2.2; omega)).1]
      exact hE hd k' k1 v v1 v2)
    refine ⟨A', ?_, zFo_trans f1 (zFo_mono f (fun x y z r => ⟨r.1, by have := r.2; omega⟩)), fun k' k1 k2 => ?_⟩
    · refine Eq.trans ?_ e
      rw [← e80, B75_24, if_neg c22]
      by_cases hd : oDw q s a = true
      · have s20 : s < 20 := by
          rcases Nat.lt_or_ge s 20 with z | z
          · exact z
          · exact absurd hd (oDw_22 hq3 z)
        have row := S76y d 36 (oPl s a) (nI (64 * k)) zu zu (fun v => oEe o q k (s + v) (oA a v)) hA hO (oPl_dom (by omega)) (fun v _ _ => oE_1 hO.2.2.1 (by omega) _ _) (fun v v1 v2 d => by
          have l2 : oPl (s + v) (oA a v) ≤ 53 := oPl_lt
          rw [oAf_eq hs2 v1 (by omega), nI_add, at36n _ _ _ _ _ (by omega), hE hd k (by omega) v v1 v2])
        have row : zgo false (d + 1) 76 0 [zr 7 0, zr 36 0, zi (nI (64 * k)), zi (nI (oPl s a)), zu, zu] [] A = some (some (zi (yI (oEe o q k s a))), A) := by
          rw [row, oEe_eq hq3 k s a, if_pos hd]
        rw [if_pos hd, if_neg (by decide), e1, e2, row, zbsome]
        show zgo false (d + 2) 75 64 [zr 7 0, zi (nI (oHd s a)), zi 1, zi (nI (oPl s a)), zi (nI (oTt s a)), zi (nI (15 + k)), zi (nI (64 * k))] [zi (yI (oEe o q k s a)), zi (nI (64 * k + oPl s a)), zr 36 0] A = _
        rw [B75_64]
      · have tl : oTt s a ≤ 22 := by
          unfold oTt
          by_cases c : a = true ∧ s ≤ 11
          · rw [if_pos c]; omega
          · rw [if_neg c]; omega
        have ev : oEe o q k s a = if oTt s a = k + 15 then 1000000 else 0 := by
          rw [oEe_eq hq3 k s a, if_neg hd]
          by_cases c : oTt s a = k + 15
          · rw [if_pos c, if_pos (Or.inl c)]
          · rw [if_neg c, if_neg (by omega)]
        rw [if_neg hd, if_pos rfl, e1, e2, ev]
        by_cases c : oTt s a = k + 15
        · have : nI (oTt s a) = nI (15 + k) := by rw [c, Nat.add_comm]
          rw [if_pos c, if_pos this]
          rfl
        · have : ¬ nI (oTt s a) = nI (15 + k) := by
            rw [nI_eq (by omega) (by omega)]
            omega
          rw [if_neg c, if_neg this]
          rfl
    · rcases Nat.lt_or_ge k k' with z | z
      · exact w k' z k2
      · have z : k' = k := by omega
        subst z
        rw [(f 36 0 _ (fun r => by have := r.2; omega)).1, zgI_sI, if_pos ⟨rfl, rfl, rfl⟩]
/-- 'fillEnds' -/
theorem S75 (d s : Nat) (a : Bool) (hs : 1 ≤ s) (hs2 : s ≤ 22) (u2 u3 u4 u5 u6 : zV) {o q : Nat → Nat} (A : zM) (hA : Raf A) (hO : oH A o) (hR : oR A q) (hE : oDw q s a = true → ∀ k, k < 8 → ∀ v, 1 ≤ v → v ≤ 10 → zgI A 36 0 (64 * k + oPl (s + v) (oA a v)) = yI (oEe o q k (s + v) (oA a v))) : ∃ A', zgo false (d + 2) 75 0 [zr 7 0, zi (nI (oHd s a)), u2, u3, u4, u5, u6] [] A = some (none, A') ∧ zFo (oFe (oPl s a)) A A' ∧ ∀ k, k < 8 → zgI A' 36 0 (64 * k + oPl s a) = yI (oEe o q k s a) := by
  obtain ⟨A', e, f, w⟩ := L75 d s a hs hs2 8 0 A u6 rfl hA hO hR hE
  refine ⟨A', ?_, zFo_mono f (fun x y z r => r.1), fun k hk => w k (Nat.zero_le _) hk⟩
  rw [← e, B75_0, S59y _ _ _ _ _ _ _ (by omega) hR, zbsome, zpu1, B75_8, S74y _ _ _ _ _ (by omega), zbsome, zpu1, B75_13, S173y _ _ _ _ _ (by omega), zbsome, zpu1, B75_18]
  rfl
/-- the table is full from lo on: hard sums, then soft ones -/
def oEn (A : zM) (o q : Nat → Nat) (lo lo2 : Nat) : Prop := ∀ k, k < 8 → (∀ s, lo ≤ s → s ≤ 22 → zgI A 36 0 (64 * k + s) = yI (oEe o q k s false)) ∧ ∀ s, lo2 ≤ s → s ≤ 11 → zgI A 36 0 (64 * k + (42 + s)) = yI (oEe o q k s true)
theorem oEn_at {A : zM} {o q : Nat → Nat} {lo lo2 k s : Nat} {a : Bool} (h : oEn A o q lo lo2) (hq : q 3 ≤ 19) (hk : k < 8) (h1 : ¬ (a = true ∧ s ≤ 11) → lo ≤ s) (h2 : a = true ∧ s ≤ 11 → lo2 ≤ s) (hlo : lo ≤ 22) : zgI A 36 0 (64 * k + oPl s a) = yI (oEe o q k s a) := by
  have e := oEp_eq (o := o) hq k s a (by omega)
  unfold oPl at e ⊢
  by_cases c : a = true ∧ s ≤ 11
  · rw [if_pos c, (h k hk).2 s (h2 c) c.2, c.1]
  · rw [if_neg c] at e ⊢
    by_cases c2 : s ≤ 22
    · rw [if_pos c2] at e ⊢
      rw [(h k hk).1 s (h1 c) c2, ← e]
      unfold oEp
      rw [if_neg (by omega)]
    · rw [if_neg c2] at e ⊢
      rw [(h k hk).1 22 hlo (Nat.le_refl _), ← e]
      rfl
theorem L60 (d : Nat) (k1 i1 k2 i2 : Nat) {o q : Nat → Nat} : ∀ (s : Nat) (A : zM), s ≤ 22 → Raf A → oH A o → oR A q → oEn A o q (s + 1) (s + 1) → ∃ A', zgo false (d + 3) 60 75 [zr 7 0, zr k1 i1, zr k2 i2, zi (nI s)] [] A = some (some (zi 1), A') ∧ zFo (fun x y _ => x = 36 ∧ y = 0) A A' ∧ oEn A' o q 1 1
  | 0, A, hs, hA, hO, hR, hE => by
    refine ⟨A, ?_, zFo_refl _ A, hE⟩
    have n := (yI_ne0 (x := (ysm o : Nat)) ⟨by omega, by have := hO.2.2.2; omega⟩ (by have := hO.2.2.1; omega)).1
    have e : zgI A 7 0 10 = yI (ysm o : Nat) := hO.2.1
    rw [B60_75, if_pos (by decide), e, if_neg n, B60_118]
    rfl
  | s + 1, A, hs, hA, hO, hR, hE => by
    have hq3 := hR.2.2.2.2.2.2
    have c1 : ¬ nI (s + 1) < 1 := nI_nlt (b := 1) (by omega) (by omega)
    have hh : oHd (s + 1) false = s + 1 := if_neg (fun z => by cases z.1)
    have hp : oPl (s + 1) false = s + 1 := by
      unfold oPl
      rw [if_neg (fun z => by cases z.1), if_pos (by omega)]
    have pre : ∀ (a : Bool) (A : zM), oEn A o q (s + 2) (s + 2) → oDw q (s + 1) a = true → ∀ k, k < 8 → ∀ v, 1 ≤ v → v ≤ 10 → zgI A 36 0 (64 * k + oPl (s + 1 + v) (oA a v)) = yI (oEe o q k (s + 1 + v) (oA a v)) := by
      intro a A h hd k hk v v1 v2
      have s20 : s + 1 < 20 := by
        rcases Nat.lt_or_ge (s + 1) 20 with z | z
        · exact z
        · exact absurd hd (oDw_22 hq3 z)
      exact oEn_at h hq3 hk (fun _ => by omega) (fun _ => by omega) (by omega)
    obtain ⟨A1, e1, f1, w1⟩ := S75 d (s + 1) false (by omega) hs zu zu zu zu zu A hA hO hR (pre false A hE)
    rw [hh] at e1
    rw [hp] at f1 w1
    have h1 : oEn A1 o q (s + 1) (s + 2) := fun k hk => ⟨fun t t1 t2 => by
      by_cases z : t = s + 1
      · rw [z]
        exact w1 k hk
      · rw [(f1 36 0 _ (fun r => by have := r.2.2; omega)).1]
        exact (hE k hk).1 t (by omega) t2, fun t t1 t2 => by
      rw [(f1 36 0 _ (fun r => by have := r.2.2; omega)).1]
      exact (hE k hk).2 t t1 t2⟩
    have g1 : zFo (fun x y _ => x = 36 ∧ y = 0) A A1 := zFo_mono f1 (fun x y z r => ⟨r.1, r.2.1⟩)
    have hA1 := Raf_fr hA g1 (fun v z => by cases z.1)
    have hO1 := oH_fr hO g1 (fun v z => by cases z.1) (fun z => by cases z.1)
    have hR1 := oR_fr hR g1 (fun v z => by cases z.1)
    have e1' : zgo false (d + 2) 75 0 [zr 7 0, zi (nI (s + 1)), zu, zu, zu, zu, zu] [] A = some (none, A1) := e1
    have ep : nI (s + 1) + -1 = nI s := by rw [← Int32.sub_eq_add_neg, nI_pred]
    have k0 : zgo false (d + 3) 60 75 [zr 7 0, zr k1 i1, zr k2 i2, zi (nI (s + 1))] [] A = zgo false (d + 3) 60 85 [zr 7 0, zr k1 i1, zr k2 i2, zi (nI (s + 1))] [] A1 := by
      rw [B60_75, if_neg c1, e1']
      rfl
    rw [k0, B60_85]
    by_cases c11 : 11 < s + 1
    · have c : (11 : Int32) < nI (s + 1) := nI_lt (a := 11) c11 (by omega)
      obtain ⟨A', e, f, w⟩ := L60 d k1 i1 k2 i2 s A1 (by omega) hA1 hO1 hR1 (fun k hk => ⟨(h1 k hk).1, fun t t1 t2 => by omega⟩)
      refine ⟨A', ?_, zFo_trans g1 f, w⟩
      rw [if_pos c, B60_100, ep]
      exact e
    · have c : ¬ (11 : Int32) < nI (s + 1) := nI_nlt (a := 11) (by omega) (by omega)
      have hh2 : oHd (s + 1) true = 1010 + (s + 1) := if_pos ⟨rfl, by omega⟩
      have hp2 : oPl (s + 1) true = 42 + (s + 1) := if_pos ⟨rfl, by omega⟩
      have e10 : 1010 + nI (s + 1) = nI (1010 + (s + 1)) := by rw [show (1010 : Int32) = nI 1010 from rfl, nI_add]
      obtain ⟨A2, e2, f2, w2⟩ := S75 d (s + 1) true (by omega) hs zu zu zu zu zu A1 hA1 hO1 hR1 (pre true A1 (fun k hk => ⟨fun t t1 t2 => (h1 k hk).1 t (by omega) t2, (h1 k hk).2⟩))
      rw [hh2] at e2
      rw [hp2] at f2 w2
      have h2 : oEn A2 o q (s + 1) (s + 1) := fun k hk => ⟨fun t t1 t2 => by
        rw [(f2 36 0 _ (fun r => by have := r.2.2; omega)).1]
        exact (h1 k hk).1 t t1 t2, fun t t1 t2 => by
        by_cases z : t = s + 1
        · rw [z]
          exact w2 k hk
        · rw [(f2 36 0 _ (fun r => by have := r.2.2; omega)).1]
          exact (h1 k hk).2 t (by omega) t2⟩
      have g2 : zFo (fun x y _ => x = 36 ∧ y = 0) A1 A2 := zFo_mono f2 (fun x y z r => ⟨r.1, r.2.1⟩)
      obtain ⟨A', e, f, w⟩ := L60 d k1 i1 k2 i2 s A2 (by omega) (Raf_fr hA1 g2 (fun v z => by cases z.1)) (oH_fr hO1 g2 (fun v z => by cases z.1) (fun z => by cases z.1)) (oR_fr hR1 g2 (fun v z => by cases z.1)) h2
      refine ⟨A', ?_, zFo_trans g1 (zFo_trans g2 f), w⟩
      have e2' : zgo false (d + 2) 75 0 [zr 7 0, zi (nI (1010 + (s + 1))), zu, zu, zu, zu, zu] [] A1 = some (none, A2) := e2
      rw [if_neg c, e10, e2', zbsome, zpu0, B60_100, ep]
      exact e
