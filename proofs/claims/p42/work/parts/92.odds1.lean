/-! ===== the odds of the table: as 76-82, of the other instance; by program (wip/whole/src/gen92.py) ===== -/
def oHJ (A : zM) (o : Nat → Nat) : Prop := (∀ v, 1 ≤ v → v ≤ 10 → zgI A 33 1 v = nI (o v)) ∧ zgI A 7 1 10 = nI (ysm o) ∧ 0 < ysm o ∧ ysm o ≤ 416
def oRJ (A : zM) (q : Nat → Nat) : Prop := (∀ w, w < 4 → zgI A 34 1 w = nI (q w)) ∧ (q 0 ≤ 1 ∧ 100 ≤ q 1 ∧ q 1 ≤ 200 ∧ q 2 ≤ 1 ∧ 15 ≤ q 3 ∧ q 3 ≤ 19)
def RafJ (A : zM) : Prop := ∀ i v, i ≤ 21 ∨ (42 ≤ i ∧ i ≤ 53) → 1 ≤ v → v ≤ 10 → zgI A 35 1 (i * 11 + v) = nI (oAf i v)
theorem S59yJ (d s : Nat) (a : Bool) (q : Nat → Nat) (u2 u3 : zV) (M : zM) (hs : s ≤ 31) (hR : oRJ M q) : zgo false (d + 1) 59 0 [zi (nI (oHd s a)), zr 34 1, u2, u3] [] M = some (some (zi (if oDw q s a = true then 1 else 0)), M) := by
  obtain ⟨r, r0, -, -, -, -, r3⟩ := hR
  have e3 : ∀ d, zgo false d 169 0 [zr 34 1, zi 3] [] M = some (some (zi (nI (q 3))), M) := fun d => (at34n false d 1 3 M (by omega)).trans (by rw [r 3 (by omega)])
  have e0 : ∀ d, zgo false d 169 0 [zr 34 1, zi 0] [] M = some (some (zi (nI (q 0))), M) := fun d => (at34n false d 1 0 M (by omega)).trans (by rw [r 0 (by omega)])
  have t : oTt s a ≤ 41 := by
    unfold oTt
    by_cases c : a = true ∧ s ≤ 11
    · rw [if_pos c]; omega
    · rw [if_neg c]; omega
  have l1 : nI (oTt s a) < nI (q 3) ↔ oTt s a < q 3 := nI_ltI (by omega) (by omega)
  have l2 : nI (oTt s a) = nI (q 3) ↔ oTt s a = q 3 := nI_eq (by omega) (by omega)
  have l3 : nI (q 0) = 1 ↔ q 0 = 1 := nI_eq (b := 1) (by omega) (by omega)
  have l4 : nI (oHd s a) < 1000 ↔ ¬ (a = true ∧ s ≤ 11) := by
    unfold oHd
    by_cases c : a = true ∧ s ≤ 11
    · rw [if_pos c]
      exact ⟨fun q => absurd q (nI_nlt (b := 1000) (by omega) (by omega)), fun q => absurd c q⟩
    · rw [if_neg c]
      exact ⟨fun _ => c, fun _ => nI_lt (b := 1000) (by omega) (by omega)⟩
  have k0 : zgo false (d + 1) 59 0 [zi (nI (oHd s a)), zr 34 1, u2, u3] [] M = zgo false (d + 1) 59 10 [zi (nI (oHd s a)), zr 34 1, zi (nI (oTt s a)), u3] [zi (nI (q 3))] M := by
    rw [B59_0, S173y _ _ _ _ _ (by omega), zbsome, zpu1, B59_4, e3, zbsome, zpu1]
  have one : ∀ x2 x3, zgo false (d + 1) 59 37 [zi (nI (oHd s a)), zr 34 1, zi x2, zi x3] [] M = some (some (zi 1), M) := fun x2 x3 => by
    rw [B59_37, B59_42]
    rfl
  have non : ∀ x2 x3, zgo false (d + 1) 59 41 [zi (nI (oHd s a)), zr 34 1, zi x2, zi x3] [] M = some (some (zi 0), M) := fun x2 x3 => by
    rw [B59_41, B59_42]
    rfl
  rw [k0, B59_10]
  by_cases h1 : oTt s a < q 3
  · rw [if_pos (oDw_iff.mpr (Or.inl h1)), if_pos (l1.mpr h1), one]
  rw [if_neg (mt l1.mp h1)]
  by_cases h2 : oTt s a = q 3
  · rw [if_pos (l2.mpr h2)]
    by_cases h3 : a = true ∧ s ≤ 11
    · rw [if_neg (fun z => (l4.mp z) h3), e0, zbsome, zpu1, B59_33]
      by_cases h4 : q 0 = 1
      · rw [if_pos (oDw_iff.mpr (Or.inr ⟨h2, h3, h4⟩)), if_pos (l3.mpr h4), one]
      · rw [if_neg (fun z => (oDw_iff.mp z).elim h1 (fun z => h4 z.2.2)), if_neg (mt l3.mp h4), non]
    · rw [if_neg (fun z => (oDw_iff.mp z).elim h1 (fun z => h3 z.2.1)), if_pos (l4.mpr h3), non]
  · rw [if_neg (fun z => (oDw_iff.mp z).elim h1 (fun z => h2 z.1)), if_neg (mt l2.mp h2), non]
theorem S72yJ (d : Nat) (x : Int) {A : zM} {o : Nat → Nat} (h : oHJ A o) (hx : yB x) : zgo false d 72 0 [zr 7 1, zi (yI x)] [] A = some (some (zi (yI (x.tdiv (ysm o)))), A) := by
  obtain ⟨-, h1, h2, h3⟩ := h
  have b : yB (ysm o : Nat) := ⟨by omega, by omega⟩
  have n := yI_ne0 b (by omega)
  rw [B72_0, h1, yI_nat, if_neg n.1, if_neg n.2, B72_17, yI_div hx b (by omega)]
theorem L76J (d K i : Nat) (base : Int32) (F : Nat → Int) {A : zM} {o : Nat → Nat} (hA : RafJ A) (h : oHJ A o) (hi : i ≤ 21 ∨ (42 ≤ i ∧ i ≤ 53)) (hF : ∀ v, 1 ≤ v → v ≤ 10 → -1000000 ≤ F v ∧ F v ≤ 1000000) (hr : ∀ v, 1 ≤ v → v ≤ 10 → ∀ d, zgo false d 169 0 [zr K 1, zi (base + nI (oAf i v))] [] A = some (some (zi (yI (F v))), A)) : ∀ (j n : Nat), n + j = 10 → zgo false (d + 1) 76 6 [zr 7 1, zr K 1, zi base, zi (nI i), zi (yI (oSm o F n)), zi (nI (n + 1))] [] A = some (some (zi (yI (oAv o F))), A)
  | 0, n, hn => by
    have hn : n = 10 := hn
    subst hn
    have b := oSm_b (o := o) (n := 10) (by decide) h.2.2.2 (Nat.le_refl _) hF
    rw [B76_6, if_pos (by decide), S72yJ d _ h ⟨by omega, by omega⟩, zbsome, zpu1, B76_60]
    rfl
  | j + 1, n, hn => by
    have ih := L76J d K i base F hA h hi hF hr j (n + 1) (by omega)
    have c : ¬ (10 : Int32) < nI (n + 1) := nI_nlt (a := 10) (by omega) (by omega)
    have e : nI i * 11 + nI (n + 1) = nI (i * 11 + (n + 1)) := by
      rw [show (11 : Int32) = nI 11 from rfl, pk_mul, nI_add]
    have a1 : ∀ d, zgo false d 169 0 [zr 33 1, zi (nI (n + 1))] [] A = some (some (zi (nI (o (n + 1)))), A) := fun d => (at33n false d 1 (n + 1) A (by omega)).trans (by rw [h.1 (n + 1) (by omega) (by omega)])
    have a2 : ∀ d, zgo false d 169 0 [zr 35 1, zi (nI (i * 11 + (n + 1)))] [] A = some (some (zi (nI (oAf i (n + 1)))), A) := fun d => (at35n false d 1 _ A (by omega)).trans (by rw [hA i (n + 1) hi (by omega) (by omega)])
    rw [B76_6, if_neg c, a1, zbsome]
    show zgo false (d + 1) 76 24 [zr 7 1, zr K 1, zi base, zi (nI i), zi (yI (oSm o F n)), zi (nI (n + 1))] [zi (nI (o (n + 1))), zi (yI (oSm o F n))] A = _
    rw [B76_24, e, a2, zbsome]
    show zgo false (d + 1) 76 40 [zr 7 1, zr K 1, zi base, zi (nI i), zi (yI (oSm o F n)), zi (nI (n + 1))] [zi (nI (oAf i (n + 1))), zi base, zr K 1, zi (nI (o (n + 1))), zi (yI (oSm o F n))] A = _
    rw [B76_40, hr (n + 1) (by omega) (by omega), zbsome]
    show zgo false (d + 1) 76 44 [zr 7 1, zr K 1, zi base, zi (nI i), zi (yI (oSm o F n)), zi (nI (n + 1))] [zi (yI (F (n + 1))), zi (nI (o (n + 1))), zi (yI (oSm o F n))] A = _
    rw [B76_44, nI_1, yI_nat (o (n + 1)), yI_mul, yI_add]
    exact ih
theorem S76yJ (d K i : Nat) (base : Int32) (u4 u5 : zV) (F : Nat → Int) {A : zM} {o : Nat → Nat} (hA : RafJ A) (h : oHJ A o) (hi : i ≤ 21 ∨ (42 ≤ i ∧ i ≤ 53)) (hF : ∀ v, 1 ≤ v → v ≤ 10 → -1000000 ≤ F v ∧ F v ≤ 1000000) (hr : ∀ v, 1 ≤ v → v ≤ 10 → ∀ d, zgo false d 169 0 [zr K 1, zi (base + nI (oAf i v))] [] A = some (some (zi (yI (F v))), A)) : zgo false (d + 1) 76 0 [zr 7 1, zr K 1, zi base, zi (nI i), u4, u5] [] A = some (some (zi (yI (oAv o F))), A) := by
  rw [B76_0]
  exact L76J d K i base F hA h hi hF hr 10 0 rfl
def oFeJ (i a b c : Nat) : Prop := a = 36 ∧ b = 1 ∧ c % 64 = i
theorem oH_frJ {A A' : zM} {o : Nat → Nat} {P : Nat → Nat → Nat → Prop} (h : oHJ A o) (f : zFo P A A') (hp : ∀ v, ¬ P 33 1 v) (hp2 : ¬ P 7 1 10) : oHJ A' o := ⟨fun v v1 v2 => ((f 33 1 v (hp v)).1).trans (h.1 v v1 v2), ((f 7 1 10 hp2).1).trans h.2.1, h.2.2⟩
theorem oR_frJ {A A' : zM} {q : Nat → Nat} {P : Nat → Nat → Nat → Prop} (h : oRJ A q) (f : zFo P A A') (hp : ∀ v, ¬ P 34 1 v) : oRJ A' q := ⟨fun v v1 => ((f 34 1 v (hp v)).1).trans (h.1 v v1), h.2⟩
theorem Raf_frJ {A A' : zM} {P : Nat → Nat → Nat → Prop} (h : RafJ A) (f : zFo P A A') (hp : ∀ v, ¬ P 35 1 v) : RafJ A' := fun i v hi v1 v2 => ((f 35 1 _ (hp _)).1).trans (h i v hi v1 v2)
theorem L75J (d s : Nat) (a : Bool) (hs : 1 ≤ s) (hs2 : s ≤ 22) {o q : Nat → Nat} : ∀ (j k : Nat) (A : zM) (u6 : zV), k + j = 8 → RafJ A → oHJ A o → oRJ A q → (oDw q s a = true → ∀ k, k < 8 → ∀ v, 1 ≤ v → v ≤ 10 → zgI A 36 1 (64 * k + oPl (s + v) (oA a v)) = yI (oEe o q k (s + v) (oA a v))) → ∃ A', zgo false (d + 2) 75 24 [zr 7 1, zi (nI (oHd s a)), zi (if oDw q s a = true then 1 else 0), zi (nI (oPl s a)), zi (nI (oTt s a)), zi (nI (15 + k)), u6] [] A = some (none, A') ∧ zFo (fun x y z => oFeJ (oPl s a) x y z ∧ 64 * k ≤ z) A A' ∧ ∀ k', k ≤ k' → k' < 8 → zgI A' 36 1 (64 * k' + oPl s a) = yI (oEe o q k' s a)
  | 0, k, A, u6, hk, hA, hO, hR, hE => by
    have hk : k = 8 := hk
    subst hk
    refine ⟨A, ?_, zFo_refl _ A, fun k' k1 k2 => by omega⟩
    rw [B75_24, if_pos (by decide)]
  | j + 1, k, A, u6, hk, hA, hO, hR, hE => by
    have hl : oPl s a ≤ 53 := oPl_lt
    have hq3 := hR.2.2.2.2.2.2
    have c22 : ¬ (22 : Int32) < nI (15 + k) := nI_nlt (a := 22) (by omega) (by omega)
    have e1 : (nI (15 + k) - 15) * 64 = nI (64 * k) := by
      rw [show (15 : Int32) = nI 15 from rfl, show (64 : Int32) = nI 64 from rfl, pk_sub (by omega), show 15 + k - 15 = k by omega, pk_mul, Nat.mul_comm]
    have e2 : nI (64 * k) + nI (oPl s a) = nI (64 * k + oPl s a) := nI_add _ _
    let A1 := zsI A 36 1 (64 * k + oPl s a) (yI (oEe o q k s a))
    have f1 : zFo (fun x y z => oFeJ (oPl s a) x y z ∧ 64 * k ≤ z) A A1 := zFo_sI (zFo_refl _ A) ⟨⟨rfl, rfl, by omega⟩, by omega⟩
    have e80 : ∀ x6, zgo false (d + 2) 75 80 [zr 7 1, zi (nI (oHd s a)), zi (if oDw q s a = true then 1 else 0), zi (nI (oPl s a)), zi (nI (oTt s a)), zi (nI (15 + k)), zi x6] [zi (yI (oEe o q k s a)), zi (nI (64 * k + oPl s a)), zr 36 1] A = zgo false (d + 2) 75 24 [zr 7 1, zi (nI (oHd s a)), zi (if oDw q s a = true then 1 else 0), zi (nI (oPl s a)), zi (nI (oTt s a)), zi (nI (15 + (k + 1))), zi x6] [] A1 := fun x6 => by
      rw [B75_80, se36n _ _ _ _ _ _ (by omega), zbsome, zpu0, B75_83, nI_1]
      rfl
    obtain ⟨A', e, f, w⟩ := L75J d s a hs hs2 j (k + 1) A1 (zi (nI (64 * k))) (by omega) (Raf_frJ hA f1 (fun v z => by cases z.1.1)) (oH_frJ hO f1 (fun v z => by cases z.1.1) (fun z => by cases z.1.1)) (oR_frJ hR f1 (fun v z => by cases z.1.1)) (fun hd k' k1 v v1 v2 => by
      have s20 : s < 20 := by
        rcases Nat.lt_or_ge s 20 with z | z
        · exact z
        · exact absurd hd (oDw_22 hq3 z)
      have ne := oPl_ne (a := a) (show s ≤ 21 by omega) v1
      have l2 : oPl (s + v) (oA a v) ≤ 53 := oPl_lt
      rw [(f1 36 1 _ (fun z => by have := z.1.2.2; omega)).1]
      exact hE hd k' k1 v v1 v2)
    refine ⟨A', ?_, zFo_trans f1 (zFo_mono f (fun x y z r => ⟨r.1, by have := r.2; omega⟩)), fun k' k1 k2 => ?_⟩
    · refine Eq.trans ?_ e
      rw [← e80, B75_24, if_neg c22]
      by_cases hd : oDw q s a = true
      · have s20 : s < 20 := by
          rcases Nat.lt_or_ge s 20 with z | z
          · exact z
          · exact absurd hd (oDw_22 hq3 z)
        have row := S76yJ d 36 (oPl s a) (nI (64 * k)) zu zu (fun v => oEe o q k (s + v) (oA a v)) hA hO (oPl_dom (by omega)) (fun v _ _ => oE_1 hO.2.2.1 (by omega) _ _) (fun v v1 v2 d => by
          have l2 : oPl (s + v) (oA a v) ≤ 53 := oPl_lt
          rw [oAf_eq hs2 v1 (by omega), nI_add, at36n _ _ _ _ _ (by omega), hE hd k (by omega) v v1 v2])
        have row : zgo false (d + 1) 76 0 [zr 7 1, zr 36 1, zi (nI (64 * k)), zi (nI (oPl s a)), zu, zu] [] A = some (some (zi (yI (oEe o q k s a))), A) := by
          rw [row, oEe_eq hq3 k s a, if_pos hd]
        rw [if_pos hd, if_neg (by decide), e1, e2, row, zbsome]
        show zgo false (d + 2) 75 64 [zr 7 1, zi (nI (oHd s a)), zi 1, zi (nI (oPl s a)), zi (nI (oTt s a)), zi (nI (15 + k)), zi (nI (64 * k))] [zi (yI (oEe o q k s a)), zi (nI (64 * k + oPl s a)), zr 36 1] A = _
        rw [B75_64]
      · have tl : oTt s a ≤ 22 := by
          unfold oTt
          by_cases c : a = true ∧ s ≤ 11
          · rw [if_pos c]; omega
          · rw [if_neg c]; omega
        have ev : oEe o q k s a = if oTt s a = k + 15 then 1000000 else 0 := by
          rw [oEe_eq hq3 k s a, if_neg hd]
          by_cases c : oTt s a = k + 15
          · rw [if_pos c, if_pos (Or.inl c)]
          · rw [if_neg c, if_neg (by omega)]
        rw [if_neg hd, if_pos rfl, e1, e2, ev]
        by_cases c : oTt s a = k + 15
        · have : nI (oTt s a) = nI (15 + k) := by rw [c, Nat.add_comm]
          rw [if_pos c, if_pos this]
          rfl
        · have : ¬ nI (oTt s a) = nI (15 + k) := by
            rw [nI_eq (by omega) (by omega)]
            omega
          rw [if_neg c, if_neg this]
          rfl
    · rcases Nat.lt_or_ge k k' with z | z
      · exact w k' z k2
      · have z : k' = k := by omega
        subst z
        rw [(f 36 1 _ (fun r => by have := r.2; omega)).1, zgI_sI, if_pos ⟨rfl, rfl, rfl⟩]
theorem S75J (d s : Nat) (a : Bool) (hs : 1 ≤ s) (hs2 : s ≤ 22) (u2 u3 u4 u5 u6 : zV) {o q : Nat → Nat} (A : zM) (hA : RafJ A) (hO : oHJ A o) (hR : oRJ A q) (hE : oDw q s a = true → ∀ k, k < 8 → ∀ v, 1 ≤ v → v ≤ 10 → zgI A 36 1 (64 * k + oPl (s + v) (oA a v)) = yI (oEe o q k (s + v) (oA a v))) : ∃ A', zgo false (d + 2) 75 0 [zr 7 1, zi (nI (oHd s a)), u2, u3, u4, u5, u6] [] A = some (none, A') ∧ zFo (oFeJ (oPl s a)) A A' ∧ ∀ k, k < 8 → zgI A' 36 1 (64 * k + oPl s a) = yI (oEe o q k s a) := by
  obtain ⟨A', e, f, w⟩ := L75J d s a hs hs2 8 0 A u6 rfl hA hO hR hE
  refine ⟨A', ?_, zFo_mono f (fun x y z r => r.1), fun k hk => w k (Nat.zero_le _) hk⟩
  rw [← e, B75_0, S59yJ _ _ _ _ _ _ _ (by omega) hR, zbsome, zpu1, B75_8, S74y _ _ _ _ _ (by omega), zbsome, zpu1, B75_13, S173y _ _ _ _ _ (by omega), zbsome, zpu1, B75_18]
  rfl
def oEnJ (A : zM) (o q : Nat → Nat) (lo lo2 : Nat) : Prop := ∀ k, k < 8 → (∀ s, lo ≤ s → s ≤ 22 → zgI A 36 1 (64 * k + s) = yI (oEe o q k s false)) ∧ ∀ s, lo2 ≤ s → s ≤ 11 → zgI A 36 1 (64 * k + (42 + s)) = yI (oEe o q k s true)
theorem oEn_atJ {A : zM} {o q : Nat → Nat} {lo lo2 k s : Nat} {a : Bool} (h : oEnJ A o q lo lo2) (hq : q 3 ≤ 19) (hk : k < 8) (h1 : ¬ (a = true ∧ s ≤ 11) → lo ≤ s) (h2 : a = true ∧ s ≤ 11 → lo2 ≤ s) (hlo : lo ≤ 22) : zgI A 36 1 (64 * k + oPl s a) = yI (oEe o q k s a) := by
  have e := oEp_eq (o := o) hq k s a (by omega)
  unfold oPl at e ⊢
  by_cases c : a = true ∧ s ≤ 11
  · rw [if_pos c, (h k hk).2 s (h2 c) c.2, c.1]
  · rw [if_neg c] at e ⊢
    by_cases c2 : s ≤ 22
    · rw [if_pos c2] at e ⊢
      rw [(h k hk).1 s (h1 c) c2, ← e]
      unfold oEp
      rw [if_neg (by omega)]
    · rw [if_neg c2] at e ⊢
      rw [(h k hk).1 22 hlo (Nat.le_refl _), ← e]
      rfl
theorem L60J (d : Nat) (k1 i1 k2 i2 : Nat) {o q : Nat → Nat} : ∀ (s : Nat) (A : zM), s ≤ 22 → RafJ A → oHJ A o → oRJ A q → oEnJ A o q (s + 1) (s + 1) → ∃ A', zgo false (d + 3) 60 75 [zr 7 1, zr k1 i1, zr k2 i2, zi (nI s)] [] A = some (some (zi 1), A') ∧ zFo (fun x y _ => x = 36 ∧ y = 1) A A' ∧ oEnJ A' o q 1 1
  | 0, A, hs, hA, hO, hR, hE => by
    refine ⟨A, ?_, zFo_refl _ A, hE⟩
    have n := (yI_ne0 (x := (ysm o : Nat)) ⟨by omega, by have := hO.2.2.2; omega⟩ (by have := hO.2.2.1; omega)).1
    have e : zgI A 7 1 10 = yI (ysm o : Nat) := hO.2.1
    rw [B60_75, if_pos (by decide), e, if_neg n, B60_118]
    rfl
  | s + 1, A, hs, hA, hO, hR, hE => by
    have hq3 := hR.2.2.2.2.2.2
    have c1 : ¬ nI (s + 1) < 1 := nI_nlt (b := 1) (by omega) (by omega)
    have hh : oHd (s + 1) false = s + 1 := if_neg (fun z => by cases z.1)
    have hp : oPl (s + 1) false = s + 1 := by
      unfold oPl
      rw [if_neg (fun z => by cases z.1), if_pos (by omega)]
    have pre : ∀ (a : Bool) (A : zM), oEnJ A o q (s + 2) (s + 2) → oDw q (s + 1) a = true → ∀ k, k < 8 → ∀ v, 1 ≤ v → v ≤ 10 → zgI A 36 1 (64 * k + oPl (s + 1 + v) (oA a v)) = yI (oEe o q k (s + 1 + v) (oA a v)) := by
      intro a A h hd k hk v v1 v2
      have s20 : s + 1 < 20 := by
        rcases Nat.lt_or_ge (s + 1) 20 with z | z
        · exact z
        · exact absurd hd (oDw_22 hq3 z)
      exact oEn_atJ h hq3 hk (fun _ => by omega) (fun _ => by omega) (by omega)
    obtain ⟨A1, e1, f1, w1⟩ := S75J d (s + 1) false (by omega) hs zu zu zu zu zu A hA hO hR (pre false A hE)
    rw [hh] at e1
    rw [hp] at f1 w1
    have h1 : oEnJ A1 o q (s + 1) (s + 2) := fun k hk => ⟨fun t t1 t2 => by
      by_cases z : t = s + 1
      · rw [z]
        exact w1 k hk
      · rw [(f1 36 1 _ (fun r => by have := r.2.2; omega)).1]
        exact (hE k hk).1 t (by omega) t2, fun t t1 t2 => by
      rw [(f1 36 1 _ (fun r => by have := r.2.2; omega)).1]
      exact (hE k hk).2 t t1 t2⟩
    have g1 : zFo (fun x y _ => x = 36 ∧ y = 1) A A1 := zFo_mono f1 (fun x y z r => ⟨r.1, r.2.1⟩)
    have hA1 := Raf_frJ hA g1 (fun v z => by cases z.1)
    have hO1 := oH_frJ hO g1 (fun v z => by cases z.1) (fun z => by cases z.1)
    have hR1 := oR_frJ hR g1 (fun v z => by cases z.1)
    have e1' : zgo false (d + 2) 75 0 [zr 7 1, zi (nI (s + 1)), zu, zu, zu, zu, zu] [] A = some (none, A1) := e1
    have ep : nI (s + 1) + -1 = nI s := by rw [← Int32.sub_eq_add_neg, nI_pred]
    have k0 : zgo false (d + 3) 60 75 [zr 7 1, zr k1 i1, zr k2 i2, zi (nI (s + 1))] [] A = zgo false (d + 3) 60 85 [zr 7 1, zr k1 i1, zr k2 i2, zi (nI (s + 1))] [] A1 := by
      rw [B60_75, if_neg c1, e1']
      rfl
    rw [k0, B60_85]
    by_cases c11 : 11 < s + 1
    · have c : (11 : Int32) < nI (s + 1) := nI_lt (a := 11) c11 (by omega)
      obtain ⟨A', e, f, w⟩ := L60J d k1 i1 k2 i2 s A1 (by omega) hA1 hO1 hR1 (fun k hk => ⟨(h1 k hk).1, fun t t1 t2 => by omega⟩)
      refine ⟨A', ?_, zFo_trans g1 f, w⟩
      rw [if_pos c, B60_100, ep]
      exact e
    · have c : ¬ (11 : Int32) < nI (s + 1) := nI_nlt (a := 11) (by omega) (by omega)
      have hh2 : oHd (s + 1) true = 1010 + (s + 1) := if_pos ⟨rfl, by omega⟩
      have hp2 : oPl (s + 1) true = 42 + (s + 1) := if_pos ⟨rfl, by omega⟩
      have e10 : 1010 + nI (s + 1) = nI (1010 + (s + 1)) := by rw [show (1010 : Int32) = nI 1010 from rfl, nI_add]
      obtain ⟨A2, e2, f2, w2⟩ := S75J d (s + 1) true (by omega) hs zu zu zu zu zu A1 hA1 hO1 hR1 (pre true A1 (fun k hk => ⟨fun t t1 t2 => (h1 k hk).1 t (by omega) t2, (h1 k hk).2⟩))
      rw [hh2] at e2
      rw [hp2] at f2 w2
      have h2 : oEnJ A2 o q (s + 1) (s + 1) := fun k hk => ⟨fun t t1 t2 => by
        rw [(f2 36 1 _ (fun r => by have := r.2.2; omega)).1]
        exact (h1 k hk).1 t t1 t2, fun t t1 t2 => by
        by_cases z : t = s + 1
        · rw [z]
          exact w2 k hk
        · rw [(f2 36 1 _ (fun r => by have := r.2.2; omega)).1]
          exact (h1 k hk).2 t (by omega) t2⟩
      have g2 : zFo (fun x y _ => x = 36 ∧ y = 1) A1 A2 := zFo_mono f2 (fun x y z r => ⟨r.1, r.2.1⟩)
      obtain ⟨A', e, f, w⟩ := L60J d k1 i1 k2 i2 s A2 (by omega) (Raf_frJ hA1 g2 (fun v z => by cases z.1)) (oH_frJ hO1 g2 (fun v z => by cases z.1) (fun z => by cases z.1)) (oR_frJ hR1 g2 (fun v z => by cases z.1)) h2
      refine ⟨A', ?_, zFo_trans g1 (zFo_trans g2 f), w⟩
      have e2' : zgo false (d + 2) 75 0 [zr 7 1, zi (nI (1010 + (s + 1))), zu, zu, zu, zu, zu] [] A1 = some (none, A2) := e2
      rw [if_neg c, e10, e2', zbsome, zpu0, B60_100, ep]
      exact e
def oFlJ (a b c : Nat) : Prop := b = 1 ∧ (a = 33 ∨ a = 34 ∨ a = 36 ∨ (a = 7 ∧ c = 10))
theorem L60aJ (d k1 i1 : Nat) {o : Nat → Nat} (hk : ¬ k1 = 7 ∧ ¬ k1 = 33) (hrd : ∀ (d v : Nat) (A' : zM), v ≤ 10 → zgo false d 169 0 [zr k1 i1, zi (nI v)] [] A' = some (some (zi (zgI A' k1 i1 v)), A')) : ∀ (j n : Nat) (A : zM), n + j = 10 → (∀ v, 1 ≤ v → v ≤ 10 → zgI A k1 i1 v = nI (o v)) → (∀ v, 1 ≤ v → v ≤ n → zgI A 33 1 v = nI (o v)) → zgI A 7 1 10 = nI (oSn o n) → ∃ A', zgo false (d + 1) 60 7 [zr 7 1, zr k1 i1, zr 29 0, zi (nI (n + 1))] [] A = zgo false (d + 1) 60 48 [zr 7 1, zr k1 i1, zr 29 0, zi 0] [] A' ∧ zFo oFlJ A A' ∧ (∀ v, 1 ≤ v → v ≤ 10 → zgI A' 33 1 v = nI (o v)) ∧ zgI A' 7 1 10 = nI (ysm o)
  | 0, n, A, hn, h1, h2, h3 => by
    have hn : n = 10 := hn
    subst hn
    refine ⟨A, ?_, zFo_refl _ A, h2, by rw [h3, oSn_10]⟩
    rw [B60_7, if_pos (by decide)]
  | j + 1, n, A, hn, h1, h2, h3 => by
    let A1 := zsI (zsI A 33 1 (n + 1) (nI (o (n + 1)))) 7 1 10 (nI (oSn o (n + 1)))
    have f1 : zFo oFlJ A A1 := zFo_sI (zFo_sI (zFo_refl _ A) ⟨rfl, Or.inl rfl⟩) ⟨rfl, Or.inr (Or.inr (Or.inr ⟨rfl, rfl⟩))⟩
    have r1 : ∀ v, zgI A1 k1 i1 v = zgI A k1 i1 v := fun v => by
      rw [zgI_sI, if_neg (by omega), zgI_sI, if_neg (by omega)]
    obtain ⟨A', e, f, w1, w2⟩ := L60aJ d k1 i1 hk hrd j (n + 1) A1 (by omega) (fun v v1 v2 => (r1 v).trans (h1 v v1 v2)) (fun v v1 v2 => by
      rw [zgI_sI, if_neg (by omega), zgI_sI]
      by_cases z : v = n + 1
      · rw [if_pos ⟨rfl, rfl, z⟩, z]
      · rw [if_neg (by omega)]
        exact h2 v v1 (by omega)) rfl
    refine ⟨A', ?_, zFo_trans f1 f, w1, w2⟩
    have c : ¬ (10 : Int32) < nI (n + 1) := nI_nlt (a := 10) (by omega) (by omega)
    rw [← e, B60_7, if_neg c, hrd _ _ _ (by omega), h1 _ (by omega) (by omega), zbsome]
    show zgo false (d + 1) 60 23 [zr 7 1, zr k1 i1, zr 29 0, zi (nI (n + 1))] [zi (nI (o (n + 1))), zi (nI (n + 1)), zr 33 1] A = _
    rw [B60_23, se33n _ _ _ _ _ _ (by omega), zbsome, zpu0, B60_26, hrd _ _ _ (by omega)]
    have e1 : zgI (zsI A 33 1 (n + 1) (nI (o (n + 1)))) k1 i1 (n + 1) = nI (o (n + 1)) := by
      rw [zgI_sI, if_neg (by omega)]
      exact h1 _ (by omega) (by omega)
    have e2 : zgI (zsI A 33 1 (n + 1) (nI (o (n + 1)))) 7 1 10 = nI (oSn o n) := h3
    rw [e1, e2, zbsome]
    show zgo false (d + 1) 60 36 [zr 7 1, zr k1 i1, zr 29 0, zi (nI (n + 1))] [zi (nI (o (n + 1))), zi (nI (oSn o n)), zr 7 1] (zsI A 33 1 (n + 1) (nI (o (n + 1)))) = _
    rw [B60_36, nI_1, nI_add]
    rfl
theorem L60bJ (d k1 i1 : Nat) {q : Nat → Nat} : ∀ (j n : Nat) (A : zM), n + j = 4 → (∀ w, w < 4 → zgI A 29 0 w = nI (q w)) → (∀ w, w < n → zgI A 34 1 w = nI (q w)) → ∃ A', zgo false (d + 1) 60 48 [zr 7 1, zr k1 i1, zr 29 0, zi (nI n)] [] A = zgo false (d + 1) 60 75 [zr 7 1, zr k1 i1, zr 29 0, zi 22] [] A' ∧ zFo (fun a b _ => a = 34 ∧ b = 1) A A' ∧ ∀ w, w < 4 → zgI A' 34 1 w = nI (q w)
  | 0, n, A, hn, h1, h2 => by
    have hn : n = 4 := hn
    subst hn
    refine ⟨A, ?_, zFo_refl _ A, h2⟩
    rw [B60_48, if_pos (by decide)]
  | j + 1, n, A, hn, h1, h2 => by
    have f1 : zFo (fun a b _ => a = 34 ∧ b = 1) A (zsI A 34 1 n (nI (q n))) := zFo_sI (zFo_refl _ A) ⟨rfl, rfl⟩
    obtain ⟨A', e, f, w1⟩ := L60bJ d k1 i1 j (n + 1) (zsI A 34 1 n (nI (q n))) (by omega) (fun w hw => h1 w hw) (fun w hw => by
      rw [zgI_sI]
      by_cases z : w = n
      · rw [if_pos ⟨rfl, rfl, z⟩, z]
      · rw [if_neg (by omega)]
        exact h2 w (by omega))
    refine ⟨A', ?_, zFo_trans f1 f, w1⟩
    have c : ¬ (4 : Int32) ≤ nI n := nI_ge (b := 4) (by omega) (by omega)
    rw [← e, B60_48, if_neg c, at29n _ _ _ _ _ (by omega), h1 n (by omega), zbsome]
    show zgo false (d + 1) 60 63 [zr 7 1, zr k1 i1, zr 29 0, zi (nI n)] [zi (nI (q n)), zi (nI n), zr 34 1] A = _
    rw [B60_63, se34n _ _ _ _ _ _ (by omega), zbsome, zpu0, B60_66, nI_1]
theorem S60J (d k1 i1 : Nat) (u3 : zV) {o q : Nat → Nat} (A : zM) (hk : ¬ k1 = 7 ∧ ¬ k1 = 33) (hrd : ∀ (d v : Nat) (A' : zM), v ≤ 10 → zgo false d 169 0 [zr k1 i1, zi (nI v)] [] A' = some (some (zi (zgI A' k1 i1 v)), A')) (h1 : ∀ v, 1 ≤ v → v ≤ 10 → zgI A k1 i1 v = nI (o v)) (hN : 0 < ysm o ∧ ysm o ≤ 416) (h2 : ∀ w, w < 4 → zgI A 29 0 w = nI (q w)) (hq : q 0 ≤ 1 ∧ 100 ≤ q 1 ∧ q 1 ≤ 200 ∧ q 2 ≤ 1 ∧ 15 ≤ q 3 ∧ q 3 ≤ 19) (hA : RafJ A) : ∃ A', zgo false (d + 3) 60 0 [zr 7 1, zr k1 i1, zr 29 0, u3] [] A = some (some (zi 1), A') ∧ zFo oFlJ A A' ∧ RafJ A' ∧ oHJ A' o ∧ oRJ A' q ∧ oEnJ A' o q 1 1 := by
  obtain ⟨A1, e1, f1, w1, w2⟩ := L60aJ (d + 2) k1 i1 (o := o) hk hrd 10 0 (zsI A 7 1 10 0) (by omega) (fun v v1 v2 => by rw [zgI_sI, if_neg (by omega)]; exact h1 v v1 v2) (fun v v1 v2 => by omega) rfl
  have f1' : zFo oFlJ A A1 := zFo_trans (zFo_sI (zFo_refl _ A) ⟨rfl, Or.inr (Or.inr (Or.inr ⟨rfl, rfl⟩))⟩) f1
  obtain ⟨A2, e2, f2, w3⟩ := L60bJ (d + 2) k1 i1 (q := q) 4 0 A1 (by omega) (fun w hw => ((f1' 29 0 w (by unfold oFlJ; omega)).1).trans (h2 w hw)) (fun w hw => by omega)
  have hA2 : RafJ A2 := Raf_frJ (Raf_frJ hA f1' (fun v => by unfold oFlJ; omega)) f2 (fun v => by omega)
  have hO2 : oHJ A2 o := ⟨fun v v1 v2 => ((f2 33 1 v (by omega)).1).trans (w1 v v1 v2), ((f2 7 1 10 (by omega)).1).trans w2, hN⟩
  have hR2 : oRJ A2 q := ⟨w3, hq⟩
  have hE0 : oEnJ A2 o q 23 23 := fun k hk => ⟨fun s s1 s2 => by omega, fun s s1 s2 => by omega⟩
  obtain ⟨A3, e3, f3, w4⟩ := L60J d k1 i1 29 0 22 A2 (by omega) hA2 hO2 hR2 hE0
  refine ⟨A3, ?_, zFo_trans f1' (zFo_trans (zFo_mono f2 (fun a b c z => ⟨z.2, Or.inr (Or.inl z.1)⟩)) (zFo_mono f3 (fun a b c z => ⟨z.2, Or.inr (Or.inr (Or.inl z.1))⟩))), Raf_frJ hA2 f3 (fun v => by omega), oH_frJ hO2 f3 (fun v => by omega) (by omega), oR_frJ hR2 f3 (fun v => by omega), w4⟩
  rw [B60_0]
  exact e1.trans (e2.trans e3)
theorem L77J (d dv k : Nat) (hd : 1 ≤ dv ∧ dv ≤ 10) (hk : k < 8) {A : zM} {o q : Nat → Nat} (hO : oHJ A o) (hR : oRJ A q) (hE : oEnJ A o q 1 1) : ∀ (j n : Nat) (u6 u7 : zV), n + j = 10 → zgo false (d + 1) 77 12 [zr 7 1, zi (nI dv), zi (nI (15 + k)), zi (nI (oHd dv (Nat.beq dv 1))), zi (yI (oSm o (fun v => if oNat dv v then 0 else oEe o q k (dv + v) (oA (Nat.beq dv 1) v)) n)), zi (nI (n + 1)), u6, u7] [] A = some (some (zi (yI (oO o q dv k))), A)
  | 0, n, u6, u7, hn => by
    have hn : n = 10 := hn
    subst hn
    have b := oSm_b (o := o) (n := 10) (m := 1000000) (f := fun v => if oNat dv v then 0 else oEe o q k (dv + v) (oA (Nat.beq dv 1) v)) (by decide) hO.2.2.2 (Nat.le_refl _) (fun v v1 v2 => by
      by_cases c : oNat dv v
      · rw [if_pos c]; decide
      · rw [if_neg c]; exact oE_1 hO.2.2.1 hk _ _)
    have e : oO o q dv k = (oSm o (fun v => if oNat dv v then 0 else oEe o q k (dv + v) (oA (Nat.beq dv 1) v)) 10).tdiv (ysm o) := by
      unfold oO
      rw [if_neg (by omega)]
      rfl
    rw [B77_12, if_pos (by decide), S72yJ d _ hO ⟨by omega, by omega⟩, zbsome, zpu1, B77_96, e]
  | j + 1, n, u6, u7, hn => by
    have c : ¬ (10 : Int32) < nI (n + 1) := nI_nlt (a := 10) (by omega) (by omega)
    have t : (oTt (dv + (n + 1)) (oA (Nat.beq dv 1) (n + 1)) = 21) ↔ oNat dv (n + 1) := by
      unfold oTt oNat oA
      rcases (by omega : dv = 1 ∨ dv = 2 ∨ dv = 3 ∨ dv = 4 ∨ dv = 5 ∨ dv = 6 ∨ dv = 7 ∨ dv = 8 ∨ dv = 9 ∨ dv = 10) with rfl | rfl | rfl | rfl | rfl | rfl | rfl | rfl | rfl | rfl <;> rcases (by omega : n = 0 ∨ n = 1 ∨ n = 2 ∨ n = 3 ∨ n = 4 ∨ n = 5 ∨ n = 6 ∨ n = 7 ∨ n = 8 ∨ n = 9) with rfl | rfl | rfl | rfl | rfl | rfl | rfl | rfl | rfl | rfl <;> decide
    have tt : oTt (dv + (n + 1)) (oA (Nat.beq dv 1) (n + 1)) ≤ 31 := by
      unfold oTt
      by_cases z : oA (Nat.beq dv 1) (n + 1) = true ∧ dv + (n + 1) ≤ 11
      · rw [if_pos z]; omega
      · rw [if_neg z]; omega
    have e21 : nI (oTt (dv + (n + 1)) (oA (Nat.beq dv 1) (n + 1))) = 21 ↔ oNat dv (n + 1) := by
      rw [show (21 : Int32) = nI 21 from rfl, nI_eq (by omega) (by omega)]
      exact t
    rw [B77_12, if_neg c, S172y _ _ _ _ _ _ _ _ (by omega) (by omega), zbsome, zpu1, B77_25, S173y _ _ _ _ _ (by omega), zbsome, zpu1, B77_32]
    by_cases z : oNat dv (n + 1)
    · have ih := L77J d dv k hd hk hO hR hE j (n + 1) (zi (nI (oHd (dv + (n + 1)) (oA (Nat.beq dv 1) (n + 1))))) (zi 1) (by omega)
      have e : oSm o (fun v => if oNat dv v then 0 else oEe o q k (dv + v) (oA (Nat.beq dv 1) v)) (n + 1) = oSm o (fun v => if oNat dv v then 0 else oEe o q k (dv + v) (oA (Nat.beq dv 1) v)) n := by
        show _ + _ * (if oNat dv (n + 1) then 0 else _) = _
        rw [if_pos z, Int.mul_zero, Int.add_zero]
      rw [e] at ih
      rw [if_pos (e21.mpr z), B77_42, if_neg (by decide), B77_84, nI_1]
      exact ih
    · have ih := L77J d dv k hd hk hO hR hE j (n + 1) (zi (nI (oHd (dv + (n + 1)) (oA (Nat.beq dv 1) (n + 1))))) (zi 0) (by omega)
      have e : oSm o (fun v => if oNat dv v then 0 else oEe o q k (dv + v) (oA (Nat.beq dv 1) v)) (n + 1) = oSm o (fun v => if oNat dv v then 0 else oEe o q k (dv + v) (oA (Nat.beq dv 1) v)) n + (o (n + 1) : Int) * oEe o q k (dv + (n + 1)) (oA (Nat.beq dv 1) (n + 1)) := by
        show _ + _ * (if oNat dv (n + 1) then 0 else _) = _
        rw [if_neg z]
      rw [e] at ih
      have a1 : ∀ d, zgo false d 169 0 [zr 33 1, zi (nI (n + 1))] [] A = some (some (zi (nI (o (n + 1)))), A) := fun d => (at33n false d 1 (n + 1) A (by omega)).trans (by rw [hO.1 (n + 1) (by omega) (by omega)])
      have l2 : oPl (dv + (n + 1)) (oA (Nat.beq dv 1) (n + 1)) ≤ 53 := oPl_lt
      have e1 : (nI (15 + k) - 15) * 64 = nI (64 * k) := by
        rw [show (15 : Int32) = nI 15 from rfl, show (64 : Int32) = nI 64 from rfl, pk_sub (by omega), show 15 + k - 15 = k by omega, pk_mul, Nat.mul_comm]
      have a2 : ∀ d, zgo false d 169 0 [zr 36 1, zi (nI (64 * k + oPl (dv + (n + 1)) (oA (Nat.beq dv 1) (n + 1))))] [] A = some (some (zi (yI (oEe o q k (dv + (n + 1)) (oA (Nat.beq dv 1) (n + 1))))), A) := fun d => (at36n false d 1 _ A (by omega)).trans (by rw [oEn_atJ hE hR.2.2.2.2.2.2 hk (fun _ => by omega) (fun _ => by omega) (by omega)])
      rw [if_neg (mt e21.mp z), B77_42, if_pos rfl, a1, zbsome]
      show zgo false (d + 1) 77 60 [zr 7 1, zi (nI dv), zi (nI (15 + k)), zi (nI (oHd dv (Nat.beq dv 1))), _, zi (nI (n + 1)), _, zi 0] [zi (nI (o (n + 1))), _] A = _
      rw [B77_60, S74y _ _ _ _ _ (by omega), zbsome, e1]
      show zgo false (d + 1) 77 76 [zr 7 1, zi (nI dv), zi (nI (15 + k)), zi (nI (oHd dv (Nat.beq dv 1))), _, zi (nI (n + 1)), _, zi 0] [zi (nI (oPl (dv + (n + 1)) (oA (Nat.beq dv 1) (n + 1)))), zi (nI (64 * k)), zr 36 1, zi (nI (o (n + 1))), _] A = _
      rw [B77_76, nI_add, a2, zbsome]
      show zgo false (d + 1) 77 80 [zr 7 1, zi (nI dv), zi (nI (15 + k)), zi (nI (oHd dv (Nat.beq dv 1))), _, zi (nI (n + 1)), _, zi 0] [zi (yI (oEe o q k (dv + (n + 1)) (oA (Nat.beq dv 1) (n + 1)))), zi (nI (o (n + 1))), _] A = _
      rw [B77_80, B77_84, nI_1, yI_nat (o (n + 1)), yI_mul, yI_add]
      exact ih
theorem S77J (d dv k : Nat) (hd : 1 ≤ dv ∧ dv ≤ 10) (hk : k < 8) (u3 u4 u5 u6 u7 : zV) {A : zM} {o q : Nat → Nat} (hO : oHJ A o) (hR : oRJ A q) (hE : oEnJ A o q 1 1) : zgo false (d + 1) 77 0 [zr 7 1, zi (nI dv), zi (nI (15 + k)), u3, u4, u5, u6, u7] [] A = some (some (zi (yI (oO o q dv k))), A) := by
  have e := S172y false d 0 dv false zu zu A (by omega) hd
  have e : zgo false d 172 0 [zi 0, zi (nI dv), zu, zu] [] A = some (some (zi (nI (oHd dv (Nat.beq dv 1)))), A) := by
    rw [show oHd dv (Nat.beq dv 1) = oHd (0 + dv) (oA false dv) by rw [Nat.zero_add]; rfl]
    exact e
  rw [B77_0, e, zbsome, zpu1, B77_5]
  exact L77J d dv k hd hk hO hR hE 10 0 u6 u7 rfl
def oOpJ (A : zM) (O : Nat → Int) : Prop := ∀ k, k < 9 → zgI A 37 1 k = yI (O k)
theorem L78J (d t : Nat) (O : Nat → Int) (ht : t ≤ 22) {A : zM} (h : oOpJ A O) : ∀ (j n : Nat) (u4 : zV), n + j = 8 → zgo false (d + 2) 78 5 [zr 7 1, zi (nI t), zi (yI (oPs (oStk O t) n)), zi (nI (15 + n)), u4] [] A = some (some (zi (yI (oSt O t))), A)
  | 0, n, u4, hn => by
    have hn : n = 8 := hn
    subst hn
    rw [B78_5, if_pos (by decide), oPs_8]
    rfl
  | j + 1, n, u4, hn => by
    have ih := L78J d t O ht h j (n + 1) (zi (yI (O n))) (by omega)
    have c : ¬ (22 : Int32) < nI (15 + n) := nI_nlt (a := 22) (by omega) (by omega)
    have e1 : nI (15 + n) - 15 = nI n := by rw [show (15 : Int32) = nI 15 from rfl, pk_sub (by omega), show 15 + n - 15 = n by omega]
    have e62 : zgo false (d + 1) 62 0 [zr 7 1, zi (nI (15 + n))] [] A = some (some (zi (yI (O n))), A) := by
      rw [B62_0, e1, at37n _ _ _ _ _ (by omega), h n (by omega), zbsome, zpu1, B62_11]
    have l1 : nI t ≤ 21 ↔ t ≤ 21 := nI_leI (b := 21) (by omega) (by omega)
    have l2 : nI (15 + n) = 22 ↔ 15 + n = 22 := nI_eq (b := 22) (by omega) (by omega)
    have l3 : nI t ≤ nI (15 + n) ↔ t ≤ 15 + n := nI_leI (by omega) (by omega)
    have l4 : nI (15 + n) ≤ nI t ↔ 15 + n ≤ t := nI_leI (by omega) (by omega)
    rw [B78_5, if_neg c, e62, zbsome, zpu1, B78_16]
    have st : ∀ x : Int, x = oStk O t n → zgo false (d + 2) 78 61 [zr 7 1, zi (nI t), zi (yI (oPs (oStk O t) n + x)), zi (nI (15 + n)), zi (yI (O n))] [] A = some (some (zi (yI (oSt O t))), A) := by
      intro x hx
      rw [B78_61, nI_1, hx]
      exact ih
    by_cases c1 : t ≤ 21
    · rw [if_pos (l1.mpr c1)]
      by_cases c2 : 15 + n = 22
      · rw [if_pos (l2.mpr c2), B78_43, yI_add]
        refine st _ ?_
        unfold oStk
        rw [if_neg (by omega), if_pos (by omega)]
      · rw [if_neg (mt l2.mp c2)]
        by_cases c3 : t ≤ 15 + n
        · rw [if_pos (l3.mpr c3)]
          by_cases c4 : 15 + n ≤ t
          · rw [if_pos (l4.mpr c4)]
            have := st 0 (by
              unfold oStk
              rw [if_neg (by omega), if_neg (by omega), if_neg (by omega)])
            rw [Int.add_zero] at this
            exact this
          · rw [if_neg (mt l4.mp c4), yI_sub, Int.sub_eq_add_neg]
            refine st _ ?_
            unfold oStk
            rw [if_neg (by omega), if_neg (by omega), if_pos (by omega)]
        · rw [if_neg (mt l3.mp c3), B78_43, yI_add]
          refine st _ ?_
          unfold oStk
          rw [if_neg (by omega), if_pos (by omega)]
    · rw [if_neg (mt l1.mp c1), yI_sub, Int.sub_eq_add_neg]
      refine st _ ?_
      unfold oStk
      rw [if_pos (by omega)]
theorem S78J (d t : Nat) (O : Nat → Int) (ht : t ≤ 22) (u2 u3 u4 : zV) {A : zM} (h : oOpJ A O) : zgo false (d + 2) 78 0 [zr 7 1, zi (nI t), u2, u3, u4] [] A = some (some (zi (yI (oSt O t))), A) := by
  rw [B78_0]
  exact L78J d t O ht h 8 0 u4 rfl
def oSdJ (A : zM) (O : Nat → Int) : Prop := ∀ t, 1 ≤ t → t ≤ 22 → zgI A 38 1 t = yI (oSt O t) ∧ zgI A 38 1 (32 + t) = yI (oSt O t)
theorem oSd_atJ {A : zM} {O : Nat → Int} (h : oSdJ A O) {s : Nat} {a : Bool} (hs : 1 ≤ s) : zgI A 38 1 (oPl s a) = yI (oSt O (oTt s a)) := by
  unfold oPl oTt
  by_cases c : a = true ∧ s ≤ 11
  · rw [if_pos c, if_pos c, show 42 + s = 32 + (s + 10) by omega]
    exact (h (s + 10) (by omega) (by omega)).2
  · rw [if_neg c, if_neg c]
    by_cases c2 : s ≤ 22
    · rw [if_pos c2]
      exact (h s hs c2).1
    · rw [if_neg c2, oSt_big (show 22 ≤ s by omega)]
      exact (h 22 (by omega) (by omega)).1
def oDnJ (A : zM) (o : Nat → Nat) (O : Nat → Int) (lo lo2 : Nat) : Prop := (∀ s, lo ≤ s → s ≤ 21 → zgI A 39 1 s = yI (oDe o O s false) ∧ zgI A 40 1 s = yI (oDb o O s false)) ∧ ∀ s, lo2 ≤ s → s ≤ 11 → zgI A 39 1 (42 + s) = yI (oDe o O s true) ∧ zgI A 40 1 (42 + s) = yI (oDb o O s true)
theorem oDn_atJ {A : zM} {o : Nat → Nat} {O : Nat → Int} {lo lo2 s : Nat} {a : Bool} (h : oDnJ A o O lo lo2) (h1 : lo ≤ s) (h2 : lo2 ≤ s) (hs : s ≤ 21) : zgI A 39 1 (oPl s a) = yI (oDe o O s a) := by
  unfold oPl
  by_cases c : a = true ∧ s ≤ 11
  · rw [if_pos c, (h.2 s h2 c.2).1, c.1]
  · rw [if_neg c, if_pos (by omega), (h.1 s h1 hs).1]
    cases ha : a with
    | false => rfl
    | true =>
      have : 11 < s := by
        rcases Nat.lt_or_ge 11 s with z | z
        · exact z
        · exact absurd ⟨ha, z⟩ c
      unfold oDe
      rw [oD_hard o O 40 s this]
theorem S80J (d s : Nat) (a : Bool) (hs : 1 ≤ s) (u2 : zV) {A : zM} {o : Nat → Nat} {O : Nat → Int} (hN : 0 < ysm o) (hO : ∀ k, 0 ≤ O k) (hQ : oQ O ≤ 1000000) (h1 : oSdJ A O) (h2 : oTt s a < 21 → zgI A 39 1 (oPl s a) = yI (oDe o O s a)) : zgo false (d + 1) 80 0 [zr 7 1, zi (nI (oPl s a)), u2] [] A = some (some (zi (yI (oNx O (oTt s a) (oDe o O s a)))), A) := by
  have hl : oPl s a ≤ 53 := oPl_lt
  have s1 : zgo false d 169 0 [zr 38 1, zi (nI (oPl s a))] [] A = some (some (zi (yI (oSt O (oTt s a)))), A) := (at38n false d 1 _ A (by omega)).trans (by rw [oSd_atJ h1 hs])
  have l1 : nI (oPl s a) < 21 ↔ oPl s a < 21 := nI_ltI (b := 21) (by omega) (by omega)
  have l2 : nI (oPl s a) ≤ 22 ↔ oPl s a ≤ 22 := nI_leI (b := 22) (by omega) (by omega)
  have l3 : nI (oPl s a) = 53 ↔ oPl s a = 53 := nI_eq (b := 53) (by omega) (by omega)
  have t := oTt_21 (s := s) (a := a)
  by_cases c : 21 ≤ oTt s a
  · have e : oNx O (oTt s a) (oDe o O s a) = oSt O (oTt s a) := if_neg (by omega)
    have k : zgo false (d + 1) 80 0 [zr 7 1, zi (nI (oPl s a)), u2] [] A = zgo false (d + 1) 80 23 [zr 7 1, zi (nI (oPl s a)), u2] [zi 1] A := by
      rcases t.mpr c with z | z | z
      · rw [B80_0, if_neg (mt l1.mp (by omega)), if_pos (l2.mpr (by omega)), B80_18]
      · rw [B80_0, if_neg (mt l1.mp (by omega)), if_pos (l2.mpr (by omega)), B80_18]
      · rw [B80_0, if_neg (mt l1.mp (by omega)), if_neg (mt l2.mp (by omega)), B80_12, if_pos (l3.mpr z), B80_18]
    rw [k, B80_23, if_neg (by decide), s1, zbsome, zpu1, B80_36, B80_58, e]
  · have nt := mt t.mp c
    have k : zgo false (d + 1) 80 0 [zr 7 1, zi (nI (oPl s a)), u2] [] A = zgo false (d + 1) 80 23 [zr 7 1, zi (nI (oPl s a)), u2] [zi 0] A := by
      have k2 : zgo false (d + 1) 80 12 [zr 7 1, zi (nI (oPl s a)), u2] [] A = zgo false (d + 1) 80 23 [zr 7 1, zi (nI (oPl s a)), u2] [zi 0] A := by
        rw [B80_12, if_neg (mt l3.mp (by omega))]
      by_cases z : oPl s a < 21
      · rw [B80_0, if_pos (l1.mpr z), k2]
      · rw [B80_0, if_neg (mt l1.mp z), if_neg (mt l2.mp (by omega)), k2]
    have s2 : zgo false d 169 0 [zr 39 1, zi (nI (oPl s a))] [] A = some (some (zi (yI (oDe o O s a))), A) := (at39n false d 1 _ A (by omega)).trans (by rw [h2 (by omega)])
    rw [k, B80_23, if_pos rfl, s1, zbsome, zpu1, B80_47, s2, zbsome]
    show zgo false (d + 1) 80 55 [zr 7 1, zi (nI (oPl s a)), zi 0] [zi (yI (oDe o O s a)), zi (yI (oSt O (oTt s a)))] A = _
    have b1 := oSt_b hO hQ (oTt s a)
    have b2 : -1000000 ≤ oDe o O s a ∧ oDe o O s a ≤ 1000000 := oD_b hN hO hQ 40 s a
    have l4 : yI (oSt O (oTt s a)) < yI (oDe o O s a) ↔ oSt O (oTt s a) < oDe o O s a := yI_lt ⟨by omega, by omega⟩ ⟨by omega, by omega⟩
    rw [B80_55, B80_58]
    unfold oNx
    rw [if_pos (show oTt s a < 21 by omega)]
    by_cases z : oSt O (oTt s a) < oDe o O s a
    · rw [if_pos z, if_pos (l4.mpr z)]
    · rw [if_neg z, if_neg (mt l4.mp z)]
theorem L79J (d s : Nat) (a : Bool) (hs : 1 ≤ s ∧ s ≤ 21) {A : zM} {o : Nat → Nat} {O : Nat → Int} (hA : RafJ A) (hH : oHJ A o) (hO : ∀ k, 0 ≤ O k) (hQ : oQ O ≤ 1000000) (h1 : oSdJ A O) (h2 : ∀ v, 1 ≤ v → v ≤ 10 → oTt (s + v) (oA a v) < 21 → zgI A 39 1 (oPl (s + v) (oA a v)) = yI (oDe o O (s + v) (oA a v))) : ∀ (j n : Nat), n + j = 10 → zgo false (d + 2) 79 4 [zr 7 1, zi (nI (oPl s a)), zi (yI (oSm o (fun v => oNx O (oTt (s + v) (oA a v)) (oDe o O (s + v) (oA a v))) n)), zi (nI (n + 1))] [] A = some (none, zsI (zsI A 39 1 (oPl s a) (yI (oDe o O s a))) 40 1 (oPl s a) (yI (oDb o O s a)))
  | 0, n, hn => by
    have hn : n = 10 := hn
    subst hn
    have hl : oPl s a ≤ 53 := oPl_lt
    have hb : ∀ v, 1 ≤ v → v ≤ 10 → -1000000 ≤ oNx O (oTt (s + v) (oA a v)) (oDe o O (s + v) (oA a v)) ∧ oNx O (oTt (s + v) (oA a v)) (oDe o O (s + v) (oA a v)) ≤ 1000000 := fun v _ _ => oNx_b hO hQ _ (oD_b hH.2.2.1 hO hQ 40 _ _)
    have b := oSm_b (o := o) (n := 10) (m := 1000000) (by decide) hH.2.2.2 (Nat.le_refl _) hb
    have e := (oDe_eq (o := o) (O := O) s a).symm
    unfold oAv at e
    have f1 : zFo (fun a b _ => a = 39 ∧ b = 1) A (zsI A 39 1 (oPl s a) (yI (oDe o O s a))) := zFo_sI (zFo_refl _ A) ⟨rfl, rfl⟩
    rw [B79_4, if_pos (by decide), S72yJ _ _ hH ⟨by omega, by omega⟩, zbsome, e]
    show zgo false (d + 2) 79 55 [zr 7 1, zi (nI (oPl s a)), _, _] [zi (yI (oDe o O s a)), zi (nI (oPl s a)), zr 39 1] A = _
    rw [B79_55, se39n _ _ _ _ _ _ (by omega), zbsome, zpu0, B79_58]
    have row := S76yJ d 38 (oPl s a) 0 zu zu (fun v => oSt O (oTt (s + v) (oA a v))) (A := zsI A 39 1 (oPl s a) (yI (oDe o O s a))) (o := o) (Raf_frJ hA f1 (fun v z => by cases z.1)) (oH_frJ hH f1 (fun v z => by cases z.1) (fun z => by cases z.1)) (oPl_dom hs.2) (fun v _ _ => oSt_b hO hQ _) (fun v v1 v2 d => by
      have l2 : oPl (s + v) (oA a v) ≤ 53 := oPl_lt
      rw [oAf_eq (by omega) v1 (by omega), show (0 : Int32) = nI 0 from rfl, nI_add, Nat.zero_add, at38n _ _ _ _ _ (by omega), (f1 38 1 _ (fun z => by cases z.1)).1, oSd_atJ h1 (by omega)])
    have e2 : yI (oAv o fun v => oSt O (oTt (s + v) (oA a v))) * 2 = yI (oDb o O s a) := by
      unfold oDb
      rw [show (2 : Int32) = yI 2 from rfl, yI_mul, Int.mul_comm]
    have e2' : 2 * yI (oAv o fun v => oSt O (oTt (s + v) (oA a v))) = yI (oDb o O s a) := by
      rw [show (2 : Int32) = yI 2 from rfl, yI_mul]
      rfl
    rw [row, zbsome]
    show zgo false (d + 2) 79 74 [zr 7 1, zi (nI (oPl s a)), _, _] [zi (yI (oAv o fun v => oSt O (oTt (s + v) (oA a v)))), zi 2, zi (nI (oPl s a)), zr 40 1] _ = _
    rw [B79_74, e2', se40n _ _ _ _ _ _ (by omega), zbsome, zpu0, B79_78]
  | j + 1, n, hn => by
    have ih := L79J d s a hs hA hH hO hQ h1 h2 j (n + 1) (by omega)
    have hl : oPl s a ≤ 53 := oPl_lt
    have hdm := oPl_dom (a := a) hs.2
    have c : ¬ (10 : Int32) < nI (n + 1) := nI_nlt (a := 10) (by omega) (by omega)
    have a1 : ∀ d, zgo false d 169 0 [zr 33 1, zi (nI (n + 1))] [] A = some (some (zi (nI (o (n + 1)))), A) := fun d => (at33n false d 1 (n + 1) A (by omega)).trans (by rw [hH.1 (n + 1) (by omega) (by omega)])
    have e : nI (oPl s a) * 11 + nI (n + 1) = nI (oPl s a * 11 + (n + 1)) := by
      rw [show (11 : Int32) = nI 11 from rfl, pk_mul, nI_add]
    have a2 : ∀ d, zgo false d 169 0 [zr 35 1, zi (nI (oPl s a * 11 + (n + 1)))] [] A = some (some (zi (nI (oPl (s + (n + 1)) (oA a (n + 1))))), A) := fun d => (at35n false d 1 _ A (by omega)).trans (by rw [hA _ (n + 1) hdm (by omega) (by omega), oAf_eq (by omega) (by omega) (by omega)])
    rw [B79_4, if_neg c, a1, zbsome]
    show zgo false (d + 2) 79 19 [zr 7 1, zi (nI (oPl s a)), _, zi (nI (n + 1))] [zi (nI (o (n + 1))), _] A = _
    rw [B79_19, e, a2, zbsome]
    show zgo false (d + 2) 79 33 [zr 7 1, zi (nI (oPl s a)), _, zi (nI (n + 1))] [zi (nI (oPl (s + (n + 1)) (oA a (n + 1)))), zr 7 1, zi (nI (o (n + 1))), _] A = _
    rw [B79_33, S80J d _ _ (by omega) zu hH.2.2.1 hO hQ h1 (h2 (n + 1) (by omega) (by omega)), zbsome]
    show zgo false (d + 2) 79 36 [zr 7 1, zi (nI (oPl s a)), _, zi (nI (n + 1))] [zi (yI (oNx O (oTt (s + (n + 1)) (oA a (n + 1))) (oDe o O (s + (n + 1)) (oA a (n + 1))))), zi (nI (o (n + 1))), _] A = _
    rw [B79_36, nI_1, yI_nat (o (n + 1)), yI_mul, yI_add]
    exact ih
def oFfJ (a b _c : Nat) : Prop := b = 1 ∧ 37 ≤ a ∧ a ≤ 40
theorem oEn_frJ {A A' : zM} {o q : Nat → Nat} {lo lo2 : Nat} {P : Nat → Nat → Nat → Prop} (h : oEnJ A o q lo lo2) (f : zFo P A A') (hp : ∀ v, ¬ P 36 1 v) : oEnJ A' o q lo lo2 := fun k hk => ⟨fun s s1 s2 => ((f 36 1 _ (hp _)).1).trans ((h k hk).1 s s1 s2), fun s s1 s2 => ((f 36 1 _ (hp _)).1).trans ((h k hk).2 s s1 s2)⟩
theorem L61aJ (d dv : Nat) (hd : 1 ≤ dv ∧ dv ≤ 10) {o q : Nat → Nat} : ∀ (j n : Nat) (A : zM) (u3 : zV), n + j = 8 → oHJ A o → oRJ A q → oEnJ A o q 1 1 → (∀ k, k < n → zgI A 37 1 k = yI (oO o q dv k)) → ∃ A', zgo false (d + 2) 61 3 [zr 7 1, zi (nI dv), zi (nI (15 + n)), u3] [] A = zgo false (d + 2) 61 3 [zr 7 1, zi (nI dv), zi (nI 23), u3] [] A' ∧ zFo (fun a b c => a = 37 ∧ b = 1) A A' ∧ ∀ k, k < 8 → zgI A' 37 1 k = yI (oO o q dv k)
  | 0, n, A, u3, hn, hH, hR, hE, hk => by
    have hn : n = 8 := hn
    subst hn
    exact ⟨A, rfl, zFo_refl _ A, hk⟩
  | j + 1, n, A, u3, hn, hH, hR, hE, hk => by
    have f1 : zFo (fun a b c => a = 37 ∧ b = 1) A (zsI A 37 1 n (yI (oO o q dv n))) := zFo_sI (zFo_refl _ A) ⟨rfl, rfl⟩
    obtain ⟨A', e, f, w⟩ := L61aJ d dv hd j (n + 1) (zsI A 37 1 n (yI (oO o q dv n))) u3 (by omega) (oH_frJ hH f1 (fun v z => by cases z.1) (fun z => by cases z.1)) (oR_frJ hR f1 (fun v z => by cases z.1)) (oEn_frJ hE f1 (fun v z => by cases z.1)) (fun k k1 => by
      rw [zgI_sI]
      by_cases z : k = n
      · rw [if_pos ⟨rfl, rfl, z⟩, z]
      · rw [if_neg (by omega)]
        exact hk k (by omega))
    refine ⟨A', ?_, zFo_trans f1 f, w⟩
    have c : ¬ (22 : Int32) < nI (15 + n) := nI_nlt (a := 22) (by omega) (by omega)
    have e1 : nI (15 + n) - 15 = nI n := by rw [show (15 : Int32) = nI 15 from rfl, pk_sub (by omega), show 15 + n - 15 = n by omega]
    rw [← e, B61_3, if_neg c, S77J d dv n hd (by omega) zu zu zu zu zu hH hR hE, zbsome, e1]
    show zgo false (d + 2) 61 23 [zr 7 1, zi (nI dv), zi (nI (15 + n)), u3] [zi (yI (oO o q dv n)), zi (nI n), zr 37 1] A = _
    rw [B61_23, se37n _ _ _ _ _ _ (by omega), zbsome, zpu0, B61_26, nI_1]
    rfl
theorem L61cJ (d dv : Nat) (x2 : Int32) (O : Nat → Int) : ∀ (j n : Nat) (A : zM), n + j = 22 → oOpJ A O → (∀ t, 1 ≤ t → t ≤ n → zgI A 38 1 t = yI (oSt O t) ∧ zgI A 38 1 (32 + t) = yI (oSt O t)) → ∃ A', zgo false (d + 3) 61 87 [zr 7 1, zi (nI dv), zi x2, zi (nI (n + 1))] [] A = zgo false (d + 3) 61 134 [zr 7 1, zi (nI dv), zi x2, zi 21] [] A' ∧ zFo (fun a b c => a = 38 ∧ b = 1) A A' ∧ oSdJ A' O
  | 0, n, A, hn, hO, hS => by
    have hn : n = 22 := hn
    subst hn
    refine ⟨A, ?_, zFo_refl _ A, hS⟩
    rw [B61_87, if_pos (by decide)]
  | j + 1, n, A, hn, hO, hS => by
    let A1 := zsI (zsI A 38 1 (n + 1) (yI (oSt O (n + 1)))) 38 1 (32 + (n + 1)) (yI (oSt O (n + 1)))
    have f1 : zFo (fun a b c => a = 38 ∧ b = 1) A A1 := zFo_sI (zFo_sI (zFo_refl _ A) ⟨rfl, rfl⟩) ⟨rfl, rfl⟩
    obtain ⟨A', e, f, w⟩ := L61cJ d dv x2 O j (n + 1) A1 (by omega) (fun k hk => ((f1 37 1 k (by omega)).1).trans (hO k hk)) (fun t t1 t2 => by
      by_cases z : t = n + 1
      · subst z
        refine ⟨?_, ?_⟩
        · rw [zgI_sI, if_neg (by omega), zgI_sI, if_pos ⟨rfl, rfl, rfl⟩]
        · rw [zgI_sI, if_pos ⟨rfl, rfl, rfl⟩]
      · rw [zgI_sI, if_neg (by omega), zgI_sI, if_neg (by omega), zgI_sI, if_neg (by omega), zgI_sI, if_neg (by omega)]
        exact hS t t1 (by omega))
    refine ⟨A', ?_, zFo_trans f1 f, w⟩
    have c : ¬ (22 : Int32) < nI (n + 1) := nI_nlt (a := 22) (by omega) (by omega)
    have e1 : (32 : Int32) + nI (n + 1) = nI (32 + (n + 1)) := by rw [show (32 : Int32) = nI 32 from rfl, nI_add]
    rw [← e, B61_87, if_neg c, S78J d (n + 1) O (by omega) zu zu zu hO, zbsome]
    show zgo false (d + 3) 61 103 [zr 7 1, zi (nI dv), zi x2, zi (nI (n + 1))] [zi (yI (oSt O (n + 1))), zi (nI (n + 1)), zr 38 1] A = _
    rw [B61_103, se38n _ _ _ _ _ _ (by omega), zbsome, zpu0, B61_106, at38n _ _ _ _ _ (by omega), zbsome, e1]
    have e2 : zgI (zsI A 38 1 (n + 1) (yI (oSt O (n + 1)))) 38 1 (n + 1) = yI (oSt O (n + 1)) := by rw [zgI_sI, if_pos ⟨rfl, rfl, rfl⟩]
    rw [e2]
    show zgo false (d + 3) 61 122 [zr 7 1, zi (nI dv), zi x2, zi (nI (n + 1))] [zi (yI (oSt O (n + 1))), zi (nI (32 + (n + 1))), zr 38 1] _ = _
    rw [B61_122, se38n _ _ _ _ _ _ (by omega), zbsome, zpu0, B61_125, nI_1]
theorem S79J (d s : Nat) (a : Bool) (hs : 1 ≤ s ∧ s ≤ 21) (u2 u3 : zV) {A : zM} {o : Nat → Nat} {O : Nat → Int} (hA : RafJ A) (hH : oHJ A o) (hO : ∀ k, 0 ≤ O k) (hQ : oQ O ≤ 1000000) (h1 : oSdJ A O) (h2 : ∀ v, 1 ≤ v → v ≤ 10 → oTt (s + v) (oA a v) < 21 → zgI A 39 1 (oPl (s + v) (oA a v)) = yI (oDe o O (s + v) (oA a v))) : zgo false (d + 2) 79 0 [zr 7 1, zi (nI (oPl s a)), u2, u3] [] A = some (none, zsI (zsI A 39 1 (oPl s a) (yI (oDe o O s a))) 40 1 (oPl s a) (yI (oDb o O s a))) := by
  rw [B79_0]
  exact L79J d s a hs hA hH hO hQ h1 h2 10 0 rfl
theorem oSd_frJ {A A' : zM} {O : Nat → Int} {P : Nat → Nat → Nat → Prop} (h : oSdJ A O) (f : zFo P A A') (hp : ∀ v, ¬ P 38 1 v) : oSdJ A' O := fun t t1 t2 => ⟨((f 38 1 _ (hp _)).1).trans (h t t1 t2).1, ((f 38 1 _ (hp _)).1).trans (h t t1 t2).2⟩
theorem oDn_setJ {A1 : zM} {o : Nat → Nat} {O : Nat → Int} {s : Nat} (h1 : oDnJ A1 o O (s + 1) (s + 2)) : oDnJ (zsI (zsI A1 39 1 (42 + (s + 1)) (yI (oDe o O (s + 1) true))) 40 1 (42 + (s + 1)) (yI (oDb o O (s + 1) true))) o O (s + 1) (s + 1) := by
  refine ⟨fun t t1 t2 => ?_, fun t t1 t2 => ?_⟩
  · rw [zgI_sI, if_neg (by omega), zgI_sI, if_neg (by omega), zgI_sI, if_neg (by omega), zgI_sI, if_neg (by omega)]
    exact h1.1 t t1 t2
  · by_cases z : t = s + 1
    · subst z
      refine ⟨?_, ?_⟩
      · rw [zgI_sI, if_neg (by omega), zgI_sI, if_pos ⟨rfl, rfl, rfl⟩]
      · rw [zgI_sI, if_pos ⟨rfl, rfl, rfl⟩]
    · rw [zgI_sI, if_neg (by omega), zgI_sI, if_neg (by omega), zgI_sI, if_neg (by omega), zgI_sI, if_neg (by omega)]
      exact h1.2 t (by omega) t2
theorem L61dJ (d dv : Nat) (x2 : Int32) {o : Nat → Nat} {O : Nat → Int} (hO : ∀ k, 0 ≤ O k) (hQ : oQ O ≤ 1000000) : ∀ (s : Nat) (A : zM), s ≤ 21 → RafJ A → oHJ A o → oSdJ A O → oDnJ A o O (s + 1) (s + 1) → ∃ A', zgo false (d + 3) 61 134 [zr 7 1, zi (nI dv), zi x2, zi (nI s)] [] A = some (none, A') ∧ zFo (fun a b c => (a = 39 ∨ a = 40) ∧ b = 1) A A' ∧ oDnJ A' o O 1 1
  | 0, A, hs, hA, hH, hS, hD => by
    refine ⟨A, ?_, zFo_refl _ A, hD⟩
    rw [B61_134, if_pos (by decide)]
  | s + 1, A, hs, hA, hH, hS, hD => by
    have c1 : ¬ nI (s + 1) < 1 := nI_nlt (b := 1) (by omega) (by omega)
    have ep : nI (s + 1) + -1 = nI s := by rw [← Int32.sub_eq_add_neg, nI_pred]
    have hp : oPl (s + 1) false = s + 1 := by
      unfold oPl
      rw [if_neg (fun z => by cases z.1), if_pos (by omega)]
    have pre : ∀ (a : Bool) (A : zM), oDnJ A o O (s + 2) (s + 2) → ∀ v, 1 ≤ v → v ≤ 10 → oTt (s + 1 + v) (oA a v) < 21 → zgI A 39 1 (oPl (s + 1 + v) (oA a v)) = yI (oDe o O (s + 1 + v) (oA a v)) := by
      intro a A h v v1 v2 ht
      refine oDn_atJ h (by omega) (by omega) ?_
      unfold oTt at ht
      by_cases z : oA a v = true ∧ s + 1 + v ≤ 11
      · omega
      · rw [if_neg z] at ht
        omega
    have e1 := S79J d (s + 1) false ⟨by omega, hs⟩ zu zu hA hH hO hQ hS (pre false A hD)
    rw [hp] at e1
    let A1 := zsI (zsI A 39 1 (s + 1) (yI (oDe o O (s + 1) false))) 40 1 (s + 1) (yI (oDb o O (s + 1) false))
    have f1 : zFo (fun a b c => (a = 39 ∨ a = 40) ∧ b = 1) A A1 := zFo_sI (zFo_sI (zFo_refl _ A) ⟨Or.inl rfl, rfl⟩) ⟨Or.inr rfl, rfl⟩
    have h1 : oDnJ A1 o O (s + 1) (s + 2) := ⟨fun t t1 t2 => by
      by_cases z : t = s + 1
      · subst z
        refine ⟨?_, ?_⟩
        · rw [zgI_sI, if_neg (by omega), zgI_sI, if_pos ⟨rfl, rfl, rfl⟩]
        · rw [zgI_sI, if_pos ⟨rfl, rfl, rfl⟩]
      · rw [zgI_sI, if_neg (by omega), zgI_sI, if_neg (by omega), zgI_sI, if_neg (by omega), zgI_sI, if_neg (by omega)]
        exact hD.1 t (by omega) t2, fun t t1 t2 => by
      rw [zgI_sI, if_neg (by omega), zgI_sI, if_neg (by omega), zgI_sI, if_neg (by omega), zgI_sI, if_neg (by omega)]
      exact hD.2 t t1 t2⟩
    have hA1 := Raf_frJ hA f1 (fun v z => by rcases z.1 with z | z <;> cases z)
    have hH1 := oH_frJ hH f1 (fun v z => by rcases z.1 with z | z <;> cases z) (fun z => by rcases z.1 with z | z <;> cases z)
    have hS1 := oSd_frJ hS f1 (fun v z => by rcases z.1 with z | z <;> cases z)
    have k0 : zgo false (d + 3) 61 134 [zr 7 1, zi (nI dv), zi x2, zi (nI (s + 1))] [] A = zgo false (d + 3) 61 144 [zr 7 1, zi (nI dv), zi x2, zi (nI (s + 1))] [] A1 := by
      rw [B61_134, if_neg c1, e1]
      rfl
    rw [k0, B61_144]
    by_cases c11 : 11 < s + 1
    · have c : (11 : Int32) < nI (s + 1) := nI_lt (a := 11) c11 (by omega)
      obtain ⟨A', e, f, w⟩ := L61dJ d dv x2 hO hQ s A1 (by omega) hA1 hH1 hS1 ⟨h1.1, fun t t1 t2 => by omega⟩
      refine ⟨A', ?_, zFo_trans f1 f, w⟩
      rw [if_pos c, B61_158, ep]
      exact e
    · have c : ¬ (11 : Int32) < nI (s + 1) := nI_nlt (a := 11) (by omega) (by omega)
      have hp2 : oPl (s + 1) true = 42 + (s + 1) := if_pos ⟨rfl, by omega⟩
      have e42 : 42 + nI (s + 1) = nI (42 + (s + 1)) := by rw [show (42 : Int32) = nI 42 from rfl, nI_add]
      have e2 := S79J d (s + 1) true ⟨by omega, hs⟩ zu zu hA1 hH1 hO hQ hS1 (pre true A1 ⟨fun t t1 t2 => h1.1 t (by omega) t2, h1.2⟩)
      rw [hp2] at e2
      let A2 := zsI (zsI A1 39 1 (42 + (s + 1)) (yI (oDe o O (s + 1) true))) 40 1 (42 + (s + 1)) (yI (oDb o O (s + 1) true))
      have f2 : zFo (fun a b c => (a = 39 ∨ a = 40) ∧ b = 1) A1 A2 := zFo_sI (zFo_sI (zFo_refl _ A1) ⟨Or.inl rfl, rfl⟩) ⟨Or.inr rfl, rfl⟩
      have h2 : oDnJ A2 o O (s + 1) (s + 1) := oDn_setJ h1
      obtain ⟨A', e, f, w⟩ := L61dJ d dv x2 hO hQ s A2 (by omega) (Raf_frJ hA1 f2 (fun v z => by rcases z.1 with z | z <;> cases z)) (oH_frJ hH1 f2 (fun v z => by rcases z.1 with z | z <;> cases z) (fun z => by rcases z.1 with z | z <;> cases z)) (oSd_frJ hS1 f2 (fun v z => by rcases z.1 with z | z <;> cases z)) h2
      refine ⟨A', ?_, zFo_trans f1 (zFo_trans f2 f), w⟩
      rw [if_neg c, e42, e2, zbsome, zpu0, B61_158, ep]
      exact e
theorem S61J (d dv : Nat) (hd : 1 ≤ dv ∧ dv ≤ 10) (u2 u3 : zV) {A : zM} {o q : Nat → Nat} (hA : RafJ A) (hH : oHJ A o) (hR : oRJ A q) (hE : oEnJ A o q 1 1) : ∃ A', zgo false (d + 3) 61 0 [zr 7 1, zi (nI dv), u2, u3] [] A = some (none, A') ∧ zFo oFfJ A A' ∧ oOpJ A' (oO o q dv) ∧ oSdJ A' (oO o q dv) ∧ oDnJ A' o (oO o q dv) 1 1 := by
  obtain ⟨A1, e1, f1, w1⟩ := L61aJ (d + 1) dv hd 8 0 A u3 rfl hH hR hE (fun k hk => by omega)
  have hH1 := oH_frJ hH f1 (fun v z => by cases z.1) (fun z => by cases z.1)
  let m : Nat := if dv = 1 then o 10 else if dv = 10 then o 1 else 0
  have hm : m ≤ 416 := by
    have h10 : o 10 ≤ ysm o := by unfold ysm; omega
    have h11 : o 1 ≤ ysm o := by unfold ysm; omega
    have := hH.2.2.2
    show (if dv = 1 then o 10 else if dv = 10 then o 1 else 0) ≤ 416
    by_cases z : dv = 1
    · rw [if_pos z]; omega
    · rw [if_neg z]
      by_cases z : dv = 10
      · rw [if_pos z]; omega
      · rw [if_neg z]; omega
  let A2 := zsI A1 37 1 8 (yI (oO o q dv 8))
  have f2 : zFo (fun a b c => a = 37 ∧ b = 1) A1 A2 := zFo_sI (zFo_refl _ A1) ⟨rfl, rfl⟩
  have h2 : oOpJ A2 (oO o q dv) := fun k hk => by
    rw [zgI_sI]
    by_cases z : k = 8
    · rw [if_pos ⟨rfl, rfl, z⟩, z]
    · rw [if_neg (by omega)]
      exact w1 k (by omega)
  have e2 : zgo false (d + 3) 61 3 [zr 7 1, zi (nI dv), zi (nI 23), u3] [] A1 = zgo false (d + 3) 61 87 [zr 7 1, zi (nI dv), zi (nI m), zi 1] [] A2 := by
    have a10 : ∀ d, zgo false d 169 0 [zr 33 1, zi 10] [] A1 = some (some (zi (nI (o 10))), A1) := fun d => (at33n false d 1 10 A1 (by omega)).trans (by rw [hH1.1 10 (by omega) (by omega)])
    have a01 : ∀ d, zgo false d 169 0 [zr 33 1, zi 1] [] A1 = some (some (zi (nI (o 1))), A1) := fun d => (at33n false d 1 1 A1 (by omega)).trans (by rw [hH1.1 1 (by omega) (by omega)])
    have l1 : nI dv = 1 ↔ dv = 1 := nI_eq (b := 1) (by omega) (by omega)
    have l10 : nI dv = 10 ↔ dv = 10 := nI_eq (b := 10) (by omega) (by omega)
    have k67 : zgo false (d + 3) 61 3 [zr 7 1, zi (nI dv), zi (nI 23), u3] [] A1 = zgo false (d + 3) 61 67 [zr 7 1, zi (nI dv), zi (nI 23), u3] [zi (nI m)] A1 := by
      rw [B61_3, if_pos (by decide)]
      by_cases z : dv = 1
      · have em : m = o 10 := if_pos z
        rw [if_pos (l1.mpr z), a10, zbsome, zpu1, B61_46, em]
      · rw [if_neg (mt l1.mp z)]
        by_cases z2 : dv = 10
        · have em : m = o 1 := by
            show (if dv = 1 then o 10 else if dv = 10 then o 1 else 0) = _
            rw [if_neg z, if_pos z2]
          rw [if_pos (l10.mpr z2), a01, zbsome, zpu1, B61_63, em]
        · have em : m = 0 := by
            show (if dv = 1 then o 10 else if dv = 10 then o 1 else 0) = _
            rw [if_neg z, if_neg z2]
          rw [if_neg (mt l10.mp z2), em]
          rfl
    have e72 : zgo false (d + 2) 72 0 [zr 7 1, zi (nI m * 1000000)] [] A1 = some (some (zi (yI (oO o q dv 8))), A1) := by
      rw [yI_nat, show (1000000 : Int32) = yI 1000000 from rfl, yI_mul, S72yJ _ _ hH1 ⟨by omega, by omega⟩, oO_nat o q dv hd]
    rw [k67, B61_67, e72, zbsome]
    show zgo false (d + 3) 61 82 [zr 7 1, zi (nI dv), zi (nI m), u3] [zi (yI (oO o q dv 8)), zi 8, zr 37 1] A1 = _
    have s8 : ∀ d, zgo false d 170 0 [zr 37 1, zi 8, zi (yI (oO o q dv 8))] [] A1 = some (none, A2) := fun d => se37n false d 1 8 _ A1 (by omega)
    rw [B61_82, s8, zbsome, zpu0, B61_85]
  have hN := hH.2.2.1
  obtain ⟨A3, e3, f3, w3⟩ := L61cJ d dv (nI m) (oO o q dv) 22 0 A2 rfl h2 (fun t t1 t2 => by omega)
  have hA3 : RafJ A3 := Raf_frJ (Raf_frJ (Raf_frJ hA f1 (fun v z => by cases z.1)) f2 (fun v z => by cases z.1)) f3 (fun v z => by cases z.1)
  have hH3 : oHJ A3 o := oH_frJ (oH_frJ hH1 f2 (fun v z => by cases z.1) (fun z => by cases z.1)) f3 (fun v z => by cases z.1) (fun z => by cases z.1)
  obtain ⟨A4, e4, f4, w4⟩ := L61dJ d dv (nI m) (o := o) (O := oO o q dv) (fun k => oO_nn dv k) (oO_q hN dv) 21 A3 (by omega) hA3 hH3 w3 ⟨fun t t1 t2 => by omega, fun t t1 t2 => by omega⟩
  refine ⟨A4, ?_, zFo_trans (zFo_mono f1 (fun a b c z => ⟨z.2, by have := z.1; omega⟩)) (zFo_trans (zFo_mono f2 (fun a b c z => ⟨z.2, by have := z.1; omega⟩)) (zFo_trans (zFo_mono f3 (fun a b c z => ⟨z.2, by have := z.1; omega⟩)) (zFo_mono f4 (fun a b c z => ⟨z.2, by have := z.1; omega⟩)))), fun k hk => ?_, oSd_frJ w3 f4 (fun v z => by rcases z.1 with z | z <;> cases z), w4⟩
  · rw [B61_0]
    exact e1.trans (e2.trans (e3.trans e4))
  · rw [(f4 37 1 k (by omega)).1, (f3 37 1 k (by omega)).1]
    exact h2 k hk
theorem oDn_at2J {A : zM} {o : Nat → Nat} {O : Nat → Int} {lo lo2 s : Nat} {a : Bool} (h : oDnJ A o O lo lo2) (h1 : lo ≤ s) (h2 : lo2 ≤ s) (hs : s ≤ 21) : zgI A 40 1 (oPl s a) = yI (oDb o O s a) := by
  unfold oPl
  by_cases c : a = true ∧ s ≤ 11
  · rw [if_pos c, (h.2 s h2 c.2).2, c.1]
  · rw [if_neg c, if_pos (by omega), (h.1 s h1 hs).2]
    cases ha : a with
    | false => rfl
    | true =>
      have : 11 < s := by
        rcases Nat.lt_or_ge 11 s with z | z
        · exact z
        · exact absurd ⟨ha, z⟩ c
      rw [oDb_hard o O s this]
def oFcJ (A : zM) (o : Nat → Nat) (O : Nat → Int) : Prop := oOpJ A O ∧ oSdJ A O ∧ oDnJ A o O 1 1 ∧ (∀ k, 0 ≤ O k) ∧ oQ O ≤ 1000000 ∧ 0 < ysm o
theorem S63J (d s p : Nat) (a : Bool) (hs : 1 ≤ s ∧ s ≤ 21) (hp : p ≤ 2) (u3 : zV) {A : zM} {o : Nat → Nat} {O : Nat → Int} (h : oFcJ A o O) : zgo false (d + 1) 63 0 [zr 7 1, zi (nI (oHd s a)), zi (nI p), u3] [] A = some (some (zi (yI (oW o O s a p))), A) := by
  obtain ⟨h1, h2, h3, -⟩ := h
  have hl : oPl s a ≤ 53 := oPl_lt
  have go : ∀ K, (∀ d, zgo false d 169 0 [zr K 1, zi (nI (oPl s a))] [] A = some (some (zi (yI (oW o O s a p))), A)) → zgo false (d + 1) 63 27 [zr 7 1, zi (nI (oHd s a)), zi (nI p), u3] [zr K 1] A = some (some (zi (yI (oW o O s a p))), A) := by
    intro K hK
    rw [B63_27, S74y _ _ _ _ _ (by omega), zbsome]
    show zgo false (d + 1) 63 33 [zr 7 1, zi (nI (oHd s a)), zi (nI p), zr K 1] [zi (nI (oPl s a)), zr K 1] A = _
    rw [B63_33, hK, zbsome, zpu1, B63_36]
  rcases (by omega : p = 0 ∨ p = 1 ∨ p = 2) with rfl | rfl | rfl
  · rw [B63_0, if_pos (show nI 0 = 0 from rfl)]
    exact go 38 (fun d => (at38n false d 1 _ A (by omega)).trans (by rw [oSd_atJ h2 hs.1]; rfl))
  · rw [B63_0, if_neg (by decide), if_pos (show nI 1 = 1 from rfl)]
    exact go 39 (fun d => (at39n false d 1 _ A (by omega)).trans (by rw [oDn_atJ h3 hs.1 hs.1 hs.2]; rfl))
  · rw [B63_0, if_neg (by decide), if_neg (by decide)]
    exact go 40 (fun d => (at40n false d 1 _ A (by omega)).trans (by rw [oDn_at2J h3 hs.1 hs.1 hs.2]; rfl))
theorem S64J (d s : Nat) (a b : Bool) (hs : 1 ≤ s ∧ s ≤ 21) (u3 u4 u5 : zV) {A : zM} {o q : Nat → Nat} {O : Nat → Int} (hR : oRJ A q) (h : oFcJ A o O) : zgo false (d + 1) 64 0 [zr 7 1, zi (nI (oHd s a)), zi (if b = true then 1 else 0), u3, u4, u5] [] A = some (some (zi (nI (oBst o O s a (b && Nat.beq (q 2) 1)))), A) := by
  have hh := h
  obtain ⟨h1, h2, h3, hO, hQ, hN⟩ := h
  have hl : oPl s a ≤ 53 := oPl_lt
  have s1 : ∀ d, zgo false d 169 0 [zr 38 1, zi (nI (oPl s a))] [] A = some (some (zi (yI (oSt O (oTt s a)))), A) := fun d => (at38n false d 1 _ A (by omega)).trans (by rw [oSd_atJ h2 hs.1])
  have s2 : ∀ d, zgo false d 169 0 [zr 39 1, zi (nI (oPl s a))] [] A = some (some (zi (yI (oDe o O s a))), A) := fun d => (at39n false d 1 _ A (by omega)).trans (by rw [oDn_atJ h3 hs.1 hs.1 hs.2])
  have s3 : ∀ d, zgo false d 169 0 [zr 40 1, zi (nI (oPl s a))] [] A = some (some (zi (yI (oDb o O s a))), A) := fun d => (at40n false d 1 _ A (by omega)).trans (by rw [oDn_at2J h3 hs.1 hs.1 hs.2])
  have r2 : ∀ d, zgo false d 169 0 [zr 34 1, zi 2] [] A = some (some (zi (nI (q 2))), A) := fun d => (at34n false d 1 2 A (by omega)).trans (by rw [hR.1 2 (by omega)])
  have b0 := oW_b hN hO hQ s a 0
  have b1 := oW_b hN hO hQ s a 1
  have b2 := oW_b hN hO hQ s a 2
  have bm := oW_b hN hO hQ s a (oM1 o O s a)
  have e0 : oW o O s a 0 = oSt O (oTt s a) := rfl
  have e1 : oW o O s a 1 = oDe o O s a := rfl
  have e2 : oW o O s a 2 = oDb o O s a := rfl
  have l1 : yI (oDe o O s a) ≤ yI (oSt O (oTt s a)) ↔ oDe o O s a ≤ oSt O (oTt s a) := yI_le ⟨by omega, by omega⟩ ⟨by omega, by omega⟩
  have l2 : yI (oDb o O s a) ≤ yI (oW o O s a (oM1 o O s a)) ↔ oDb o O s a ≤ oW o O s a (oM1 o O s a) := yI_le ⟨by omega, by omega⟩ ⟨by omega, by omega⟩
  have k : zgo false (d + 1) 64 0 [zr 7 1, zi (nI (oHd s a)), zi (if b = true then 1 else 0), u3, u4, u5] [] A = zgo false (d + 1) 64 44 [zr 7 1, zi (nI (oHd s a)), zi (if b = true then 1 else 0), zi (nI (oPl s a)), zi (nI (oM1 o O s a)), zi (yI (oW o O s a (oM1 o O s a)))] [] A := by
    rw [B64_0, S74y _ _ _ _ _ (by omega), zbsome, zpu1, B64_4, s1, zbsome, zpu1, B64_16, s2, zbsome, zpu1, B64_26]
    by_cases z : oSt O (oTt s a) < oDe o O s a
    · have em : oM1 o O s a = 1 := if_pos z
      rw [if_neg (mt l1.mp (by omega)), s2, zbsome, zpu1, B64_42, em]
      rfl
    · have em : oM1 o O s a = 0 := if_neg z
      rw [if_pos (l1.mpr (by omega)), em]
      rfl
  rw [k, B64_44]
  cases b with
  | false =>
    have e : oBst o O s a (false && Nat.beq (q 2) 1) = oM1 o O s a := if_neg (fun z => by cases z.1)
    rw [if_pos (by decide), B64_77, B64_79, e]
  | true =>
    rw [if_neg (by decide), r2, zbsome, zpu1, B64_56]
    by_cases z : q 2 = 1
    · have e : (true && Nat.beq (q 2) 1) = true := by rw [z]; rfl
      have l3 : nI (q 2) = 1 := by rw [z]; rfl
      rw [if_pos l3, s3, zbsome, zpu1, B64_68, e]
      by_cases z2 : oW o O s a (oM1 o O s a) < oDb o O s a
      · have e3 : oBst o O s a true = 2 := if_pos ⟨rfl, z2⟩
        rw [if_neg (mt l2.mp (by omega)), B64_79, e3]
        rfl
      · have e3 : oBst o O s a true = oM1 o O s a := if_neg (fun y => z2 y.2)
        rw [if_pos (l2.mpr (by omega)), B64_77, B64_79, e3]
    · have e : (true && Nat.beq (q 2) 1) = false := by
        cases hb : Nat.beq (q 2) 1 with
        | false => rfl
        | true => exact absurd (Nat.eq_of_beq_eq_true hb) z
      have l3 : ¬ nI (q 2) = 1 := by
        rw [show (1 : Int32) = nI 1 from rfl, nI_eq (by have := hR.2; omega) (by omega)]
        exact z
      have e3 : oBst o O s a false = oM1 o O s a := if_neg (fun y => by cases y.1)
      rw [if_neg l3, B64_77, B64_79, e, e3]
theorem S65J (d s : Nat) (a : Bool) (hs : 1 ≤ s ∧ s ≤ 21) (u2 u3 : zV) {A : zM} {o q : Nat → Nat} {O : Nat → Int} (hR : oRJ A q) (h : oFcJ A o O) : zgo false (d + 2) 65 0 [zr 7 1, zi (nI (oHd s a)), u2, u3] [] A = some (some (zi (yI (oLn o O s a (Nat.beq (q 2) 1)))), A) := by
  have hh := h
  obtain ⟨h1, h2, h3, hO, hQ, hN⟩ := h
  have r2 : ∀ d, zgo false d 169 0 [zr 34 1, zi 2] [] A = some (some (zi (nI (q 2))), A) := fun d => (at34n false d 1 2 A (by omega)).trans (by rw [hR.1 2 (by omega)])
  have bl := oBst_le o O s a (Nat.beq (q 2) 1)
  have e64 : ∀ d, zgo false (d + 1) 64 0 [zr 7 1, zi (nI (oHd s a)), zi 1, zu, zu, zu] [] A = some (some (zi (nI (oBst o O s a (Nat.beq (q 2) 1)))), A) := fun d => S64J d s a true hs zu zu zu hR hh
  have w := fun d p (hp : p ≤ 2) => S63J d s p a hs hp zu hh
  have mx : ∀ x y, x ≤ 2 → y ≤ 2 → (if yI (oW o O s a x) < yI (oW o O s a y) then yI (oW o O s a y) else yI (oW o O s a x)) = yI (oMx (oW o O s a x) (oW o O s a y)) := by
    intro x y _ _
    have bx := oW_b hN hO hQ s a x
    have bb := oW_b hN hO hQ s a y
    have l : yI (oW o O s a x) < yI (oW o O s a y) ↔ oW o O s a x < oW o O s a y := yI_lt ⟨by omega, by omega⟩ ⟨by omega, by omega⟩
    unfold oMx
    by_cases z : oW o O s a x < oW o O s a y
    · rw [if_pos z, if_pos (l.mpr z)]
    · rw [if_neg z, if_neg (mt l.mp z)]
  rw [B65_0, e64, zbsome, zpu1]
  generalize hB : oBst o O s a (Nat.beq (q 2) 1) = B at bl ⊢
  have fin : ∀ x, zgo false (d + 2) 65 64 [zr 7 1, zi (nI (oHd s a)), zi (nI B), zi (yI x)] [] A = some (some (zi (yI (oW o O s a B - x))), A) := fun x => by
    rw [B65_64, w _ B bl, zbsome, zpu1, B65_70, yI_sub]
  have l0 : nI B = 0 ↔ B = 0 := nI_eq (b := 0) (by omega) (by omega)
  have l2 : nI B = 2 ↔ B = 2 := nI_eq (b := 2) (by omega) (by omega)
  have k : zgo false (d + 2) 65 6 [zr 7 1, zi (nI (oHd s a)), u2, u3] [zi (nI B)] A = zgo false (d + 2) 65 21 [zr 7 1, zi (nI (oHd s a)), zi (nI B), u3] [zi (yI (oW o O s a (if B = 0 then 1 else 0)))] A := by
    rw [B65_6]
    by_cases z : B = 0
    · rw [if_pos (l0.mpr z), if_pos z, B65_18]
      have e := w (d) 1 (by omega)
      have e : zgo false (d + 1) 63 0 [zr 7 1, zi (nI (oHd s a)), zi 1, zu] [] A = some (some (zi (yI (oW o O s a 1))), A) := e
      rw [e, zbsome, zpu1]
    · rw [if_neg (mt l0.mp z), if_neg z, B65_18]
      have e := w (d) 0 (by omega)
      have e : zgo false (d + 1) 63 0 [zr 7 1, zi (nI (oHd s a)), zi 0, zu] [] A = some (some (zi (yI (oW o O s a 0))), A) := e
      rw [e, zbsome, zpu1]
  unfold oLn
  rw [hB, k, B65_21]
  by_cases z : B = 2
  · have e := w (d) 1 (by omega)
    have e : zgo false (d + 1) 63 0 [zr 7 1, zi (nI (oHd s a)), zi 1, zu] [] A = some (some (zi (yI (oW o O s a 1))), A) := e
    rw [if_pos (l2.mpr z), if_pos z, if_neg (show ¬ B = 0 by omega), e, zbsome]
    show zgo false (d + 2) 65 34 [zr 7 1, zi (nI (oHd s a)), zi (nI B), zi (yI (oW o O s a 0))] [zi (yI (oW o O s a 1)), zi (yI (oW o O s a 0))] A = _
    rw [B65_34, mx 0 1 (by omega) (by omega), fin]
  · rw [if_neg (mt l2.mp z), if_neg z, r2, zbsome, zpu1, B65_49]
    by_cases z2 : q 2 = 1
    · have e : Nat.beq (q 2) 1 = true := by rw [z2]; rfl
      have l3 : nI (q 2) = 1 := by rw [z2]; rfl
      have e2 := w (d) 2 (by omega)
      have e2 : zgo false (d + 1) 63 0 [zr 7 1, zi (nI (oHd s a)), zi 2, zu] [] A = some (some (zi (yI (oW o O s a 2))), A) := e2
      rw [if_pos l3, if_pos e, e2, zbsome]
      show zgo false (d + 2) 65 60 [zr 7 1, zi (nI (oHd s a)), zi (nI B), zi _] [zi (yI (oW o O s a 2)), zi _] A = _
      rw [B65_60]
      by_cases z3 : B = 0
      · rw [if_pos z3, mx 1 2 (by omega) (by omega), fin]
      · rw [if_neg z3, mx 0 2 (by omega) (by omega), fin]
    · have e : ¬ Nat.beq (q 2) 1 = true := fun y => z2 (Nat.eq_of_beq_eq_true y)
      have l3 : ¬ nI (q 2) = 1 := by
        rw [show (1 : Int32) = nI 1 from rfl, nI_eq (by have := hR.2; omega) (by omega)]
        exact z2
      rw [if_neg l3, if_neg e, fin]
def oFgJ (a b _c : Nat) : Prop := b = 1 ∧ 37 ≤ a ∧ a ≤ 42
def oBtJ (A : zM) (o q : Nat → Nat) (dv : Nat) : Prop := (∀ s, 4 ≤ s → s ≤ 20 → zgI A 41 1 (64 * dv + s) = yI (oBw o q dv s false)) ∧ (∀ s, 2 ≤ s → s ≤ 10 → zgI A 41 1 (64 * dv + (42 + s)) = yI (oBw o q dv s true)) ∧ zgI A 42 1 dv = yI (oO o q dv 8)
theorem S71J (d dv s : Nat) (a : Bool) (hd : dv ≤ 10) (hs : 1 ≤ s ∧ s ≤ 21) {A : zM} {o q : Nat → Nat} (hR : oRJ A q) (h : oFcJ A o (oO o q dv)) : zgo false (d + 2) 71 0 [zr 7 1, zi (nI dv), zi (nI (oHd s a))] [] A = some (none, zsI A 41 1 (64 * dv + oPl s a) (yI (oBw o q dv s a))) := by
  have hl : oPl s a ≤ 53 := oPl_lt
  have e1 : nI dv * 64 = nI (64 * dv) := by rw [show (64 : Int32) = nI 64 from rfl, pk_mul, Nat.mul_comm]
  have e64 : zgo false (d + 1) 64 0 [zr 7 1, zi (nI (oHd s a)), zi 1, zu, zu, zu] [] A = some (some (zi (nI (oBst o (oO o q dv) s a (Nat.beq (q 2) 1)))), A) := S64J d s a true hs zu zu zu hR h
  rw [B71_0, S74y _ _ _ _ _ (by omega), zbsome, e1]
  show zgo false (d + 2) 71 12 [zr 7 1, zi (nI dv), zi (nI (oHd s a))] [zi (nI (oPl s a)), zi (nI (64 * dv)), zr 41 1] A = _
  rw [B71_12, e64, zbsome, nI_add]
  show zgo false (d + 2) 71 21 [zr 7 1, zi (nI dv), zi (nI (oHd s a))] [zi (nI (oBst o (oO o q dv) s a (Nat.beq (q 2) 1))), zi (nI (oHd s a)), zr 7 1, zi (nI (64 * dv + oPl s a)), zr 41 1] A = _
  rw [B71_21, S63J d s _ a hs (oBst_le _ _ _ _ _) zu h, zbsome]
  show zgo false (d + 2) 71 24 [zr 7 1, zi (nI dv), zi (nI (oHd s a))] [zi (yI (oBw o q dv s a)), zi (nI (64 * dv + oPl s a)), zr 41 1] A = _
  rw [B71_24, se41n _ _ _ _ _ _ (by omega), zbsome, zpu0, B71_27]
theorem oFc_frJ {A A' : zM} {o : Nat → Nat} {O : Nat → Int} {P : Nat → Nat → Nat → Prop} (h : oFcJ A o O) (f : zFo P A A') (hp : ∀ k v, 37 ≤ k → k ≤ 40 → ¬ P k 1 v) : oFcJ A' o O := by
  obtain ⟨h1, h2, h3, h4⟩ := h
  refine ⟨fun k hk => ((f 37 1 k (hp _ _ (by omega) (by omega))).1).trans (h1 k hk), oSd_frJ h2 f (fun v => hp _ _ (by omega) (by omega)), ⟨fun s s1 s2 => ?_, fun s s1 s2 => ?_⟩, h4⟩
  · rw [(f 39 1 s (hp _ _ (by omega) (by omega))).1, (f 40 1 s (hp _ _ (by omega) (by omega))).1]
    exact h3.1 s s1 s2
  · rw [(f 39 1 _ (hp _ _ (by omega) (by omega))).1, (f 40 1 _ (hp _ _ (by omega) (by omega))).1]
    exact h3.2 s s1 s2
theorem L70J (d dv : Nat) (hd : dv ≤ 10) {o q : Nat → Nat} : ∀ (j t : Nat) (A : zM), t + j = 21 → 4 ≤ t → oRJ A q → oFcJ A o (oO o q dv) → (∀ s, 4 ≤ s → s < t → zgI A 41 1 (64 * dv + s) = yI (oBw o q dv s false)) → (∀ s, 2 ≤ s → s + 10 < t → zgI A 41 1 (64 * dv + (42 + s)) = yI (oBw o q dv s true)) → ∃ A', zgo false (d + 3) 70 21 [zr 7 1, zi (nI dv), zi (nI t)] [] A = some (none, A') ∧ zFo (fun a b c => a = 41 ∧ b = 1 ∧ 64 * dv ≤ c ∧ c < 64 * dv + 64) A A' ∧ (∀ s, 4 ≤ s → s ≤ 20 → zgI A' 41 1 (64 * dv + s) = yI (oBw o q dv s false)) ∧ ∀ s, 2 ≤ s → s ≤ 10 → zgI A' 41 1 (64 * dv + (42 + s)) = yI (oBw o q dv s true)
  | 0, t, A, ht, h4, hR, hF, h1, h2 => by
    have ht : t = 21 := ht
    subst ht
    refine ⟨A, ?_, zFo_refl _ A, fun s s1 s2 => h1 s s1 (by omega), fun s s1 s2 => h2 s s1 (by omega)⟩
    rw [B70_21, if_pos (by decide)]
  | j + 1, t, A, ht, h4, hR, hF, h1, h2 => by
    have c20 : ¬ (20 : Int32) < nI t := nI_nlt (a := 20) (by omega) (by omega)
    have hh : oHd t false = t := if_neg (fun z => by cases z.1)
    have hp : oPl t false = t := by
      unfold oPl
      rw [if_neg (fun z => by cases z.1), if_pos (by omega)]
    have e1 := S71J d dv t false hd ⟨by omega, by omega⟩ hR hF
    rw [hh, hp] at e1
    have f1 : zFo (fun a b c => a = 41 ∧ b = 1 ∧ 64 * dv ≤ c ∧ c < 64 * dv + 64) A (zsI A 41 1 (64 * dv + t) (yI (oBw o q dv t false))) := zFo_sI (zFo_refl _ A) ⟨rfl, rfl, by omega, by omega⟩
    have g1 : ∀ s, 4 ≤ s → s < t + 1 → zgI (zsI A 41 1 (64 * dv + t) (yI (oBw o q dv t false))) 41 1 (64 * dv + s) = yI (oBw o q dv s false) := fun s s1 s2 => by
      rw [zgI_sI]
      by_cases z : s = t
      · rw [if_pos ⟨rfl, rfl, by omega⟩, z]
      · rw [if_neg (by omega)]
        exact h1 s s1 (by omega)
    have g2 : ∀ s, 2 ≤ s → s + 10 < t → zgI (zsI A 41 1 (64 * dv + t) (yI (oBw o q dv t false))) 41 1 (64 * dv + (42 + s)) = yI (oBw o q dv s true) := fun s s1 s2 => by
      rw [zgI_sI, if_neg (by omega)]
      exact h2 s s1 s2
    have hR1 := oR_frJ hR f1 (fun v z => by cases z.1)
    have hF1 := oFc_frJ hF f1 (fun k v k1 k2 z => by have := z.1; omega)
    have l12 : nI t < 12 ↔ t < 12 := nI_ltI (b := 12) (by omega) (by omega)
    rw [B70_21, if_neg c20, e1, zbsome, zpu0, B70_33]
    by_cases c : t < 12
    · obtain ⟨A', e, f, w1, w2⟩ := L70J d dv hd j (t + 1) _ (by omega) (by omega) hR1 hF1 g1 (fun s s1 s2 => by omega)
      refine ⟨A', ?_, zFo_trans f1 f, w1, w2⟩
      rw [if_pos (l12.mpr c), B70_49, nI_1]
      exact e
    · have hh2 : oHd (t - 10) true = 1000 + t := by
        unfold oHd
        rw [if_pos ⟨rfl, by omega⟩]
        omega
      have hp2 : oPl (t - 10) true = 42 + (t - 10) := by
        unfold oPl
        rw [if_pos ⟨rfl, by omega⟩]
      have e2 := S71J d dv (t - 10) true hd ⟨by omega, by omega⟩ hR1 hF1
      rw [hh2, hp2] at e2
      have ek : (1000 : Int32) + nI t = nI (1000 + t) := by rw [show (1000 : Int32) = nI 1000 from rfl, nI_add]
      generalize hA1 : zsI A 41 1 (64 * dv + t) (yI (oBw o q dv t false)) = A1 at *
      have f2 : zFo (fun a b c => a = 41 ∧ b = 1 ∧ 64 * dv ≤ c ∧ c < 64 * dv + 64) A1 (zsI A1 41 1 (64 * dv + (42 + (t - 10))) (yI (oBw o q dv (t - 10) true))) := zFo_sI (zFo_refl _ A1) ⟨rfl, rfl, by omega, by omega⟩
      obtain ⟨A', e, f, w1, w2⟩ := L70J d dv hd j (t + 1) _ (by omega) (by omega) (oR_frJ hR1 f2 (fun v z => by cases z.1)) (oFc_frJ hF1 f2 (fun k v k1 k2 z => by have := z.1; omega)) (fun s s1 s2 => by
        rw [zgI_sI, if_neg (by omega)]
        exact g1 s s1 s2) (fun s s1 s2 => by
        rw [zgI_sI]
        by_cases z : s = t - 10
        · rw [if_pos ⟨rfl, rfl, by omega⟩, z]
        · rw [if_neg (by omega)]
          exact g2 s s1 (by omega))
      refine ⟨A', ?_, zFo_trans f1 (zFo_trans f2 f), w1, w2⟩
      rw [if_neg (mt l12.mp c), ek, e2, zbsome, zpu0, B70_49, nI_1]
      exact e
theorem S70J (d dv : Nat) (hd : 1 ≤ dv ∧ dv ≤ 10) (u2 : zV) {A : zM} {o q : Nat → Nat} (hA : RafJ A) (hH : oHJ A o) (hR : oRJ A q) (hE : oEnJ A o q 1 1) : ∃ A', zgo false (d + 4) 70 0 [zr 7 1, zi (nI dv), u2] [] A = some (none, A') ∧ zFo oFgJ A A' ∧ zFo (fun a b c => (b = 1 ∧ 37 ≤ a ∧ a ≤ 40) ∨ (a = 41 ∧ b = 1 ∧ 64 * dv ≤ c ∧ c < 64 * dv + 64) ∨ (a = 42 ∧ b = 1 ∧ c = dv)) A A' ∧ oBtJ A' o q dv := by
  obtain ⟨A1, e1, f1, o1, o2, o3⟩ := S61J d dv hd zu zu hA hH hR hE
  let A2 := zsI A1 42 1 dv (yI (oO o q dv 8))
  have f2 : zFo (fun a b c => a = 42 ∧ b = 1 ∧ c = dv) A1 A2 := zFo_sI (zFo_refl _ A1) ⟨rfl, rfl, rfl⟩
  have hF1 : oFcJ A1 o (oO o q dv) := ⟨o1, o2, o3, fun k => oO_nn dv k, oO_q hH.2.2.1 dv, hH.2.2.1⟩
  have hF2 : oFcJ A2 o (oO o q dv) := oFc_frJ hF1 f2 (fun k v k1 k2 z => by have := z.1; omega)
  have hR2 : oRJ A2 q := oR_frJ (oR_frJ hR f1 (fun v z => by have := z.2; omega)) f2 (fun v z => by cases z.1)
  obtain ⟨A3, e3, f3, w1, w2⟩ := L70J (d + 1) dv hd.2 17 4 A2 rfl (by omega) hR2 hF2 (fun s s1 s2 => by omega) (fun s s1 s2 => by omega)
  have ff : zFo (fun a b c => (b = 1 ∧ 37 ≤ a ∧ a ≤ 40) ∨ (a = 41 ∧ b = 1 ∧ 64 * dv ≤ c ∧ c < 64 * dv + 64) ∨ (a = 42 ∧ b = 1 ∧ c = dv)) A A3 := zFo_trans (zFo_mono f1 (fun a b c z => Or.inl z)) (zFo_trans (zFo_mono f2 (fun a b c z => Or.inr (Or.inr z))) (zFo_mono f3 (fun a b c z => Or.inr (Or.inl z))))
  refine ⟨A3, ?_, zFo_mono ff (fun a b c z => by unfold oFgJ; omega), ff, w1, w2, ?_⟩
  · have e62 : zgo false (d + 3) 62 0 [zr 7 1, zi 23] [] A1 = some (some (zi (yI (oO o q dv 8))), A1) := by
      have a8 : zgo false (d + 2) 169 0 [zr 37 1, zi 8] [] A1 = some (some (zi (zgI A1 37 1 8)), A1) := at37n false _ 1 8 A1 (by omega)
      rw [B62_0]
      show ((zgo false (d + 2) 169 0 [zr 37 1, zi 8] [] A1).bind fun q => zgo false (d + 3) 62 11 [zr 7 1, zi 23] (zpush q.1 []) q.2) = _
      rw [a8, o1 8 (by omega), zbsome, zpu1, B62_11]
    have k1 : zgo false (d + 4) 70 0 [zr 7 1, zi (nI dv), u2] [] A = zgo false (d + 4) 70 5 [zr 7 1, zi (nI dv), u2] [] A1 := by
      rw [B70_0, e1]
      rfl
    rw [k1, B70_5, e62, zbsome]
    show zgo false (d + 4) 70 16 [zr 7 1, zi (nI dv), u2] [zi (yI (oO o q dv 8)), zi (nI dv), zr 42 1] A1 = _
    rw [B70_16, se42n _ _ _ _ _ _ (by omega), zbsome, zpu0, B70_19]
    exact e3
  · rw [(f3 42 1 dv (fun z => by cases z.1)).1]
    show zgI (zsI A1 42 1 dv (yI (oO o q dv 8))) 42 1 dv = _
    rw [zgI_sI, if_pos ⟨rfl, rfl, rfl⟩]
theorem oBt_frJ {A A' : zM} {o q : Nat → Nat} {dv dv' : Nat} (h : oBtJ A o q dv) (f : zFo (fun a b c => (b = 1 ∧ 37 ≤ a ∧ a ≤ 40) ∨ (a = 41 ∧ b = 1 ∧ 64 * dv' ≤ c ∧ c < 64 * dv' + 64) ∨ (a = 42 ∧ b = 1 ∧ c = dv')) A A') (hne : ¬ dv = dv') : oBtJ A' o q dv := by
  refine ⟨fun s s1 s2 => ?_, fun s s1 s2 => ?_, ?_⟩
  · rw [(f 41 1 _ (by omega)).1]
    exact h.1 s s1 s2
  · rw [(f 41 1 _ (by omega)).1]
    exact h.2.1 s s1 s2
  · rw [(f 42 1 _ (by omega)).1]
    exact h.2.2
theorem L66J (d : Nat) (u2 u3 : zV) {o q : Nat → Nat} : ∀ (j n : Nat) (A : zM), n + j = 10 → RafJ A → oHJ A o → oRJ A q → oEnJ A o q 1 1 → (∀ dv, 1 ≤ dv → dv ≤ n → oBtJ A o q dv) → ∃ A', zgo false (d + 5) 66 2 [zr 7 1, zi (nI (n + 1)), u2, u3] [] A = zgo false (d + 5) 66 23 [zr 7 1, zl 0, zu, zi 1] [] A' ∧ zFo oFgJ A A' ∧ RafJ A' ∧ oHJ A' o ∧ oRJ A' q ∧ ∀ dv, 1 ≤ dv → dv ≤ 10 → oBtJ A' o q dv
  | 0, n, A, hn, hA, hH, hR, hE, hB => by
    have hn : n = 10 := hn
    subst hn
    refine ⟨A, ?_, zFo_refl _ A, hA, hH, hR, hB⟩
    rw [B66_2, if_pos (by decide)]
  | j + 1, n, A, hn, hA, hH, hR, hE, hB => by
    obtain ⟨A1, e1, f1, f1', w⟩ := S70J d (n + 1) ⟨by omega, by omega⟩ zu hA hH hR hE
    have p33 : ∀ k v, k ≤ 36 → ¬ oFgJ k 1 v := fun k v hk z => by have := z.2.1; omega
    obtain ⟨A', e, f, r⟩ := L66J d u2 u3 j (n + 1) A1 (by omega) (Raf_frJ hA f1 (fun v => p33 _ _ (by omega))) (oH_frJ hH f1 (fun v => p33 _ _ (by omega)) (p33 _ _ (by omega))) (oR_frJ hR f1 (fun v => p33 _ _ (by omega))) (oEn_frJ hE f1 (fun v => p33 _ _ (by omega))) (fun dv d1 d2 => by
      by_cases z : dv = n + 1
      · rw [z]
        exact w
      · exact oBt_frJ (hB dv d1 (by omega)) f1' z)
    refine ⟨A', ?_, zFo_trans f1 f, r⟩
    have c : ¬ (10 : Int32) < nI (n + 1) := nI_nlt (a := 10) (by omega) (by omega)
    rw [B66_2, if_neg c, e1, zbsome, zpu0, B66_13, nI_1]
    exact e
theorem S73J (d : Nat) (x : Int) (u2 : zV) {A : zM} {o : Nat → Nat} (h : oHJ A o) (hx : yW x) : zgo false d 73 0 [zr 7 1, zl (yJ x), u2] [] A = some (some (zl (yJ (x.tdiv (ysm o)))), A) := by
  obtain ⟨-, h1, h2, h3⟩ := h
  have b : yB (ysm o : Nat) := ⟨by omega, by omega⟩
  have n := yI_ne0 b (by omega)
  have w : yW (ysm o : Nat) := ⟨by omega, by omega⟩
  rw [B73_0, h1, yI_nat, if_neg n.1, yIJ b, if_neg (yJ_ne0 w (by omega)), B73_18, yJ_div hx w (by omega)]
theorem S69J (d x y dv : Nat) (hx : 1 ≤ x ∧ x ≤ 10) (hy : 1 ≤ y ∧ y ≤ 10) (hd : 1 ≤ dv ∧ dv ≤ 10) (u3 : zV) {A : zM} {o q : Nat → Nat} (hH : oHJ A o) (hR : oRJ A q) (hB : oBtJ A o q dv) : zgo false (d + 1) 69 0 [zr 7 1, zi (nI (oHd (x + y) (oA (Nat.beq x 1) y))), zi (nI dv), u3] [] A = some (some (zl (yJ (oPw o q x y dv))), A) := by
  have hN := hH.2.2.1
  have b0 := oO_nn (o := o) (q := q) dv 8
  have b1 := oO_8 (q := q) hN dv
  have a42 : ∀ d, zgo false d 169 0 [zr 42 1, zi (nI dv)] [] A = some (some (zi (yI (oO o q dv 8))), A) := fun d => (at42n false d 1 dv A (by omega)).trans (by rw [hB.2.2])
  have t : (oTt (x + y) (oA (Nat.beq x 1) y) = 21) ↔ oNat x y := by
    unfold oTt oNat oA
    rcases (by omega : x = 1 ∨ x = 2 ∨ x = 3 ∨ x = 4 ∨ x = 5 ∨ x = 6 ∨ x = 7 ∨ x = 8 ∨ x = 9 ∨ x = 10) with rfl | rfl | rfl | rfl | rfl | rfl | rfl | rfl | rfl | rfl <;> rcases (by omega : y = 1 ∨ y = 2 ∨ y = 3 ∨ y = 4 ∨ y = 5 ∨ y = 6 ∨ y = 7 ∨ y = 8 ∨ y = 9 ∨ y = 10) with rfl | rfl | rfl | rfl | rfl | rfl | rfl | rfl | rfl | rfl <;> decide
  have tt : oTt (x + y) (oA (Nat.beq x 1) y) ≤ 31 := by
    unfold oTt
    by_cases z : oA (Nat.beq x 1) y = true ∧ x + y ≤ 11
    · rw [if_pos z]; omega
    · rw [if_neg z]; omega
  have e21 : nI (oTt (x + y) (oA (Nat.beq x 1) y)) = 21 ↔ oNat x y := by
    rw [show (21 : Int32) = nI 21 from rfl, nI_eq (by omega) (by omega)]
    exact t
  rw [B69_0, a42, zbsome, zpu1, B69_8, S173y _ _ _ _ _ (by omega), zbsome, zpu1, B69_13]
  unfold oPw
  by_cases c : oNat x y
  · have r1 : ∀ d, zgo false d 169 0 [zr 34 1, zi 1] [] A = some (some (zi (nI (q 1))), A) := fun d => (at34n false d 1 1 A (by omega)).trans (by rw [hR.1 1 (by omega)])
    have hq := hR.2.2.2.1
    have w1 : 0 ≤ (q 1 : Int) * (1000000 - oO o q dv 8) := Int.mul_nonneg (by omega) (by omega)
    have w2 : (q 1 : Int) * (1000000 - oO o q dv 8) ≤ 200 * 1000000 := Int.mul_le_mul (by omega) (by omega) (by omega) (by omega)
    rw [if_pos (e21.mpr c), if_pos c, r1, zbsome, zpu1, B69_26, if_neg (by decide), yI_nat, show (1000000 : Int32) = yI 1000000 from rfl, yI_sub, yIJ ⟨by omega, by omega⟩, yIJ ⟨by omega, by omega⟩, yJ_mul, show (100 : Int64) = yJ 100 from rfl, yJ_div ⟨by omega, by omega⟩ ⟨by decide, by decide⟩ (by decide)]
  · have nt := mt t.mp c
    have hl : oPl (x + y) (oA (Nat.beq x 1) y) ≤ 53 := oPl_lt
    have e1 : nI dv * 64 = nI (64 * dv) := by rw [show (64 : Int32) = nI 64 from rfl, pk_mul, Nat.mul_comm]
    have row : zgI A 41 1 (64 * dv + oPl (x + y) (oA (Nat.beq x 1) y)) = yI (oBw o q dv (x + y) (oA (Nat.beq x 1) y)) := by
      unfold oPl
      by_cases z : oA (Nat.beq x 1) y = true ∧ x + y ≤ 11
      · have : ¬ x + y = 11 := fun z2 => nt (by unfold oTt; rw [if_pos z, z2])
        rw [if_pos z, hB.2.1 _ (by omega) (by omega), z.1]
      · have ha : oA (Nat.beq x 1) y = false := by
          cases hb : oA (Nat.beq x 1) y with
          | false => rfl
          | true =>
            exfalso
            apply z
            refine ⟨hb, ?_⟩
            unfold oA at hb
            rcases Bool.or_eq_true_iff.mp hb with h1 | h1
            · have := Nat.eq_of_beq_eq_true h1
              omega
            · have := Nat.eq_of_beq_eq_true h1
              omega
        have hs : 4 ≤ x + y := by
          have h1 : ¬ x = 1 := by
            rintro rfl
            cases ha
          have h2 : ¬ y = 1 := by
            rintro rfl
            unfold oA at ha
            rcases Bool.or_eq_false_iff.mp ha with ⟨-, h⟩
            cases h
          omega
        rw [if_neg z, if_pos (by omega), hB.1 _ hs (by omega), ha]
    have a41 : ∀ d, zgo false d 169 0 [zr 41 1, zi (nI (64 * dv + oPl (x + y) (oA (Nat.beq x 1) y)))] [] A = some (some (zi (yI (oBw o q dv (x + y) (oA (Nat.beq x 1) y)))), A) := fun d => (at41n false d 1 _ A (by omega)).trans (by rw [row])
    have bw := oW_b (O := oO o q dv) hN (fun k => oO_nn dv k) (oO_q (q := q) hN dv) (x + y) (oA (Nat.beq x 1) y) (oBst o (oO o q dv) (x + y) (oA (Nat.beq x 1) y) (Nat.beq (q 2) 1))
    rw [if_neg (mt e21.mp c), if_neg c, S74y _ _ _ _ _ (by omega), zbsome, e1]
    show zgo false (d + 1) 69 50 [zr 7 1, _, zi (nI dv), zi (yI (oO o q dv 8))] [zi (nI (oPl (x + y) (oA (Nat.beq x 1) y))), zi (nI (64 * dv)), zr 41 1] A = _
    have bw : -2000000 ≤ oBw o q dv (x + y) (oA (Nat.beq x 1) y) ∧ oBw o q dv (x + y) (oA (Nat.beq x 1) y) ≤ 2000000 := bw
    rw [B69_50, nI_add, a41, zbsome, zpu1, B69_54, yI_sub, yIJ ⟨by omega, by omega⟩]
theorem L68J (d x y : Nat) (hx : 1 ≤ x ∧ x ≤ 10) (hy : 1 ≤ y ∧ y ≤ 10) {A : zM} {o q : Nat → Nat} (hH : oHJ A o) (hR : oRJ A q) (hB : ∀ dv, 1 ≤ dv → dv ≤ 10 → oBtJ A o q dv) : ∀ (j n : Nat) (u3 : zV), n + j = 10 → zgo false (d + 2) 68 5 [zr 7 1, zi (nI (oHd (x + y) (oA (Nat.beq x 1) y))), zl (yJ (oSm o (fun dv => oPw o q x y dv) n)), u3, zi (nI (n + 1))] [] A = some (some (zl (yJ (oAv o (fun dv => oPw o q x y dv)))), A)
  | 0, n, u3, hn => by
    have hn : n = 10 := hn
    subst hn
    have b := oSm_b (o := o) (n := 10) (m := 3000000) (f := fun dv => oPw o q x y dv) (by decide) hH.2.2.2 (Nat.le_refl _) (fun v _ _ => oPw_b hH.2.2.1 hR.2.2.2.1 x y v)
    rw [B68_5, if_pos (by decide), S73J _ _ _ hH ⟨by omega, by omega⟩, zbsome]
    show zgo false (d + 2) 68 44 _ [zl _] A = _
    rw [B68_44]
    rfl
  | j + 1, n, u3, hn => by
    have ih := L68J d x y hx hy hH hR hB j (n + 1) zu (by omega)
    have c : ¬ (10 : Int32) < nI (n + 1) := nI_nlt (a := 10) (by omega) (by omega)
    have a1 : ∀ d, zgo false d 169 0 [zr 33 1, zi (nI (n + 1))] [] A = some (some (zi (nI (o (n + 1)))), A) := fun d => (at33n false d 1 (n + 1) A (by omega)).trans (by rw [hH.1 (n + 1) (by omega) (by omega)])
    have ob : o (n + 1) ≤ 416 := by
      have := hH.2.2.2
      unfold ysm at this
      rcases (by omega : n = 0 ∨ n = 1 ∨ n = 2 ∨ n = 3 ∨ n = 4 ∨ n = 5 ∨ n = 6 ∨ n = 7 ∨ n = 8 ∨ n = 9) with rfl | rfl | rfl | rfl | rfl | rfl | rfl | rfl | rfl | rfl <;> (simp only [Nat.zero_add, Nat.reduceAdd]; omega)
    rw [B68_5, if_neg c, a1, zbsome]
    show zgo false (d + 2) 68 22 [zr 7 1, _, zl _, u3, zi (nI (n + 1))] [zi (nI (o (n + 1))), zl _] A = _
    rw [B68_22, S69J d x y (n + 1) hx hy ⟨by omega, by omega⟩ zu hH hR (hB _ (by omega) (by omega)), zbsome, yI_nat (o (n + 1)), yIJ ⟨by omega, by omega⟩]
    show zgo false (d + 2) 68 30 [zr 7 1, _, zl _, u3, zi (nI (n + 1))] [zl (yJ (oPw o q x y (n + 1))), zl (yJ (o (n + 1))), zl _] A = _
    rw [B68_30, nI_1, yJ_mul, yJ_add]
    exact ih
theorem L67J (d x : Nat) (hx : 1 ≤ x ∧ x ≤ 10) {A : zM} {o q : Nat → Nat} (hH : oHJ A o) (hR : oRJ A q) (hB : ∀ dv, 1 ≤ dv → dv ≤ 10 → oBtJ A o q dv) : ∀ (j n : Nat) (u3 : zV), n + j = 10 → zgo false (d + 3) 67 5 [zr 7 1, zi (nI x), zl (yJ (oSm o (fun y => oAv o (fun dv => oPw o q x y dv)) n)), u3, zi (nI (n + 1))] [] A = some (some (zl (yJ (oAv o (fun y => oAv o (fun dv => oPw o q x y dv))))), A)
  | 0, n, u3, hn => by
    have hn : n = 10 := hn
    subst hn
    have b := oSm_b (o := o) (n := 10) (m := 3000000) (f := fun y => oAv o (fun dv => oPw o q x y dv)) (by decide) hH.2.2.2 (Nat.le_refl _) (fun v _ _ => oW2_b hH.2.2.1 hR.2.2.2.1 x v)
    rw [B67_5, if_pos (by decide), S73J _ _ _ hH ⟨by omega, by omega⟩, zbsome]
    show zgo false (d + 3) 67 51 _ [zl _] A = _
    rw [B67_51]
    rfl
  | j + 1, n, u3, hn => by
    have ih := L67J d x hx hH hR hB j (n + 1) zu (by omega)
    have c : ¬ (10 : Int32) < nI (n + 1) := nI_nlt (a := 10) (by omega) (by omega)
    have a1 : ∀ d, zgo false d 169 0 [zr 33 1, zi (nI (n + 1))] [] A = some (some (zi (nI (o (n + 1)))), A) := fun d => (at33n false d 1 (n + 1) A (by omega)).trans (by rw [hH.1 (n + 1) (by omega) (by omega)])
    have ob := oLe hH.2.2.2 (show n < 10 by omega)
    have c1 : zgo false (d + 2) 172 0 [zi 0, zi (nI x), zu, zu] [] A = some (some (zi (nI (oHd x (Nat.beq x 1)))), A) := by
      have e := S172y false (d + 2) 0 x false zu zu A (by omega) hx
      rw [show oHd x (Nat.beq x 1) = oHd (0 + x) (oA false x) by rw [Nat.zero_add]; rfl]
      exact e
    have c2 := S172y false (d + 2) x (n + 1) (Nat.beq x 1) zu zu A (by omega) ⟨by omega, by omega⟩
    have s68 : zgo false (d + 2) 68 0 [zr 7 1, zi (nI (oHd (x + (n + 1)) (oA (Nat.beq x 1) (n + 1)))), zu, zu, zu] [] A = some (some (zl (yJ (oAv o (fun dv => oPw o q x (n + 1) dv)))), A) := by
      rw [B68_0]
      exact L68J d x (n + 1) hx ⟨by omega, by omega⟩ hH hR hB 10 0 zu rfl
    rw [B67_5, if_neg c, a1, zbsome]
    show zgo false (d + 3) 67 22 [zr 7 1, zi (nI x), zl _, u3, zi (nI (n + 1))] [zi (nI (o (n + 1))), zl _] A = _
    rw [B67_22, c1, zbsome, yI_nat (o (n + 1)), yIJ ⟨by omega, by omega⟩]
    show zgo false (d + 3) 67 29 [zr 7 1, zi (nI x), zl _, u3, zi (nI (n + 1))] [zi (nI (oHd x (Nat.beq x 1))), zr 7 1, zl (yJ (o (n + 1))), zl _] A = _
    rw [B67_29, c2, zbsome]
    show zgo false (d + 3) 67 34 [zr 7 1, zi (nI x), zl _, u3, zi (nI (n + 1))] [zi (nI (oHd (x + (n + 1)) (oA (Nat.beq x 1) (n + 1)))), zr 7 1, zl (yJ (o (n + 1))), zl _] A = _
    rw [B67_34, s68, zbsome]
    show zgo false (d + 3) 67 37 [zr 7 1, zi (nI x), zl _, u3, zi (nI (n + 1))] [zl (yJ (oAv o (fun dv => oPw o q x (n + 1) dv))), zl (yJ (o (n + 1))), zl _] A = _
    rw [B67_37, nI_1, yJ_mul, yJ_add]
    exact ih
theorem L66bJ (d : Nat) {A : zM} {o q : Nat → Nat} (hH : oHJ A o) (hR : oRJ A q) (hB : ∀ dv, 1 ≤ dv → dv ≤ 10 → oBtJ A o q dv) : ∀ (j n : Nat) (u3 : zV), n + j = 10 → zgo false (d + 4) 66 23 [zr 7 1, zl (yJ (oSm o (fun x => oAv o (fun y => oAv o (fun dv => oPw o q x y dv))) n)), u3, zi (nI (n + 1))] [] A = some (some (zi (yI (oWh o q))), A)
  | 0, n, u3, hn => by
    have hn : n = 10 := hn
    subst hn
    have b := oSm_b (o := o) (n := 10) (m := 3000000) (f := fun x => oAv o (fun y => oAv o (fun dv => oPw o q x y dv))) (by decide) hH.2.2.2 (Nat.le_refl _) (fun v _ _ => oW1_b hH.2.2.1 hR.2.2.2.1 v)
    rw [B66_23, if_pos (by decide), S73J _ _ _ hH ⟨by omega, by omega⟩, zbsome]
    show zgo false (d + 4) 66 58 _ [zl _] A = _
    rw [B66_58, yJI]
    rfl
  | j + 1, n, u3, hn => by
    have ih := L66bJ d hH hR hB j (n + 1) zu (by omega)
    have c : ¬ (10 : Int32) < nI (n + 1) := nI_nlt (a := 10) (by omega) (by omega)
    have a1 : ∀ d, zgo false d 169 0 [zr 33 1, zi (nI (n + 1))] [] A = some (some (zi (nI (o (n + 1)))), A) := fun d => (at33n false d 1 (n + 1) A (by omega)).trans (by rw [hH.1 (n + 1) (by omega) (by omega)])
    have ob := oLe hH.2.2.2 (show n < 10 by omega)
    have s67 : zgo false (d + 3) 67 0 [zr 7 1, zi (nI (n + 1)), zu, zu, zu] [] A = some (some (zl (yJ (oAv o (fun y => oAv o (fun dv => oPw o q (n + 1) y dv))))), A) := by
      rw [B67_0]
      exact L67J d (n + 1) ⟨by omega, by omega⟩ hH hR hB 10 0 zu rfl
    rw [B66_23, if_neg c, a1, zbsome]
    show zgo false (d + 4) 66 38 [zr 7 1, zl _, u3, zi (nI (n + 1))] [zi (nI (o (n + 1))), zl _] A = _
    rw [B66_38, s67, zbsome, yI_nat (o (n + 1)), yIJ ⟨by omega, by omega⟩]
    show zgo false (d + 4) 66 44 [zr 7 1, zl _, u3, zi (nI (n + 1))] [zl (yJ (oAv o (fun y => oAv o (fun dv => oPw o q (n + 1) y dv)))), zl (yJ (o (n + 1))), zl _] A = _
    rw [B66_44, nI_1, yJ_mul, yJ_add]
    exact ih
theorem S66J (d : Nat) (u1 u2 u3 : zV) {A : zM} {o q : Nat → Nat} (hA : RafJ A) (hH : oHJ A o) (hR : oRJ A q) (hE : oEnJ A o q 1 1) : ∃ A', zgo false (d + 5) 66 0 [zr 7 1, u1, u2, u3] [] A = some (some (zi (yI (oWh o q))), A') ∧ zFo oFgJ A A' := by
  obtain ⟨A', e, f, r1, r2, r3, r4⟩ := L66J d u2 u3 10 0 A rfl hA hH hR hE (fun dv d1 d2 => by omega)
  refine ⟨A', ?_, f⟩
  rw [B66_0]
  exact e.trans (L66bJ (d + 1) r2 r3 r4 10 0 zu rfl)
