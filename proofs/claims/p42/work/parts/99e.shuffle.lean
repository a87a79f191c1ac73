/-! ===== the packs shuffled by both ===== -/
/-- the numbers of a shoe in play; its seed aside, for the class's spare shoe has one of its own -/
def yNm (i : Nat) (A B : zM) (P C g : Nat) (sn : Nat → Nat) : Prop :=
  ((1 ≤ P ∧ P ≤ 8) ∧ (10 ≤ C ∧ C ≤ 95) ∧ g ≤ 52 * P) ∧ (zgI A 10 i 2 = nI P ∧ zgI B 13 0 1 = nI P) ∧ (zgI A 10 i 3 = nI C ∧ zgI B 13 0 2 = nI C) ∧ zgI A 10 i 5 = zgI B 13 0 4 ∧ (zgI A 10 i 6 = nI g ∧ zgI B 13 0 7 = nI g) ∧ zgI A 10 i 8 = zgI B 13 0 8 ∧ (zgI A 10 i 7 = nI (sn 0) ∧ zgI B 56 0 0 = nI (sn 0)) ∧ (∀ v, 1 ≤ v → v ≤ 10 → zgI A 47 i v = nI (sn v) ∧ zgI B 56 0 v = nI (sn v)) ∧ sn 0 = ysm sn ∧ (∀ v, 1 ≤ v → v ≤ 10 → sn v ≤ ycd P v) ∧ sn 0 < 52 * P
theorem yNm_of {i : Nat} {A B : zM} {P C g : Nat} {sn : Nat → Nat} (h : yNum i A B P C g sn) : yNm i A B P C g sn := ⟨h.1, h.2.1, h.2.2.1, h.2.2.2.2⟩
theorem yNm_num {i : Nat} {A B : zM} {P C g : Nat} {sn : Nat → Nat} (h : yNm i A B P C g sn) (hs : zgI A 10 i 4 = zgI B 13 0 3) : yNum i A B P C g sn := ⟨h.1, h.2.1, h.2.2.1, hs, h.2.2.2⟩
/-- as the class sees it -/
theorem yNm_A {i : Nat} {A B : zM} {P C g : Nat} {sn : Nat → Nat} (h : yNm i A B P C g sn) : yNum i A (zsI B 13 0 3 (zgI A 10 i 4)) P C g sn := yNm_num h rfl
/-- as the model sees it -/
theorem yNm_B {i : Nat} {A B : zM} {P C g : Nat} {sn : Nat → Nat} (h : yNm i A B P C g sn) : yNum i (zsI A 10 i 4 (zgI B 13 0 3)) B P C g sn := by
  have o : ∀ s, s ≠ 4 → zgI (zsI A 10 i 4 (zgI B 13 0 3)) 10 i s = zgI A 10 i s := fun s hs => by rw [zgI_sI, if_neg (fun z => hs z.2.2)]
  obtain ⟨a1, a2, a3, a5, a6, a7, a8, a9⟩ := h
  refine ⟨a1, ⟨(o 2 (by omega)).trans a2.1, a2.2⟩, ⟨(o 3 (by omega)).trans a3.1, a3.2⟩, ?_, (o 5 (by omega)).trans a5, ⟨(o 6 (by omega)).trans a6.1, a6.2⟩, (o 8 (by omega)).trans a7, ⟨(o 7 (by omega)).trans a8.1, a8.2⟩, a9⟩
  rw [zgI_sI, if_pos ⟨rfl, rfl, rfl⟩]
theorem yNm_fr {i : Nat} {A B A' B' : zM} {P C g : Nat} {sn : Nat → Nat} (h : yNm i A B P C g sn) (h1 : ∀ s, 2 ≤ s → s ≤ 8 → zgI A' 10 i s = zgI A 10 i s) (h2 : ∀ s, s ≤ 10 → zgI A' 47 i s = zgI A 47 i s) (h3 : ∀ s, 1 ≤ s → s ≤ 8 → s ≠ 5 → zgI B' 13 0 s = zgI B 13 0 s) (h4 : ∀ s, s ≤ 10 → zgI B' 56 0 s = zgI B 56 0 s) : yNm i A' B' P C g sn := by
  unfold yNm at h ⊢
  rw [h1 2 (by omega) (by omega), h1 3 (by omega) (by omega), h1 5 (by omega) (by omega), h1 6 (by omega) (by omega), h1 7 (by omega) (by omega), h1 8 (by omega) (by omega), h3 1 (by omega) (by omega) (by omega), h3 2 (by omega) (by omega) (by omega), h3 4 (by omega) (by omega) (by omega), h3 7 (by omega) (by omega) (by omega), h3 8 (by omega) (by omega) (by omega), h4 0 (by omega)]
  obtain ⟨a1, a2, a3, a5, a6, a7, a8, a9, a10⟩ := h
  exact ⟨a1, a2, a3, a5, a6, a7, a8, fun v v1 v2 => by rw [h2 v v2, h4 v v2]; exact a9 v v1 v2, a10⟩
theorem nI_pr1 {n : Nat} (h : 0 < n) : nI n - 1 = nI (n - 1) := by
  obtain ⟨m, rfl⟩ : ∃ m, n = m + 1 := ⟨n - 1, by omega⟩
  exact nI_pred m
/-! cards changed -/
def yUp (c : Nat → Nat) (s v : Nat) : Nat → Nat := fun t => if t = s then v else c t
theorem ycn_up_ge (c : Nat → Nat) (s v u : Nat) : ∀ n, n ≤ s → ycn (yUp c s v) u n = ycn c u n
  | 0, _ => rfl
  | n + 1, h => by
    show ycn (yUp c s v) u n + (if yUp c s v n = u then 1 else 0) = ycn c u n + (if c n = u then 1 else 0)
    have e : yUp c s v n = c n := if_neg (by omega)
    rw [ycn_up_ge c s v u n (by omega), e]
theorem ycn_up (c : Nat → Nat) (s v u : Nat) : ∀ n, s < n → ycn (yUp c s v) u n + (if c s = u then 1 else 0) = ycn c u n + (if v = u then 1 else 0)
  | 0, h => absurd h (by omega)
  | n + 1, h => by
    show ycn (yUp c s v) u n + (if yUp c s v n = u then 1 else 0) + (if c s = u then 1 else 0) = ycn c u n + (if c n = u then 1 else 0) + (if v = u then 1 else 0)
    by_cases e : n = s
    · have e2 : yUp c s v n = v := if_pos e
      rw [e2, ycn_up_ge c s v u n (by omega), e]
      omega
    · have e2 : yUp c s v n = c n := if_neg e
      have := ycn_up c s v u n (by omega)
      rw [e2]
      omega
theorem ycn_swap (c : Nat → Nat) (i j u n : Nat) (hi : i < n) (hj : j < n) : ycn (yUp (yUp c i (c j)) j (c i)) u n = ycn c u n := by
  have h1 := ycn_up (yUp c i (c j)) j (c i) u n hj
  have h2 := ycn_up c i (c j) u n hi
  have e : yUp c i (c j) j = c j := by
    unfold yUp
    by_cases z : j = i
    · rw [if_pos z]
    · rw [if_neg z]
  rw [e] at h1
  omega
theorem ycn_seg {f c : Nat → Nat} {p v : Nat} (u : Nat) (h1 : ∀ s, s < p → f s = c s) : ∀ m, (∀ s, p ≤ s → s < p + m → f s = v) → ycn f u (p + m) = ycn c u p + if v = u then m else 0
  | 0, _ => by
    have e : ∀ n, n ≤ p → ycn f u n = ycn c u n := by
      intro n
      induction n with
      | zero => intro _; rfl
      | succ n ih =>
        intro hn
        show ycn f u n + (if f n = u then 1 else 0) = ycn c u n + (if c n = u then 1 else 0)
        rw [ih (by omega), h1 n (by omega)]
    rw [Nat.add_zero, e p (by omega)]
    by_cases z : v = u
    · rw [if_pos z]
      rfl
    · rw [if_neg z]
      rfl
  | m + 1, h2 => by
    show ycn f u (p + m) + (if f (p + m) = u then 1 else 0) = _
    rw [ycn_seg u h1 m (fun s s1 s2 => h2 s s1 (by omega)), h2 (p + m) (by omega) (by omega)]
    by_cases z : v = u
    · rw [if_pos z, if_pos z, if_pos z]
      omega
    · rw [if_neg z, if_neg z, if_neg z]
/-! the packs in their order -/
def yPl (P : Nat) : Nat → Nat
  | 0 => 0
  | n + 1 => yPl P n + ycd P (n + 1)
theorem yPl_10 (P : Nat) : yPl P 10 = 52 * P := by
  show 0 + P * 4 + P * 4 + P * 4 + P * 4 + P * 4 + P * 4 + P * 4 + P * 4 + P * 4 + P * 16 = 52 * P
  omega
theorem yPl_le (P : Nat) {n : Nat} (h : n ≤ 10) : yPl P n ≤ 52 * P := by
  rw [← yPl_10]
  have e : ∀ j, n + j = 10 → yPl P n ≤ yPl P 10 := by
    intro j
    induction j generalizing n with
    | zero => intro z; rw [show n = 10 from z]; exact Nat.le_refl _
    | succ j ih =>
      intro z
      have h2 := ih (n := n + 1) (by omega) (by omega)
      have h3 : yPl P (n + 1) = yPl P n + ycd P (n + 1) := rfl
      omega
  exact e (10 - n) (by omega)
def yFi (P : Nat) : Nat → Nat → Nat
  | 0 => fun _ => 0
  | n + 1 => fun t => if yPl P n ≤ t ∧ t < yPl P n + ycd P (n + 1) then n + 1 else yFi P n t
theorem yFi_lo (P n t : Nat) (h : t < yPl P n) : yFi P (n + 1) t = yFi P n t := if_neg (by omega)
theorem yFi_v (P : Nat) : ∀ n t, t < yPl P n → 1 ≤ yFi P n t ∧ yFi P n t ≤ n
  | 0, t, h => absurd h (by show ¬ t < 0; omega)
  | n + 1, t, h => by
    by_cases c : yPl P n ≤ t ∧ t < yPl P n + ycd P (n + 1)
    · have e : yFi P (n + 1) t = n + 1 := if_pos c
      omega
    · have h2 : t < yPl P n := by
        have e : yPl P (n + 1) = yPl P n + ycd P (n + 1) := rfl
        omega
      have := yFi_v P n t h2
      have e : yFi P (n + 1) t = yFi P n t := if_neg c
      omega
theorem yFi_n (P u : Nat) : ∀ n, ycn (yFi P n) u (yPl P n) = if 1 ≤ u ∧ u ≤ n then ycd P u else 0
  | 0 => by
    rw [if_neg (by omega)]
    rfl
  | n + 1 => by
    show ycn (yFi P (n + 1)) u (yPl P n + ycd P (n + 1)) = _
    rw [ycn_seg (f := yFi P (n + 1)) (c := yFi P n) (p := yPl P n) (v := n + 1) u (fun s hs => yFi_lo P n s hs) (ycd P (n + 1)) (fun s s1 s2 => if_pos ⟨s1, s2⟩), yFi_n P u n]
    by_cases z : n + 1 = u
    · rw [if_pos z, if_neg (by omega), if_pos (by omega), z]
      omega
    · rw [if_neg z]
      by_cases y : 1 ≤ u ∧ u ≤ n
      · rw [if_pos y, if_pos (by omega)]
        omega
      · rw [if_neg y, if_neg (by omega)]
theorem yFr_cells {k i n : Nat} {M M' : zM} {P : Nat → Nat → Nat → Prop} (f : zFo P M M') (hp : ∀ s, s < n → ¬ P k i s) {c : Nat → Nat} (h : ∀ s, s < n → zgI M k i s = nI (c s)) : ∀ s, s < n → zgI M' k i s = nI (c s) := fun s hs => ((f k i s (hp s hs)).1).trans (h s hs)
/-- one value laid, by the class -/
theorem L119a (d i p v m : Nat) (hm : p + m ≤ 416) (u4 : zV) : ∀ (j k : Nat) (A : zM), k + j = m → (∀ s, p ≤ s → s < p + k → zgI A 46 i s = nI v) → ∃ A', zgo false (d + 2) 119 31 [zr 10 i, zi (nI p), zi (nI v), zi (nI m), zi (nI k)] [] A = zgo false (d + 2) 119 4 [zr 10 i, zi (nI (p + m)), zi (nI (v + 1)), zi (nI m), zi (nI m)] [] A' ∧ zFo (fun a b c => a = 46 ∧ b = i ∧ p ≤ c) A A' ∧ (∀ s, p ≤ s → s < p + m → zgI A' 46 i s = nI v)
  | 0, k, A, hk, h => by
    have hk : k = m := hk
    subst hk
    refine ⟨A, ?_, zFo_refl _ A, h⟩
    rw [B119_31, if_pos (nI_le (by omega) (by omega)), nI_add, nI_1]
  | j + 1, k, A, hk, h => by
    obtain ⟨A', e, f, w⟩ := L119a d i p v m hm u4 j (k + 1) (zsI A 46 i (p + k) (nI v)) (by omega) (fun s s1 s2 => by
      rw [zgI_sI]
      by_cases z : s = p + k
      · rw [if_pos ⟨rfl, rfl, z⟩]
      · rw [if_neg (fun y => z y.2.2)]
        exact h s s1 (by omega))
    refine ⟨A', ?_, zFo_trans (zFo_sI (zFo_refl _ A) ⟨rfl, rfl, by omega⟩) f, w⟩
    rw [B119_31, if_neg (nI_ge (by omega) (by omega)), nI_add, se46n _ _ _ _ _ _ (by omega), zbsome, zpu0, B119_49, nI_1]
    exact e
theorem L119 (d i P : Nat) (hP : 1 ≤ P ∧ P ≤ 8) : ∀ (j n : Nat) (A : zM) (u3 u4 : zV), n + j = 10 → zgI A 10 i 2 = nI P → (∀ s, s < yPl P n → zgI A 46 i s = nI (yFi P n s)) → ∃ (A' : zM) (v3 v4 : zV), zgo false (d + 2) 119 4 [zr 10 i, zi (nI (yPl P n)), zi (nI (n + 1)), u3, u4] [] A = zgo false (d + 2) 119 4 [zr 10 i, zi (nI (yPl P 10)), zi (nI 11), v3, v4] [] A' ∧ zFo (fun a b _ => a = 46 ∧ b = i) A A' ∧ (∀ s, s < yPl P 10 → zgI A' 46 i s = nI (yFi P 10 s))
  | 0, n, A, u3, u4, hn, hP2, h => by
    have hn : n = 10 := hn
    subst hn
    exact ⟨A, u3, u4, rfl, zFo_refl _ A, h⟩
  | j + 1, n, A, u3, u4, hn, hP2, h => by
    have hle := yPl_le P (n := n + 1) (by omega)
    have hpl : yPl P (n + 1) = yPl P n + ycd P (n + 1) := rfl
    have l10 : nI (n + 1) = 10 ↔ n + 1 = 10 := nI_eq (b := 10) (by omega) (by omega)
    obtain ⟨A1, e1, f1, w1⟩ := L119a d i (yPl P n) (n + 1) (ycd P (n + 1)) (by omega) u4 (ycd P (n + 1)) 0 A (by omega) (fun s s1 s2 => by omega)
    obtain ⟨A', v3, v4, e, f, w⟩ := L119 d i P hP j (n + 1) A1 (zi (nI (ycd P (n + 1)))) (zi (nI (ycd P (n + 1)))) (by omega) (((f1 10 i 2 (by omega)).1).trans hP2) (fun s hs => by
      by_cases z : yPl P n ≤ s
      · rw [w1 s z (by omega)]
        exact congrArg nI (if_pos ⟨z, by omega⟩).symm
      · rw [(f1 46 i s (by omega)).1, h s (by omega), yFi_lo P n s (by omega)])
    refine ⟨A', v3, v4, ?_, zFo_trans (zFo_mono f1 (fun a b c z => ⟨z.1, z.2.1⟩)) f, w⟩
    have k22 : ∀ x : Int32, x * nI P = nI (ycd P (n + 1)) → zgo false (d + 2) 119 22 [zr 10 i, zi (nI (yPl P n)), zi (nI (n + 1)), u3, u4] [zi x] A = zgo false (d + 2) 119 4 [zr 10 i, zi (nI (yPl P 10)), zi (nI 11), v3, v4] [] A' := by
      intro x hx
      rw [B119_22, hP2, hx]
      exact e1.trans e
    rw [B119_4, if_neg (show ¬ (10 : Int32) < nI (n + 1) from nI_nlt (a := 10) (by omega) (by omega))]
    by_cases z : n + 1 = 10
    · rw [if_pos (l10.mpr z)]
      exact k22 16 (by
        have e : ycd P (n + 1) = P * 16 := by unfold ycd; rw [if_pos z]
        rw [e, show (16 : Int32) = nI 16 from rfl, pk_mul, Nat.mul_comm])
    · rw [if_neg (mt l10.mp z)]
      exact k22 4 (by
        have e : ycd P (n + 1) = P * 4 := by unfold ycd; rw [if_neg z]
        rw [e, show (4 : Int32) = nI 4 from rfl, pk_mul, Nat.mul_comm])
/-- the same by the model -/
theorem S196 (d v P : Nat) (hv : v ≤ 10) {B : zM} (h : zgI B 13 0 1 = nI P) : zgo false d 196 0 [zr 13 0, zi (nI v)] [] B = some (some (zi (nI (ycd P v))), B) := by
  have l10 : nI v = 10 ↔ v = 10 := nI_eq (b := 10) (by omega) (by omega)
  unfold ycd
  rw [B196_0, h]
  by_cases y : v = 10
  · rw [if_pos (l10.mpr y), if_pos y, B196_16, show (16 : Int32) = nI 16 from rfl, pk_mul]
  · rw [if_neg (mt l10.mp y), if_neg y, B196_16, show (4 : Int32) = nI 4 from rfl, pk_mul]
theorem L199a (d p v m P : Nat) (hm : p + m ≤ 416) (hv : 1 ≤ v ∧ v ≤ 10) (hmv : ycd P v = m) (u4 : zV) : ∀ (j k : Nat) (B : zM), k + j = m → zgI B 13 0 1 = nI P → (∀ s, p ≤ s → s < p + k → zgI B 55 0 s = nI v) → ∃ B', zgo false (d + 1) 199 12 [zr 13 0, zi (nI (p + k)), zi (nI v), zi (nI k), u4] [] B = zgo false (d + 1) 199 4 [zr 13 0, zi (nI (p + m)), zi (nI (v + 1)), zi (nI m), u4] [] B' ∧ zFo (fun a b c => a = 55 ∧ b = 0 ∧ p ≤ c) B B' ∧ (∀ s, p ≤ s → s < p + m → zgI B' 55 0 s = nI v)
  | 0, k, B, hk, hP2, h => by
    have hk : k = m := hk
    subst hk
    refine ⟨B, ?_, zFo_refl _ B, h⟩
    rw [B199_12, S196 d v P hv.2 hP2, zbsome]
    show zgo false (d + 1) 199 18 _ [zi (nI (ycd P v)), zi (nI k)] B = _
    rw [B199_18, hmv, if_pos (nI_le (by omega) (by omega)), nI_1]
  | j + 1, k, B, hk, hP2, h => by
    have z1 : zin (nI (p + k)) 416 = true := zin_nI (by omega) (by omega)
    have c1 : (nI (p + k)).toNatClampNeg = p + k := nI_clamp (by omega)
    have e8 : (nI v).toInt8.toInt32.toInt8.toInt32 = nI v := by rw [yByt (by omega), yByt (by omega)]
    obtain ⟨B', e, f, w⟩ := L199a d p v m P hm hv hmv u4 j (k + 1) (zsI B 55 0 (p + k) (nI v)) (by omega) hP2 (fun s s1 s2 => by
      rw [zgI_sI]
      by_cases z : s = p + k
      · rw [if_pos ⟨rfl, rfl, z⟩]
      · rw [if_neg (fun y => z y.2.2)]
        exact h s s1 (by omega))
    refine ⟨B', ?_, zFo_trans (zFo_sI (zFo_refl _ B) ⟨rfl, rfl, by omega⟩) f, w⟩
    rw [B199_12, S196 d v P hv.2 hP2, zbsome]
    show zgo false (d + 1) 199 18 _ [zi (nI (ycd P v)), zi (nI k)] B = _
    rw [B199_18, hmv, if_neg (nI_ge (by omega) (by omega)), if_pos z1, c1, e8, nI_1, nI_1]
    exact e
theorem L199 (d P : Nat) (hP : 1 ≤ P ∧ P ≤ 8) : ∀ (j n : Nat) (B : zM) (u3 u4 : zV), n + j = 10 → zgI B 13 0 1 = nI P → (∀ s, s < yPl P n → zgI B 55 0 s = nI (yFi P n s)) → ∃ (B' : zM) (v3 v4 : zV), zgo false (d + 1) 199 4 [zr 13 0, zi (nI (yPl P n)), zi (nI (n + 1)), u3, u4] [] B = zgo false (d + 1) 199 4 [zr 13 0, zi (nI (yPl P 10)), zi (nI 11), v3, v4] [] B' ∧ zFo (fun a b _ => a = 55 ∧ b = 0) B B' ∧ (∀ s, s < yPl P 10 → zgI B' 55 0 s = nI (yFi P 10 s))
  | 0, n, B, u3, u4, hn, hP2, h => by
    have hn : n = 10 := hn
    subst hn
    exact ⟨B, u3, u4, rfl, zFo_refl _ B, h⟩
  | j + 1, n, B, u3, u4, hn, hP2, h => by
    have hle := yPl_le P (n := n + 1) (by omega)
    have hpl : yPl P (n + 1) = yPl P n + ycd P (n + 1) := rfl
    obtain ⟨B1, e1, f1, w1⟩ := L199a d (yPl P n) (n + 1) (ycd P (n + 1)) P (by omega) ⟨by omega, by omega⟩ rfl u4 (ycd P (n + 1)) 0 B (by omega) hP2 (fun s s1 s2 => by omega)
    obtain ⟨B', v3, v4, e, f, w⟩ := L199 d P hP j (n + 1) B1 (zi (nI (ycd P (n + 1)))) u4 (by omega) (((f1 13 0 1 (by omega)).1).trans hP2) (fun s hs => by
      by_cases z : yPl P n ≤ s
      · rw [w1 s z (by omega)]
        exact congrArg nI (if_pos ⟨z, by omega⟩).symm
      · rw [(f1 55 0 s (by omega)).1, h s (by omega), yFi_lo P n s (by omega)])
    refine ⟨B', v3, v4, ?_, zFo_trans (zFo_mono f1 (fun a b c z => ⟨z.1, z.2.1⟩)) f, w⟩
    rw [B199_4, if_neg (show ¬ (10 : Int32) < nI (n + 1) from nI_nlt (a := 10) (by omega) (by omega))]
    exact e1.trans e
/-! the order that a seed makes -/
theorem yShr (z : Int32) : ∃ k, k < 16777216 ∧ (z.toUInt32 >>> ((8 : Int32).toUInt32 &&& Int32.toUInt32 31)).toInt32 = nI k := by
  refine ⟨z.toUInt32.toNat / 256, ?_, ?_⟩
  · have := z.toUInt32.toNat_lt
    omega
  · have e : (z.toUInt32 >>> ((8 : Int32).toUInt32 &&& Int32.toUInt32 31)) = UInt32.ofNat (z.toUInt32.toNat / 256) := by
      apply UInt32.toNat_inj.mp
      rw [UInt32.toNat_shiftRight, UInt32.toNat_ofNat']
      have h8 : ((8 : Int32).toUInt32 &&& Int32.toUInt32 31).toNat % 32 = 8 := by decide
      rw [h8, Nat.shiftRight_eq_div_pow]
      have := z.toUInt32.toNat_lt
      omega
    rw [e]
    rfl
theorem nI_mod {k m : Nat} (hk : k < 16777216) (hm : 0 < m) (hm2 : m ≤ 1000) : nI k - nI k / nI m * nI m = nI (k % m) := by
  have e : nI k / nI m = yI ((k / m : Nat) : Int) := by
    rw [yI_nat, yI_nat, yI_div ⟨by omega, by omega⟩ ⟨by omega, by omega⟩ (by omega)]
    rfl
  rw [e, yI_nat m, yI_mul, yI_nat k, yI_sub]
  show yI _ = yI ((k % m : Nat) : Int)
  have h := Nat.div_add_mod k m
  congr 1
  rw [Int.mul_comm, ← Int.natCast_mul]
  omega
def yCs (i : Nat) (A B : zM) (c : Nat → Nat) (N : Nat) : Prop := ∀ s, s < N → zgI A 46 i s = nI (c s) ∧ zgI B 55 0 s = nI (c s) ∧ 1 ≤ c s ∧ c s ≤ 10
def ySh (i a b c : Nat) : Prop := b = i ∧ (a = 46 ∨ (a = 10 ∧ c = 5))
def yShm (a b c : Nat) : Prop := b = 0 ∧ (a = 55 ∨ (a = 13 ∧ c = 4))
theorem L119s (d e0 i N : Nat) (hN : N ≤ 416) (x1 y1 : Int32) : ∀ (n : Nat) (c : Nat → Nat) (A B : zM) (u3 u4 w3 w4 : zV), n < N → yCs i A B c N → zgI A 10 i 5 = zgI B 13 0 4 → ∃ (A' B' : zM) (c' : Nat → Nat) (v3 v4 z3 z4 : zV), zgo false (d + 1) 119 72 [zr 10 i, zi x1, zi (nI n), u3, u4] [] A = zgo false (d + 1) 119 72 [zr 10 i, zi x1, zi (nI 0), v3, v4] [] A' ∧ zgo false (e0 + 1) 199 48 [zr 13 0, zi y1, zi (nI n), w3, w4] [] B = zgo false (e0 + 1) 199 48 [zr 13 0, zi y1, zi (nI 0), z3, z4] [] B' ∧ zFo (ySh i) A A' ∧ zFo yShm B B' ∧ yCs i A' B' c' N ∧ zgI A' 10 i 5 = zgI B' 13 0 4 ∧ ∀ u, ycn c' u N = ycn c u N
  | 0, c, A, B, u3, u4, w3, w4, _, h, hz => ⟨A, B, c, u3, u4, w3, w4, rfl, rfl, zFo_refl _ A, zFo_refl _ B, h, hz, fun _ => rfl⟩
  | n + 1, c, A, B, u3, u4, w3, w4, hn, h, hz => by
    obtain ⟨k, hk, ek⟩ := yShr (zgI A 10 i 5 * 1103515245 + 12345)
    have hj : k % (n + 2) < n + 2 := Nat.mod_lt _ (by omega)
    obtain ⟨j, ej⟩ : ∃ j, j = k % (n + 2) := ⟨_, rfl⟩
    rw [← ej] at hj
    have em : nI k - nI k / nI (n + 2) * nI (n + 2) = nI j := by rw [nI_mod hk (by omega) (by omega), ej]
    have lt1 : ¬ nI (n + 1) < 1 := nI_nlt (b := 1) (by omega) (by omega)
    have ne0 : ¬ nI (n + 2) = 0 := nI_ne0 (by omega) (by omega)
    have dn : nI (n + 1) + (-1) = nI n := by
      have := nI_pred n
      rw [← Int32.sub_eq_add_neg]
      exact this
    obtain ⟨Z, hZ⟩ : ∃ Z, Z = zgI A 10 i 5 * 1103515245 + 12345 := ⟨_, rfl⟩
    obtain ⟨A1, hA1⟩ : ∃ A1, A1 = zsI A 10 i 5 Z := ⟨_, rfl⟩
    obtain ⟨B1, hB1⟩ : ∃ B1, B1 = zsI B 13 0 4 Z := ⟨_, rfl⟩
    have a5 : zgI A1 10 i 5 = Z := by rw [hA1, zgI_sI, if_pos ⟨rfl, rfl, rfl⟩]
    have b4 : zgI B1 13 0 4 = Z := by rw [hB1, zgI_sI, if_pos ⟨rfl, rfl, rfl⟩]
    have h1 : yCs i A1 B1 c N := fun s hs => by
      rw [hA1, hB1, zgI_sI, if_neg (by omega), zgI_sI, if_neg (by omega)]
      exact h s hs
    obtain ⟨c2, hc2⟩ : ∃ c2, c2 = yUp (yUp c (n + 1) (c j)) j (c (n + 1)) := ⟨_, rfl⟩
    obtain ⟨A2, hA2⟩ : ∃ A2, A2 = zsI (zsI A1 46 i (n + 1) (nI (c j))) 46 i j (nI (c (n + 1))) := ⟨_, rfl⟩
    obtain ⟨B2, hB2⟩ : ∃ B2, B2 = zsI (zsI B1 55 0 (n + 1) (nI (c j))) 55 0 j (nI (c (n + 1))) := ⟨_, rfl⟩
    have h2 : yCs i A2 B2 c2 N := fun s hs => by
      by_cases z1 : s = j
      · have e : c2 s = c (n + 1) := by rw [hc2]; exact if_pos z1
        rw [e]
        refine ⟨?_, ?_, (h (n + 1) hn).2.2⟩
        · rw [hA2, zgI_sI, if_pos ⟨rfl, rfl, z1⟩]
        · rw [hB2, zgI_sI, if_pos ⟨rfl, rfl, z1⟩]
      · by_cases z2 : s = n + 1
        · have e : c2 s = c j := by rw [hc2]; exact (if_neg z1).trans (if_pos z2)
          rw [e]
          refine ⟨?_, ?_, (h j (by omega)).2.2⟩
          · rw [hA2, zgI_sI, if_neg (fun y => z1 y.2.2), zgI_sI, if_pos ⟨rfl, rfl, z2⟩]
          · rw [hB2, zgI_sI, if_neg (fun y => z1 y.2.2), zgI_sI, if_pos ⟨rfl, rfl, z2⟩]
        · have e : c2 s = c s := by rw [hc2]; exact (if_neg z1).trans (if_neg z2)
          rw [e]
          refine ⟨?_, ?_, (h s hs).2.2⟩
          · rw [hA2, zgI_sI, if_neg (fun y => z1 y.2.2), zgI_sI, if_neg (fun y => z2 y.2.2)]
            exact (h1 s hs).1
          · rw [hB2, zgI_sI, if_neg (fun y => z1 y.2.2), zgI_sI, if_neg (fun y => z2 y.2.2)]
            exact (h1 s hs).2.1
    have hz2 : zgI A2 10 i 5 = zgI B2 13 0 4 := by
      rw [hA2, hB2, zgI_sI, if_neg (by omega), zgI_sI, if_neg (by omega), zgI_sI, if_neg (by omega), zgI_sI, if_neg (by omega), a5, b4]
    obtain ⟨A', B', c', v3, v4, z3, z4, e1, e2, f1, f2, g, gz, gc⟩ := L119s d e0 i N hN x1 y1 n c2 A2 B2 (zi (nI j)) (zi (nI (c (n + 1)))) (zi (nI j)) (zi (nI (c (n + 1)))) (by omega) h2 hz2
    have fA : zFo (ySh i) A A2 := by
      rw [hA2, hA1]
      exact zFo_sI (zFo_sI (zFo_sI (zFo_refl _ A) ⟨rfl, Or.inr ⟨rfl, rfl⟩⟩) ⟨rfl, Or.inl rfl⟩) ⟨rfl, Or.inl rfl⟩
    have fB : zFo yShm B B2 := by
      rw [hB2, hB1]
      exact zFo_sI (zFo_sI (zFo_sI (zFo_refl _ B) ⟨rfl, Or.inr ⟨rfl, rfl⟩⟩) ⟨rfl, Or.inl rfl⟩) ⟨rfl, Or.inl rfl⟩
    refine ⟨A', B', c', v3, v4, z3, z4, ?_, ?_, zFo_trans fA f1, zFo_trans fB f2, g, gz, fun u => ?_⟩
    · rw [← hZ] at ek
      rw [B119_72, if_neg lt1, nI_1, if_neg ne0, ← hZ, ← hA1, a5, ek, em, B119_104, at46n _ _ _ _ _ (by omega), zbsome, zpu1, B119_112, at46n _ _ _ _ _ (by omega), zbsome, (h1 (n + 1) hn).1, (h1 j (by omega)).1]
      show zgo false (d + 1) 119 127 [zr 10 i, zi x1, zi (nI (n + 1)), zi (nI j), zi (nI (c (n + 1)))] [zi (nI (c j)), zi (nI (n + 1)), zr 46 i] A1 = _
      rw [B119_127, se46n _ _ _ _ _ _ (by omega), zbsome, zpu0, B119_130, se46n _ _ _ _ _ _ (by omega), zbsome, zpu0, B119_140, dn, ← hA2]
      exact e1
    · have ek2 := ek
      rw [hz] at hZ
      have z1 : zin (nI (n + 1)) 416 = true := zin_nI (by omega) (by omega)
      have z2 : zin (nI j) 416 = true := zin_nI (by omega) (by omega)
      have t1 : (nI (n + 1)).toNatClampNeg = n + 1 := nI_clamp (by omega)
      have t2 : (nI j).toNatClampNeg = j := nI_clamp (by omega)
      have i1 : (nI (c j)).toInt8.toInt32 = nI (c j) := yByt (by have := (h j (by omega)).2.2; omega)
      have i2 : (nI (c (n + 1))).toInt8.toInt32 = nI (c (n + 1)) := yByt (by have := (h (n + 1) hn).2.2; omega)
      rw [hz, ← hZ] at ek2
      rw [B199_48, if_neg lt1, nI_1, if_neg ne0, ← hZ, ← hB1, b4, ek2, em, B199_80, if_pos z1, if_pos z2, if_pos z1, t1, t2, (h1 (n + 1) hn).2.1, (h1 j (by omega)).2.1, i1, B199_100, if_pos z2, t2, i2, dn, ← hB2]
      exact e2
    · rw [gc u, hc2]
      exact ycn_swap c (n + 1) j u N hn (by omega)
def yShA (i a b c : Nat) : Prop := b = i ∧ (a = 46 ∨ a = 47 ∨ (a = 10 ∧ 5 ≤ c ∧ c ≤ 9))
def yShB (a b c : Nat) : Prop := b = 0 ∧ (a = 55 ∨ a = 56 ∨ (a = 13 ∧ (c = 4 ∨ c = 5 ∨ c = 7 ∨ c = 8)))
/-- both shuffle -/
theorem H119 (d e0 i : Nat) (u1 u2 u3 u4 w1 w2 w3 w4 : zV) {A B : zM} {P C g : Nat} {sn : Nat → Nat} (hn : yNm i A B P C g sn) : ∃ A' B', zgo false (d + 2) 119 0 [zr 10 i, u1, u2, u3, u4] [] A = some (none, A') ∧ zgo false (e0 + 2) 199 0 [zr 13 0, w1, w2, w3, w4] [] B = some (none, B') ∧ zFo (yShA i) A A' ∧ zFo yShB B B' ∧ yNm i A' B' P C 1 (fun _ => 0) ∧ (∃ c, yDk i A' B' P 1 (fun _ => 0) c 0) ∧ zgI A' 10 i 9 = 0 ∧ zgI B' 13 0 5 = 1 := by
  obtain ⟨⟨hP, hC, hg⟩, n2, n3, n5, n6, n8, n7, n9, n10, n11, n12⟩ := hn
  obtain ⟨A1, v3, v4, e1, f1, w1c⟩ := L119 d i P hP 10 0 A u3 u4 rfl n2.1 (fun s hs => absurd hs (by show ¬ s < 0; omega))
  obtain ⟨B1, z3, z4, e2, f2, w2c⟩ := L199 (e0 + 1) P hP 10 0 B w3 w4 rfl n2.2 (fun s hs => absurd hs (by show ¬ s < 0; omega))
  rw [yPl_10] at w1c w2c
  have hcs : yCs i A1 B1 (yFi P 10) (52 * P) := fun s hs => ⟨w1c s hs, w2c s hs, yFi_v P 10 s (by rw [yPl_10]; exact hs)⟩
  have hz : zgI A1 10 i 5 = zgI B1 13 0 4 := by rw [(f1 10 i 5 (by omega)).1, (f2 13 0 4 (by omega)).1, n5]
  obtain ⟨A2, B2, c, p3, p4, q3, q4, e3, e4, f3, f4, g, gz, gc⟩ := L119s (d + 1) (e0 + 1) i (52 * P) (by omega) (nI (yPl P 10)) (nI (yPl P 10)) (52 * P - 1) (yFi P 10) A1 B1 v3 v4 z3 z4 (by omega) hcs hz
  obtain ⟨A3, e5, f5, s7, s8, s47⟩ := L118 d i 11 0 A2 rfl
  obtain ⟨B3, e6, f6, t8, t56⟩ := L198 (e0 + 1) 11 0 B2 rfl
  have e5 : zgo false (d + 1) 118 2 [zr 10 i, zi 0] [] A2 = some (none, A3) := e5
  have e6 : zgo false (e0 + 1) 198 2 [zr 13 0, zi 0] [] B2 = some (none, B3) := e6
  obtain ⟨A4, hA4⟩ : ∃ A4, A4 = zsI (zsI A3 10 i 6 1) 10 i 9 0 := ⟨_, rfl⟩
  obtain ⟨B4, hB4⟩ : ∃ B4, B4 = zsI (zsI B3 13 0 7 1) 13 0 5 1 := ⟨_, rfl⟩
  have fA3 : zFo (yShA i) A A3 := zFo_trans (zFo_mono f1 (fun a b c z => ⟨z.2, Or.inl z.1⟩)) (zFo_trans (zFo_mono f3 (fun a b c z => by unfold ySh at z; unfold yShA; omega)) (zFo_mono f5 (fun a b c z => by unfold yShA; omega)))
  have fB3 : zFo yShB B B3 := zFo_trans (zFo_mono f2 (fun a b c z => ⟨z.2, Or.inl z.1⟩)) (zFo_trans (zFo_mono f4 (fun a b c z => by unfold yShm at z; unfold yShB; omega)) (zFo_mono f6 (fun a b c z => by unfold yShB; omega)))
  have fA : zFo (yShA i) A A4 := by
    rw [hA4]
    exact zFo_sI (zFo_sI fA3 (by unfold yShA; omega)) (by unfold yShA; omega)
  have fB : zFo yShB B B4 := by
    rw [hB4]
    exact zFo_sI (zFo_sI fB3 (by unfold yShB; omega)) (by unfold yShB; omega)
  have oA : ∀ k s, ¬ (k = 10 ∧ (s = 6 ∨ s = 9)) → zgI A4 k i s = zgI A3 k i s := fun k s hs => by
    rw [hA4, zgI_sI, if_neg (by omega), zgI_sI, if_neg (by omega)]
  have oB : ∀ k s, ¬ (k = 13 ∧ (s = 7 ∨ s = 5)) → zgI B4 k 0 s = zgI B3 k 0 s := fun k s hs => by
    rw [hB4, zgI_sI, if_neg (by omega), zgI_sI, if_neg (by omega)]
  have a6 : zgI A4 10 i 6 = 1 := by rw [hA4, zgI_sI, if_neg (by omega), zgI_sI, if_pos ⟨rfl, rfl, rfl⟩]
  have a9 : zgI A4 10 i 9 = 0 := by rw [hA4, zgI_sI, if_pos ⟨rfl, rfl, rfl⟩]
  have b7 : zgI B4 13 0 7 = 1 := by rw [hB4, zgI_sI, if_neg (by omega), zgI_sI, if_pos ⟨rfl, rfl, rfl⟩]
  have b5 : zgI B4 13 0 5 = 1 := by rw [hB4, zgI_sI, if_pos ⟨rfl, rfl, rfl⟩]
  refine ⟨A4, B4, ?_, ?_, fA, fB, ⟨⟨hP, hC, by omega⟩, ⟨?_, ?_⟩, ⟨?_, ?_⟩, ?_, ⟨a6, b7⟩, ?_, ⟨?_, ?_⟩, fun v v1 v2 => ⟨?_, ?_⟩, rfl, fun v _ _ => Nat.zero_le _, by show 0 < 52 * P; omega⟩, ⟨c, by omega, fun s hs => ?_, fun v v1 v2 => ?_, fun v v1 v2 => ?_⟩, a9, b5⟩
  · rw [B119_0]
    refine e1.trans ?_
    have e118 : zgo false (d + 1) 118 0 [zr 10 i, zu] [] A2 = some (none, A3) := by rw [B118_0]; exact e5
    have e108 : zgo false (d + 1) 108 0 [zr 10 i] [] A1 = some (some (zi (nI (52 * P))), A1) := by
      rw [B108_0, (f1 10 i 2 (by omega)).1, n2.1, show (52 : Int32) = nI 52 from rfl, pk_mul, Nat.mul_comm]
    rw [B119_4, if_pos (by decide), e108, zbsome, zpu1, B119_69, show nI (52 * P) - 1 = nI (52 * P - 1) from nI_pr1 (by omega)]
    refine e3.trans ?_
    rw [B119_72, if_pos (by decide), e118, zbsome, zpu0, B119_150, hA4]
  · rw [B199_0]
    refine e2.trans ?_
    have e198 : zgo false (e0 + 1) 198 0 [zr 13 0, zu] [] B2 = some (none, B3) := by rw [B198_0]; exact e6
    rw [B199_4, if_pos (by decide), show nI (yPl P 10) - 1 = nI (52 * P - 1) from by rw [yPl_10]; exact nI_pr1 (by omega)]
    refine e4.trans ?_
    rw [B199_48, if_pos (by decide), e198, zbsome, zpu0, B199_118, hB4]
  · rw [(fA 10 i 2 (by unfold yShA; omega)).1]; exact n2.1
  · rw [(fB 13 0 1 (by unfold yShB; omega)).1]; exact n2.2
  · rw [(fA 10 i 3 (by unfold yShA; omega)).1]; exact n3.1
  · rw [(fB 13 0 2 (by unfold yShB; omega)).1]; exact n3.2
  · rw [oA 10 5 (by omega), oB 13 4 (by omega), (f5 10 i 5 (by omega)).1, (f6 13 0 4 (by omega)).1, gz]
  · rw [oA 10 8 (by omega), oB 13 8 (by omega), s8, t8]
  · rw [oA 10 7 (by omega), s7]; rfl
  · rw [oB 56 0 (by omega), t56 0 (by omega), if_pos (by omega)]; rfl
  · rw [oA 47 v (by omega), s47 v v2, if_pos (by omega)]; rfl
  · rw [oB 56 v (by omega), t56 v v2, if_pos (by omega)]; rfl
  · obtain ⟨g1, g2, g3⟩ := g s hs
    refine ⟨?_, ?_, g3⟩
    · rw [oA 46 s (by omega), (f5 46 i s (by omega)).1, g1]
    · rw [oB 55 s (by omega), (f6 55 0 s (by omega)).1, g2]
  · rw [gc v]
    have h := yFi_n P v 10
    rw [yPl_10, if_pos ⟨v1, v2⟩] at h
    exact h
  · rw [if_neg (show ¬ (0 : Nat) = v by omega)]
    show 0 + (if c 0 = v then 1 else 0) + 0 ≤ 0 + (if c 0 = v then 1 else 0)
    omega
