/-! ===== plays held against the best ===== -/
def gB4 (a b c : Nat) : Prop := b = 0 ∧ ((76 ≤ a ∧ a ≤ 81) ∨ (a = 13 ∧ c = 69))
theorem L267v (d h : Nat) (hh : h < 60) (x1 x2 : Int32) {o : Nat → Nat} : ∀ (j m : Nat) (B : zM), m + j = 11 → zgI B 13 0 63 = nI h → (∀ v, v ≤ 10 → zgI B 95 0 (11 * h + v) = nI (if v = 0 then ysm o else o v)) → (∀ v, v < m → zgI B 76 0 v = nI (if v = 0 then ysm o else o v)) → ∃ B', zgo false (d + 1) 267 18 [zr 13 0, zi x1, zi x2, zi (nI m)] [] B = zgo false (d + 1) 267 18 [zr 13 0, zi x1, zi x2, zi (nI 11)] [] B' ∧ zFo (fun a b _ => a = 76 ∧ b = 0) B B' ∧ ∀ v, v ≤ 10 → zgI B' 76 0 v = nI (if v = 0 then ysm o else o v)
  | 0, m, B, hm, _, _, hv => by
    have hm : m = 11 := hm
    subst hm
    exact ⟨B, rfl, zFo_refl _ B, fun v v1 => hv v (by omega)⟩
  | j + 1, m, B, hm, h63, hl, hv => by
    have c : ¬ (10 : Int32) < nI m := nI_nlt (a := 10) (by omega) (by omega)
    have e1 : 11 * nI h + nI m = nI (11 * h + m) := by rw [show (11 : Int32) = nI 11 from rfl, pk_mul, nI_add]
    have z1 : zin (nI (11 * h + m)) 660 = true := zin_nI (by omega) (by omega)
    have z2 : zin (nI m) 11 = true := zin_nI (by omega) (by omega)
    have c1 : (nI m).toNatClampNeg = m := nI_clamp (by omega)
    have c2 : (nI (11 * h + m)).toNatClampNeg = 11 * h + m := nI_clamp (by omega)
    obtain ⟨B', e, f, w⟩ := L267v d h hh x1 x2 j (m + 1) (zsI B 76 0 m (nI (if m = 0 then ysm o else o m))) (by omega) h63 hl (fun v v2 => by
      rw [zgI_sI]
      by_cases z : v = m
      · rw [if_pos ⟨rfl, rfl, z⟩, z]
      · rw [if_neg (by omega)]
        exact hv v (by omega))
    refine ⟨B', ?_, zFo_trans (zFo_sI (zFo_refl _ B) ⟨rfl, rfl⟩) f, w⟩
    rw [B267_18, if_neg c, h63, e1, if_pos z1, if_pos z2, c1, c2, hl m (by omega), B267_44, nI_1]
    exact e
theorem K267 (d h dv s m pl : Nat) (a ot : Bool) (u3 : zV) (hh : h < 60) (hd : 1 ≤ dv ∧ dv ≤ 10) (hs : 1 ≤ s ∧ s ≤ 21) (hm : m ≤ 20) (hpl : pl ≤ 2) {lf q : Nat → Nat} {B : zM} (h60 : zgI B 13 0 60 = -1) (h63 : zgI B 13 0 63 = nI h) (hl : ∀ v, v ≤ 10 → zgI B 95 0 (11 * h + v) = nI (if v = 0 then ysm lf else lf v)) (hN : 0 < ysm lf ∧ ysm lf ≤ 416) (hR : mR B q) (h65 : zgI B 13 0 65 = nI s) (h66 : zgI B 13 0 66 = bI a) (h67 : zgI B 13 0 67 = nI m) (h69 : zgI B 13 0 69 = bI ot) : ∃ B', zgo false (d + 28) 267 0 [zr 13 0, zi (nI dv), zi (nI pl), u3] [] B = some (none, B') ∧ zFo gB4 B B' ∧ zgI B' 13 0 69 = bI (ot || decide (¬ oBst lf (oO lf q dv) s a (Nat.beq m 2 && Nat.beq (q 2) 1) = pl)) := by
  cases ot with
  | true =>
    refine ⟨B, ?_, zFo_refl _ B, h69⟩
    rw [B267_0, h60, if_neg (by decide), h69, if_pos (show bI true = 1 from rfl), B267_15]
  | false =>
    obtain ⟨B1, e1, f1, w1⟩ := L267v (d + 27) h hh (nI dv) (nI pl) (o := lf) 11 0 B rfl h63 hl (fun v v1 => by omega)
    have hH1 : mH B1 lf := ⟨fun v v1 v2 => by rw [w1 v v2, if_neg (by omega)], w1 0 (by omega), hN⟩
    have hR1 : mR B1 q := mR_fr hR f1 (fun v z => by omega)
    obtain ⟨B2, e2, f2, m2⟩ := S244 (d + 27) zu lf q B1
    have hH2 : mH B2 lf := mH_fr hH1 f2 (fun v z => by cases z.1)
    have hR2 : mR B2 q := mR_fr hR1 f2 (fun v z => by cases z.1)
    obtain ⟨B3, e3, f3, -, m3, d3⟩ := S245 (d + 3) dv hd zu zu zu zu zu hH2 hR2 m2
    have hH3 : mH B3 lf := mH_fr hH2 f3 (fun v z => by unfold mFo at z; omega)
    have hR3 : mR B3 q := mR_fr hR2 f3 (fun v z => by unfold mFo at z; omega)
    obtain ⟨B4, e4, f4, -⟩ := S250 (d + 2) s a (Nat.beq m 2) hs zu zu zu (fun k => oO_nn dv k) (oO_q (q := q) hN.1 dv) hH3 hR3 m3 d3
    have e3 : zgo false (d + 27) 245 0 [zr 13 0, zi (nI dv), zu, zu, zu, zu, zu] [] B2 = some (none, B3) := e3
    have e4 : zgo false (d + 27) 250 0 [zr 13 0, zi (nI s), zi (bI a), zi (bI (Nat.beq m 2)), zu, zu, zu] [] B3 = some (some (zi (nI (oBst lf (oO lf q dv) s a (Nat.beq m 2 && Nat.beq (q 2) 1)))), B4) := e4
    have f13 : zFo (fun a b c => b = 0 ∧ 76 ≤ a ∧ a ≤ 81) B B3 := zFo_trans (zFo_mono f1 (fun a b c z => by omega)) (zFo_trans (zFo_mono f2 (fun a b c z => by omega)) (zFo_mono f3 (fun a b c z => by unfold mFo at z; omega)))
    have f14 : zFo (fun a b c => b = 0 ∧ 76 ≤ a ∧ a ≤ 81) B B4 := zFo_trans f13 (zFo_mono f4 (fun a b c z => by unfold mFd at z; omega))
    have z0 : zin 0 11 = true := rfl
    have n0 : ¬ zgI B1 76 0 (0 : Int32).toNatClampNeg = 0 := by
      have e0 : zgI B1 76 0 (0 : Int32).toNatClampNeg = nI (ysm lf) := w1 0 (by omega)
      rw [e0]
      exact nI_ne0 hN.1 (by omega)
    have lm : nI m = 2 ↔ m = 2 := nI_eq (b := 2) (by omega) (by omega)
    have k : zgo false (d + 28) 267 0 [zr 13 0, zi (nI dv), zi (nI pl), u3] [] B = zgo false (d + 28) 267 94 [zr 13 0, zi (nI dv), zi (nI pl), zi (nI 11)] [zi (nI (oBst lf (oO lf q dv) s a (Nat.beq m 2 && Nat.beq (q 2) 1)))] B4 := by
      have a65 : zgI B3 13 0 65 = nI s := ((f13 13 0 65 (by omega)).1).trans h65
      have a66 : zgI B3 13 0 66 = bI a := ((f13 13 0 66 (by omega)).1).trans h66
      have a67 : zgI B3 13 0 67 = nI m := ((f13 13 0 67 (by omega)).1).trans h67
      rw [B267_0, h60, if_neg (by decide), h69, if_neg (show ¬ bI false = 1 by decide)]
      refine e1.trans ?_
      rw [B267_18, if_pos (by decide), if_pos z0, if_neg n0, e2, zbsome, zpu0, B267_64, e3, zbsome, zpu0, B267_69, a65, a66, a67]
      have k91 : ∀ x, x = bI (Nat.beq m 2) → zgo false (d + 28) 267 91 [zr 13 0, zi (nI dv), zi (nI pl), zi (nI 11)] [zi x, zi (bI a), zi (nI s), zr 13 0] B3 = zgo false (d + 28) 267 94 [zr 13 0, zi (nI dv), zi (nI pl), zi (nI 11)] [zi (nI (oBst lf (oO lf q dv) s a (Nat.beq m 2 && Nat.beq (q 2) 1)))] B4 := by
        intro x hx
        rw [B267_91, hx, e4, zbsome, zpu1]
      by_cases c : m = 2
      · rw [if_pos (lm.mpr c)]
        exact k91 1 (by rw [c]; rfl)
      · rw [if_neg (mt lm.mp c)]
        refine k91 0 ?_
        cases hb : Nat.beq m 2 with
        | false => rfl
        | true => exact absurd (Nat.eq_of_beq_eq_true hb) c
    have bl := oBst_le lf (oO lf q dv) s a (Nat.beq m 2 && Nat.beq (q 2) 1)
    have le : nI (oBst lf (oO lf q dv) s a (Nat.beq m 2 && Nat.beq (q 2) 1)) = nI pl ↔ oBst lf (oO lf q dv) s a (Nat.beq m 2 && Nat.beq (q 2) 1) = pl := nI_eq (by omega) (by omega)
    by_cases c : oBst lf (oO lf q dv) s a (Nat.beq m 2 && Nat.beq (q 2) 1) = pl
    · refine ⟨B4, ?_, zFo_mono f14 (fun a b c z => by unfold gB4; omega), ?_⟩
      · rw [k, B267_94, if_pos (le.mpr c), B267_103]
      · rw [(f14 13 0 69 (by omega)).1, h69, decide_eq_false (by exact fun z => z c)]
        rfl
    · refine ⟨zsI B4 13 0 69 1, ?_, zFo_sI (zFo_mono f14 (fun a b c z => by unfold gB4; omega)) ⟨rfl, Or.inr ⟨rfl, rfl⟩⟩, ?_⟩
      · rw [k, B267_94, if_neg (mt le.mp c), B267_103]
      · rw [zgI_sI, if_pos ⟨rfl, rfl, rfl⟩, decide_eq_true c]
        rfl
/-- whether one of the first plays was another one than the best -/
def yOt (lf : Nat → Nat) (O : Nat → Int) (q S : Nat → Nat) (Aa : Nat → Bool) (pl : Nat → Nat) : Nat → Bool
  | 0 => false
  | n + 1 => yOt lf O q S Aa pl n || decide (¬ oBst lf O (S n) (Aa n) (Nat.beq n 0 && Nat.beq (q 2) 1) = pl n)
theorem yOt_mono {lf : Nat → Nat} {O : Nat → Int} {q S : Nat → Nat} {Aa : Nat → Bool} {pl : Nat → Nat} {n : Nat} (h : yOt lf O q S Aa pl n = true) : ∀ j, yOt lf O q S Aa pl (n + j) = true
  | 0 => h
  | j + 1 => by
    show (yOt lf O q S Aa pl (n + j) || _) = true
    rw [yOt_mono h j]
    rfl
theorem yOt_congr {lf : Nat → Nat} {O : Nat → Int} {q S S' : Nat → Nat} {Aa Aa' : Nat → Bool} {pl pl' : Nat → Nat} : ∀ n, (∀ j, j < n → S j = S' j ∧ Aa j = Aa' j ∧ pl j = pl' j) → yOt lf O q S Aa pl n = yOt lf O q S' Aa' pl' n
  | 0, _ => rfl
  | n + 1, h => by
    show (yOt lf O q S Aa pl n || decide (¬ oBst lf O (S n) (Aa n) (Nat.beq n 0 && Nat.beq (q 2) 1) = pl n)) = (yOt lf O q S' Aa' pl' n || decide (¬ oBst lf O (S' n) (Aa' n) (Nat.beq n 0 && Nat.beq (q 2) 1) = pl' n))
    obtain ⟨h1, h2, h3⟩ := h n (by omega)
    rw [yOt_congr n (fun j hj => h j (by omega)), h1, h2, h3]
/-- 'strays' -/
theorem L49 (d di N : Nat) (hN : N ≤ 20) {A : zM} {lf q S : Nat → Nat} {O : Nat → Int} {Aa : Nat → Bool} {pl : Nat → Nat} (r13 : zgR A 5 0 13 = (4, di)) (h11 : zgI A 4 di 11 = nI N) (hR : oR A q) (hF : oFc A lf O) (hp : ∀ j, j < N → zgI A 26 di j = nI (oHd (S j) (Aa j)) ∧ zgI A 27 di j = nI (pl j) ∧ (1 ≤ S j ∧ S j ≤ 21) ∧ pl j ≤ 2) : ∀ (k n : Nat), n + k = N → zgo false (d + 3) 49 4 [zr 5 0, zi (bI (yOt lf O q S Aa pl n)), zi (nI n)] [] A = some (some (zi (bI (yOt lf O q S Aa pl N))), A) := by
  have z4 : Nat.beq (zgR A 5 0 13).1 4 = true := by rw [r13]; rfl
  have e11 : zgI A 4 (zgR A 5 0 13).2 11 = nI N := by rw [r13]; exact h11
  intro k
  induction k with
  | zero =>
    intro n hn
    have hn : n = N := hn
    subst hn
    rw [B49_4, z4, cond_true, e11, if_pos (nI_le (by omega) (by omega)), B49_72]
    cases yOt lf O q S Aa pl n <;> rfl
  | succ k ih =>
    intro n hn
    have ih := ih (n + 1) (by omega)
    cases ho : yOt lf O q S Aa pl n with
    | true =>
      have e := yOt_mono ho (k + 1)
      rw [hn] at e
      rw [B49_4, z4, cond_true, e11, if_neg (nI_ge (by omega) (by omega)), if_neg (show ¬ bI true = 0 by decide), B49_72, e]
      rfl
    | false =>
      obtain ⟨p1, p2, p3, p4⟩ := hp n (by omega)
      have bl := oBst_le lf O (S n) (Aa n) (Nat.beq n 0 && Nat.beq (q 2) 1)
      have le : nI (pl n) = nI (oBst lf O (S n) (Aa n) (Nat.beq n 0 && Nat.beq (q 2) 1)) ↔ pl n = oBst lf O (S n) (Aa n) (Nat.beq n 0 && Nat.beq (q 2) 1) := nI_eq (by omega) (by omega)
      have g27 : zgo false (d + 2) 169 0 [zr 27 (zgR A 5 0 13).2, zi (nI n)] [] A = some (some (zi (nI (pl n))), A) := by
        rw [r13]
        exact (at27n false (d + 2) di n A (by omega)).trans (by rw [p2])
      have g26 : zgo false (d + 2) 169 0 [zr 26 (zgR A 5 0 13).2, zi (nI n)] [] A = some (some (zi (nI (oHd (S n) (Aa n)))), A) := by
        rw [r13]
        exact (at26n false (d + 2) di n A (by omega)).trans (by rw [p1])
      have ln : nI n = 0 ↔ n = 0 := nI_eq (b := 0) (by omega) (by omega)
      have e64 : ∀ x, x = bI (Nat.beq n 0) → zgo false (d + 2) 64 0 [zr 7 0, zi (nI (oHd (S n) (Aa n))), zi x, zu, zu, zu] [] A = some (some (zi (nI (oBst lf O (S n) (Aa n) (Nat.beq n 0 && Nat.beq (q 2) 1)))), A) := fun x hx => by
        rw [hx]
        exact S64 (d + 1) (S n) (Aa n) (Nat.beq n 0) p3 zu zu zu hR hF
      have k54 : ∀ x, x = bI (Nat.beq n 0) → zgo false (d + 3) 49 54 [zr 5 0, zi (bI false), zi (nI n)] [zi x, zi (nI (oHd (S n) (Aa n))), zr 7 0, zi (nI (pl n))] A = some (some (zi (bI (yOt lf O q S Aa pl N))), A) := by
        intro x hx
        rw [B49_54, e64 x hx, zbsome]
        show zgo false (d + 3) 49 57 [zr 5 0, zi (bI false), zi (nI n)] [zi (nI (oBst lf O (S n) (Aa n) (Nat.beq n 0 && Nat.beq (q 2) 1))), zi (nI (pl n))] A = _
        have k65 : ∀ y, y = bI (yOt lf O q S Aa pl (n + 1)) → zgo false (d + 3) 49 65 [zr 5 0, zi (bI false), zi (nI n)] [zi y] A = some (some (zi (bI (yOt lf O q S Aa pl N))), A) := by
          intro y hy
          rw [B49_65, nI_1, hy]
          exact ih
        have eo : yOt lf O q S Aa pl (n + 1) = (yOt lf O q S Aa pl n || decide (¬ oBst lf O (S n) (Aa n) (Nat.beq n 0 && Nat.beq (q 2) 1) = pl n)) := rfl
        rw [B49_57]
        by_cases c : pl n = oBst lf O (S n) (Aa n) (Nat.beq n 0 && Nat.beq (q 2) 1)
        · rw [if_pos (le.mpr c)]
          refine k65 0 ?_
          rw [eo, ho, decide_eq_false (by exact fun z => z c.symm)]
          rfl
        · rw [if_neg (mt le.mp c)]
          refine k65 1 ?_
          rw [eo, ho, decide_eq_true (by exact fun z => c z.symm)]
          rfl
      rw [B49_4, z4, cond_true, e11, if_neg (nI_ge (by omega) (by omega)), if_pos (show bI false = 0 from rfl), cond_true, g27, zbsome, zpu1, B49_30, z4, cond_true, g26, zbsome]
      show zgo false (d + 3) 49 45 [zr 5 0, zi (bI false), zi (nI n)] [zi (nI (oHd (S n) (Aa n))), zr 7 0, zi (nI (pl n))] A = _
      rw [B49_45]
      by_cases c : n = 0
      · rw [if_pos (ln.mpr c)]
        exact k54 1 (by rw [c]; rfl)
      · rw [if_neg (mt ln.mp c)]
        refine k54 0 ?_
        cases hb : Nat.beq n 0 with
        | false => rfl
        | true => exact absurd (Nat.eq_of_beq_eq_true hb) c
theorem S49 (d di N : Nat) (hN : N ≤ 20) (u1 u2 : zV) {A : zM} {lf q S : Nat → Nat} {O : Nat → Int} {Aa : Nat → Bool} {pl : Nat → Nat} (r13 : zgR A 5 0 13 = (4, di)) (h11 : zgI A 4 di 11 = nI N) (hR : oR A q) (hF : oFc A lf O) (hp : ∀ j, j < N → zgI A 26 di j = nI (oHd (S j) (Aa j)) ∧ zgI A 27 di j = nI (pl j) ∧ (1 ≤ S j ∧ S j ≤ 21) ∧ pl j ≤ 2) : zgo false (d + 3) 49 0 [zr 5 0, u1, u2] [] A = some (some (zi (bI (yOt lf O q S Aa pl N))), A) := by
  rw [B49_0]
  exact L49 d di N hN r13 h11 hR hF hp N 0 (by omega)
/-- 'addPlay' -/
theorem K24 (d di n pl : Nat) (x : Int32) (hn : n < 20) {A : zM} (h11 : zgI A 4 di 11 = nI n) (h7 : zgI A 4 di 7 = x) : zgo false (d + 1) 24 0 [zr 4 di, zi (nI pl)] [] A = some (none, zsI (zsI (zsI A 26 di n x) 27 di n (nI pl)) 4 di 11 (nI (n + 1))) := by
  have e1 : zgI (zsI A 26 di n x) 4 di 11 = nI n := by rw [zgI_sI, if_neg (by omega), h11]
  have e2 : zgI (zsI (zsI A 26 di n x) 27 di n (nI pl)) 4 di 11 = nI n := by rw [zgI_sI, if_neg (by omega), e1]
  rw [B24_0, h11, h7, se26n _ _ _ _ _ _ hn, zbsome, zpu0, B24_15, e1, se27n _ _ _ _ _ _ hn, zbsome, zpu0, B24_27, e2, nI_1]
