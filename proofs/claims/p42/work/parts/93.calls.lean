/-! ===== odds: what is asked ===== -/
theorem nI_toNat {x : Int32} (h : 0 ≤ x.toInt) (h2 : x.toInt ≤ 1000) : x = nI x.toInt.toNat := by
  apply Int32.toInt_inj.mp
  have e : (nI x.toInt.toNat).toInt = (x.toInt.toNat : Int) := yI_int (x := (x.toInt.toNat : Int)) ⟨by omega, by omega⟩
  rw [e]
  omega
theorem Rrul_q {M : zM} (h : Rrul M) : ∃ q : Nat → Nat, (∀ w, w < 4 → zgI M 29 0 w = nI (q w) ∧ zgI M 57 0 w = nI (q w)) ∧ (q 0 ≤ 1 ∧ 100 ≤ q 1 ∧ q 1 ≤ 200 ∧ q 2 ≤ 1 ∧ 15 ≤ q 3 ∧ q 3 ≤ 19) := by
  obtain ⟨e0, r0, -, -, -⟩ := h 0 (by omega)
  obtain ⟨e1, -, r1, -, -⟩ := h 1 (by omega)
  obtain ⟨e2, -, -, r2, -⟩ := h 2 (by omega)
  obtain ⟨e3, -, -, -, r3⟩ := h 3 (by omega)
  have r0 := r0 rfl
  have r1 := r1 rfl
  have r2 := r2 rfl
  have r3 := r3 rfl
  refine ⟨fun w => (zgI M 57 0 w).toInt.toNat, fun w hw => ?_, ⟨?_, ?_, ?_, ?_, ?_, ?_⟩⟩
  · have k : zgI M 57 0 w = nI (zgI M 57 0 w).toInt.toNat := by
      rcases (by omega : w = 0 ∨ w = 1 ∨ w = 2 ∨ w = 3) with rfl | rfl | rfl | rfl
      · exact nI_toNat r0.1 (by omega)
      · exact nI_toNat (by omega) (by omega)
      · exact nI_toNat r2.1 (by omega)
      · exact nI_toNat (by omega) (by omega)
    exact ⟨(h w hw).1.trans k, k⟩
  · show (zgI M 57 0 0).toInt.toNat ≤ 1
    omega
  · show 100 ≤ (zgI M 57 0 1).toInt.toNat
    omega
  · show (zgI M 57 0 1).toInt.toNat ≤ 200
    omega
  · show (zgI M 57 0 2).toInt.toNat ≤ 1
    omega
  · show 15 ≤ (zgI M 57 0 3).toInt.toNat
    omega
  · show (zgI M 57 0 3).toInt.toNat ≤ 19
    omega
theorem yLf_sum {A B : zM} {i P C g : Nat} {sn : Nat → Nat} (h : yNum i A B P C g sn) : ysm (yLf P sn) = yLf P sn 0 ∧ 0 < ysm (yLf P sn) ∧ ysm (yLf P sn) ≤ 416 := by
  obtain ⟨⟨⟨p1, p2⟩, -⟩, -, -, -, -, -, -, -, -, e, b, c⟩ := h
  have b1 := b 1 (by omega) (by omega)
  have b2 := b 2 (by omega) (by omega)
  have b3 := b 3 (by omega) (by omega)
  have b4 := b 4 (by omega) (by omega)
  have b5 := b 5 (by omega) (by omega)
  have b6 := b 6 (by omega) (by omega)
  have b7 := b 7 (by omega) (by omega)
  have b8 := b 8 (by omega) (by omega)
  have b9 := b 9 (by omega) (by omega)
  have b10 := b 10 (by omega) (by omega)
  unfold ysm at e ⊢
  unfold yLf
  unfold ycd at b1 b2 b3 b4 b5 b6 b7 b8 b9 b10 ⊢
  simp only [Nat.reduceEqDiff, if_false, if_true, Nat.succ_ne_self, show ¬ (1 : Nat) = 0 by omega, show ¬ (1 : Nat) = 10 by omega] at b1 b2 b3 b4 b5 b6 b7 b8 b9 b10 ⊢
  omega
theorem L113 (d : Nat) {B : zM} {P C g : Nat} {sn : Nat → Nat} : ∀ (j n : Nat) (A : zM), n + j = 10 → yNum 0 A B P C g sn → (∀ v, 1 ≤ v → v ≤ n → zgI A 52 0 v = nI (yLf P sn v)) → ∃ A', zgo false (d + 2) 113 2 [zr 10 0, zr 52 0, zi (nI (n + 1))] [] A = some (none, A') ∧ zFo (fun a b _ => a = 52 ∧ b = 0) A A' ∧ ∀ v, 1 ≤ v → v ≤ 10 → zgI A' 52 0 v = nI (yLf P sn v)
  | 0, n, A, hn, h, hv => by
    have hn : n = 10 := hn
    subst hn
    refine ⟨A, ?_, zFo_refl _ A, hv⟩
    rw [B113_2, if_pos (by decide)]
  | j + 1, n, A, hn, h, hv => by
    have c : ¬ (10 : Int32) < nI (n + 1) := nI_nlt (a := 10) (by omega) (by omega)
    have f1 : zFo (fun a b _ => a = 52 ∧ b = 0) A (zsI A 52 0 (n + 1) (nI (yLf P sn (n + 1)))) := zFo_sI (zFo_refl _ A) ⟨rfl, rfl⟩
    obtain ⟨A', e, f, w⟩ := L113 d j (n + 1) (zsI A 52 0 (n + 1) (nI (yLf P sn (n + 1)))) (by omega) (yNum_fr h (fun s _ _ => (f1 10 0 s (by omega)).1) (fun s _ => (f1 47 0 s (by omega)).1) (fun _ _ _ _ => rfl) (fun _ _ => rfl)) (fun v v1 v2 => by
      rw [zgI_sI]
      by_cases z : v = n + 1
      · rw [if_pos ⟨rfl, rfl, z⟩, z]
      · rw [if_neg (by omega)]
        exact hv v v1 (by omega))
    refine ⟨A', ?_, zFo_trans f1 f, w⟩
    rw [B113_2, if_neg c, S112 d 0 (n + 1) h (by omega), zbsome]
    show zgo false (d + 2) 113 15 [zr 10 0, zr 52 0, zi (nI (n + 1))] [zi (nI (yLf P sn (n + 1))), zi (nI (n + 1)), zr 52 0] A = _
    rw [B113_15, se52n _ _ _ _ _ _ (by omega), zbsome, zpu0, B113_18, nI_1]
    exact e
theorem L238 (d : Nat) {A : zM} {P C g : Nat} {sn : Nat → Nat} : ∀ (j n : Nat) (B : zM), n + j = 11 → yNum 0 A B P C g sn → (∀ v, v < n → zgI B 76 0 v = nI (yLf P sn v)) → ∃ B', zgo false (d + 2) 238 2 [zr 13 0, zi (nI n)] [] B = some (none, B') ∧ zFo (fun a b _ => a = 76 ∧ b = 0) B B' ∧ ∀ v, v ≤ 10 → zgI B' 76 0 v = nI (yLf P sn v)
  | 0, n, B, hn, h, hv => by
    have hn : n = 11 := hn
    subst hn
    refine ⟨B, ?_, zFo_refl _ B, fun v v2 => hv v (by omega)⟩
    rw [B238_2, if_pos (by decide)]
  | j + 1, n, B, hn, h, hv => by
    have c : ¬ (10 : Int32) < nI n := nI_nlt (a := 10) (by omega) (by omega)
    have z1 : zin (nI n) 11 = true := zin_nI (by omega) (by omega)
    have c1 : (nI n).toNatClampNeg = n := nI_clamp (by omega)
    have f1 : zFo (fun a b _ => a = 76 ∧ b = 0) B (zsI B 76 0 n (nI (yLf P sn n))) := zFo_sI (zFo_refl _ B) ⟨rfl, rfl⟩
    obtain ⟨B', e, f, w⟩ := L238 d j (n + 1) (zsI B 76 0 n (nI (yLf P sn n))) (by omega) (yNum_fr h (fun _ _ _ => rfl) (fun _ _ => rfl) (fun s _ _ _ => (f1 13 0 s (by omega)).1) (fun s _ => (f1 56 0 s (by omega)).1)) (fun v v2 => by
      rw [zgI_sI]
      by_cases z : v = n
      · rw [if_pos ⟨rfl, rfl, z⟩, z]
      · rw [if_neg (by omega)]
        exact hv v (by omega))
    refine ⟨B', ?_, zFo_trans f1 f, w⟩
    rw [B238_2, if_neg c, S197 d 0 n h (by omega), zbsome]
    show zgo false (d + 2) 238 18 [zr 13 0, zi (nI n)] [zi (nI (yLf P sn n)), zi (nI n), zr 76 0] B = _
    rw [B238_18, if_pos z1, c1, nI_1]
    exact e
/-- 'oddsAreOfNow' -/
theorem S184 (d : Nat) {A B : zM} {P C g : Nat} {sn q : Nat → Nat} (h : yNum 0 A B P C g sn) (hA : RafJ A) (hq : (∀ w, w < 4 → zgI A 29 0 w = nI (q w)) ∧ (q 0 ≤ 1 ∧ 100 ≤ q 1 ∧ q 1 ≤ 200 ∧ q 2 ≤ 1 ∧ 15 ≤ q 3 ∧ q 3 ≤ 19)) : ∃ A', zgo false (d + 4) 184 0 [zr 12 0] [] A = some (some (zi 1), A') ∧ zFo (fun a b _ => (a = 52 ∧ b = 0) ∨ (b = 1 ∧ (a = 33 ∨ a = 34 ∨ a = 36 ∨ a = 7))) A A' ∧ RafJ A' ∧ oHJ A' (yLf P sn) ∧ oRJ A' q ∧ oEnJ A' (yLf P sn) q 1 1 := by
  obtain ⟨A1, e1, f1, w1⟩ := L113 (d + 1) 10 0 A rfl h (fun v v1 v2 => by omega)
  have hs := yLf_sum h
  obtain ⟨A2, e2, f2, r2⟩ := S60J d 52 0 zu (o := yLf P sn) (q := q) A1 (by omega) (fun d v A' hv => at52n false d 0 v A' (by omega)) w1 hs.2 (fun w hw => ((f1 29 0 w (by omega)).1).trans (hq.1 w hw)) hq.2 (Raf_frJ hA f1 (fun v z => by cases z.1))
  refine ⟨A2, ?_, zFo_trans (zFo_mono f1 (fun a b c z => Or.inl z)) (zFo_mono f2 (fun a b c z => Or.inr ⟨z.1, by have := z.2; omega⟩)), r2⟩
  have e1' : zgo false (d + 3) 113 0 [zr 10 0, zr 52 0, zu] [] A = some (none, A1) := by
    rw [B113_0]
    exact e1
  rw [B184_0, e1', zbsome, zpu0, B184_11, e2, zbsome, zpu1, B184_29]
  rfl
/-- 'asLeft' -/
theorem S238 (d : Nat) (u : zV) {A B : zM} {P C g : Nat} {sn : Nat → Nat} (h : yNum 0 A B P C g sn) : ∃ B', zgo false (d + 2) 238 0 [zr 13 0, u] [] B = some (none, B') ∧ zFo (fun a b _ => a = 76 ∧ b = 0) B B' ∧ mH B' (yLf P sn) := by
  obtain ⟨B1, e1, f1, w1⟩ := L238 d 11 0 B rfl h (fun v v2 => by omega)
  have hs := yLf_sum h
  refine ⟨B1, ?_, f1, fun v v1 v2 => w1 v v2, ?_, hs.2⟩
  · rw [B238_0]
    exact e1
  · rw [hs.1]
    exact w1 0 (by omega)
