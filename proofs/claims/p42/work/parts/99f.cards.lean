/-! ===== a shoe in play, side by side ===== -/
def kS (i : Nat) (A : zM) (P C g : Nat) (ct z : Int32) (sn c : Nat → Nat) : Prop := (zgI A 10 i 2 = nI P ∧ zgI A 10 i 3 = nI C ∧ zgI A 10 i 5 = z ∧ zgI A 10 i 6 = nI g ∧ zgI A 10 i 7 = nI (sn 0) ∧ zgI A 10 i 8 = ct) ∧ (∀ v, 1 ≤ v → v ≤ 10 → zgI A 47 i v = nI (sn v)) ∧ (∀ s, s < 52 * P → zgI A 46 i s = nI (c s))
def mS (B : zM) (P C g : Nat) (ct z : Int32) (sn c : Nat → Nat) : Prop := (zgI B 13 0 1 = nI P ∧ zgI B 13 0 2 = nI C ∧ zgI B 13 0 4 = z ∧ zgI B 13 0 7 = nI g ∧ zgI B 56 0 0 = nI (sn 0) ∧ zgI B 13 0 8 = ct) ∧ (∀ v, 1 ≤ v → v ≤ 10 → zgI B 56 0 v = nI (sn v)) ∧ (∀ s, s < 52 * P → zgI B 55 0 s = nI (c s))
def pS (P C g : Nat) (sn c : Nat → Nat) (h : Nat) : Prop := (1 ≤ P ∧ P ≤ 8) ∧ (10 ≤ C ∧ C ≤ 95) ∧ (1 ≤ g ∧ g ≤ 52 * P) ∧ sn 0 = ysm sn ∧ (∀ s, s < 52 * P → 1 ≤ c s ∧ c s ≤ 10) ∧ (∀ v, 1 ≤ v → v ≤ 10 → ycn c v (52 * P) = ycd P v) ∧ ∀ v, 1 ≤ v → v ≤ 10 → sn v + (if c 0 = v then 1 else 0) + (if h = v then 1 else 0) ≤ ycn c v g
theorem kS_fr {i : Nat} {A A' : zM} {P C g : Nat} {ct z : Int32} {sn c : Nat → Nat} (h : kS i A P C g ct z sn c) {Q : Nat → Nat → Nat → Prop} (f : zFo Q A A') (h1 : ∀ s, 2 ≤ s → s ≤ 8 → ¬ Q 10 i s) (h2 : ∀ s, ¬ Q 47 i s) (h3 : ∀ s, ¬ Q 46 i s) : kS i A' P C g ct z sn c := by
  obtain ⟨⟨a1, a2, a3, a4, a5, a6⟩, b, e⟩ := h
  refine ⟨⟨?_, ?_, ?_, ?_, ?_, ?_⟩, fun v v1 v2 => ?_, fun s hs => ?_⟩
  · rw [(f 10 i 2 (h1 _ (by omega) (by omega))).1]; exact a1
  · rw [(f 10 i 3 (h1 _ (by omega) (by omega))).1]; exact a2
  · rw [(f 10 i 5 (h1 _ (by omega) (by omega))).1]; exact a3
  · rw [(f 10 i 6 (h1 _ (by omega) (by omega))).1]; exact a4
  · rw [(f 10 i 7 (h1 _ (by omega) (by omega))).1]; exact a5
  · rw [(f 10 i 8 (h1 _ (by omega) (by omega))).1]; exact a6
  · rw [(f 47 i v (h2 v)).1]; exact b v v1 v2
  · rw [(f 46 i s (h3 s)).1]; exact e s hs
theorem mS_fr {B B' : zM} {P C g : Nat} {ct z : Int32} {sn c : Nat → Nat} (h : mS B P C g ct z sn c) {Q : Nat → Nat → Nat → Prop} (f : zFo Q B B') (h1 : ∀ s, 1 ≤ s → s ≤ 8 → ¬ s = 5 → ¬ Q 13 0 s) (h2 : ∀ s, ¬ Q 56 0 s) (h3 : ∀ s, ¬ Q 55 0 s) : mS B' P C g ct z sn c := by
  obtain ⟨⟨a1, a2, a3, a4, a5, a6⟩, b, e⟩ := h
  refine ⟨⟨?_, ?_, ?_, ?_, ?_, ?_⟩, fun v v1 v2 => ?_, fun s hs => ?_⟩
  · rw [(f 13 0 1 (h1 _ (by omega) (by omega) (by omega))).1]; exact a1
  · rw [(f 13 0 2 (h1 _ (by omega) (by omega) (by omega))).1]; exact a2
  · rw [(f 13 0 4 (h1 _ (by omega) (by omega) (by omega))).1]; exact a3
  · rw [(f 13 0 7 (h1 _ (by omega) (by omega) (by omega))).1]; exact a4
  · rw [(f 56 0 0 (h2 _)).1]; exact a5
  · rw [(f 13 0 8 (h1 _ (by omega) (by omega) (by omega))).1]; exact a6
  · rw [(f 56 0 v (h2 v)).1]; exact b v v1 v2
  · rw [(f 55 0 s (h3 s)).1]; exact e s hs
theorem ycn_mono (c : Nat → Nat) (v : Nat) {g : Nat} : ∀ j, ycn c v g ≤ ycn c v (g + j)
  | 0 => Nat.le_refl _
  | j + 1 => Nat.le_trans (ycn_mono c v j) (Nat.le_add_right _ _)
theorem ycn_sum {c : Nat → Nat} : ∀ n, (∀ s, s < n → 1 ≤ c s ∧ c s ≤ 10) → ysm (fun v => ycn c v n) = n
  | 0, _ => rfl
  | n + 1, h => by
    have ih : ycn c 1 n + ycn c 2 n + ycn c 3 n + ycn c 4 n + ycn c 5 n + ycn c 6 n + ycn c 7 n + ycn c 8 n + ycn c 9 n + ycn c 10 n = n := ycn_sum n (fun s hs => h s (by omega))
    have hn := h n (by omega)
    show (ycn c 1 n + if c n = 1 then 1 else 0) + (ycn c 2 n + if c n = 2 then 1 else 0) + (ycn c 3 n + if c n = 3 then 1 else 0) + (ycn c 4 n + if c n = 4 then 1 else 0) + (ycn c 5 n + if c n = 5 then 1 else 0) + (ycn c 6 n + if c n = 6 then 1 else 0) + (ycn c 7 n + if c n = 7 then 1 else 0) + (ycn c 8 n + if c n = 8 then 1 else 0) + (ycn c 9 n + if c n = 9 then 1 else 0) + (ycn c 10 n + if c n = 10 then 1 else 0) = n + 1
    rcases (by omega : c n = 1 ∨ c n = 2 ∨ c n = 3 ∨ c n = 4 ∨ c n = 5 ∨ c n = 6 ∨ c n = 7 ∨ c n = 8 ∨ c n = 9 ∨ c n = 10) with e | e | e | e | e | e | e | e | e | e <;> rw [e] <;> simp +decide only [if_true, if_false, ↓reduceIte] <;> omega
theorem pS_b {P C g : Nat} {sn c : Nat → Nat} {h : Nat} (H : pS P C g sn c h) : (∀ v, 1 ≤ v → v ≤ 10 → sn v ≤ ycd P v) ∧ sn 0 < 52 * P := by
  obtain ⟨hP, hC, hg, h0, hc, hn, hs⟩ := H
  have m : ∀ v, 1 ≤ v → v ≤ 10 → ycn c v g ≤ ycd P v := fun v v1 v2 => by
    have := ycn_mono c v (g := g) (52 * P - g)
    rw [show g + (52 * P - g) = 52 * P by omega, hn v v1 v2] at this
    exact this
  refine ⟨fun v v1 v2 => ?_, ?_⟩
  · have := hs v v1 v2
    have := m v v1 v2
    omega
  · have e1 : ycn c 1 g + ycn c 2 g + ycn c 3 g + ycn c 4 g + ycn c 5 g + ycn c 6 g + ycn c 7 g + ycn c 8 g + ycn c 9 g + ycn c 10 g = g := ycn_sum g (fun s s1 => hc s (by omega))
    have e2 : ycn c 1 1 + ycn c 2 1 + ycn c 3 1 + ycn c 4 1 + ycn c 5 1 + ycn c 6 1 + ycn c 7 1 + ycn c 8 1 + ycn c 9 1 + ycn c 10 1 = 1 := ycn_sum (c := c) 1 (fun s s1 => hc s (by omega))
    have t : ∀ v, ycn c v 1 = if c 0 = v then 1 else 0 := fun v => Nat.zero_add _
    unfold ysm at h0
    simp only [t] at e2
    have a1 := hs 1 (by omega) (by omega)
    have a2 := hs 2 (by omega) (by omega)
    have a3 := hs 3 (by omega) (by omega)
    have a4 := hs 4 (by omega) (by omega)
    have a5 := hs 5 (by omega) (by omega)
    have a6 := hs 6 (by omega) (by omega)
    have a7 := hs 7 (by omega) (by omega)
    have a8 := hs 8 (by omega) (by omega)
    have a9 := hs 9 (by omega) (by omega)
    have a10 := hs 10 (by omega) (by omega)
    generalize (if c 0 = 1 then 1 else 0) = q1 at *
    generalize (if c 0 = 2 then 1 else 0) = q2 at *
    generalize (if c 0 = 3 then 1 else 0) = q3 at *
    generalize (if c 0 = 4 then 1 else 0) = q4 at *
    generalize (if c 0 = 5 then 1 else 0) = q5 at *
    generalize (if c 0 = 6 then 1 else 0) = q6 at *
    generalize (if c 0 = 7 then 1 else 0) = q7 at *
    generalize (if c 0 = 8 then 1 else 0) = q8 at *
    generalize (if c 0 = 9 then 1 else 0) = q9 at *
    generalize (if c 0 = 10 then 1 else 0) = q10 at *
    omega
theorem yNm_S {i : Nat} {A B : zM} {P C g : Nat} {ct z : Int32} {sn c : Nat → Nat} {h : Nat} (hk : kS i A P C g ct z sn c) (hm : mS B P C g ct z sn c) (hp : pS P C g sn c h) : yNm i A B P C g sn := by
  obtain ⟨⟨a1, a2, a3, a4, a5, a6⟩, b, -⟩ := hk
  obtain ⟨⟨m1, m2, m3, m4, m5, m6⟩, n, -⟩ := hm
  obtain ⟨p1, p2⟩ := pS_b hp
  exact ⟨⟨hp.1, hp.2.1, hp.2.2.1.2⟩, ⟨a1, m1⟩, ⟨a2, m2⟩, a3.trans m3.symm, ⟨a4, m4⟩, a6.trans m6.symm, ⟨a5, m5⟩, fun v v1 v2 => ⟨b v v1 v2, n v v1 v2⟩, hp.2.2.2.1, p1, p2⟩
theorem yDk_S {i : Nat} {A B : zM} {P C g : Nat} {ct z : Int32} {sn c : Nat → Nat} {h : Nat} (hk : kS i A P C g ct z sn c) (hm : mS B P C g ct z sn c) (hp : pS P C g sn c h) : yDk i A B P g sn c h := ⟨hp.2.2.1.1, fun s hs => ⟨hk.2.2 s hs, hm.2.2 s hs, hp.2.2.2.2.1 s hs⟩, hp.2.2.2.2.2.1, hp.2.2.2.2.2.2⟩
theorem S_yNm {i : Nat} {A B : zM} {P C g : Nat} {sn c : Nat → Nat} {h : Nat} (hn : yNm i A B P C g sn) (hd : yDk i A B P g sn c h) : kS i A P C g (zgI A 10 i 8) (zgI A 10 i 5) sn c ∧ mS B P C g (zgI A 10 i 8) (zgI A 10 i 5) sn c ∧ pS P C g sn c h := by
  obtain ⟨⟨hP, hC, hg⟩, n2, n3, n5, n6, n8, n7, n9, n10, n11, n12⟩ := hn
  obtain ⟨d1, d2, d3, d4⟩ := hd
  exact ⟨⟨⟨n2.1, n3.1, rfl, n6.1, n7.1, rfl⟩, fun v v1 v2 => (n9 v v1 v2).1, fun s hs => (d2 s hs).1⟩, ⟨⟨n2.2, n3.2, n5.symm, n6.2, n7.2, n8.symm⟩, fun v v1 v2 => (n9 v v1 v2).2, fun s hs => (d2 s hs).2.1⟩, hP, hC, ⟨d1, hg⟩, n10, fun s hs => (d2 s hs).2.2, d3, d4⟩
/-! what is seen -/
def ySn (sn : Nat → Nat) (v u : Nat) : Nat := if u = 0 then sn 0 + 1 else if u = v then sn u + 1 else sn u
theorem ySn_sum (sn : Nat → Nat) {v : Nat} (hv : 1 ≤ v ∧ v ≤ 10) : ysm (ySn sn v) = ysm sn + 1 := by
  unfold ysm ySn
  rcases (by omega : v = 1 ∨ v = 2 ∨ v = 3 ∨ v = 4 ∨ v = 5 ∨ v = 6 ∨ v = 7 ∨ v = 8 ∨ v = 9 ∨ v = 10) with e | e | e | e | e | e | e | e | e | e <;> rw [e] <;> simp +decide only [if_true, if_false, ↓reduceIte] <;> omega
theorem pS_open {P C g : Nat} {sn c : Nat → Nat} {h : Nat} (H : pS P C g sn c h) (hg : g < 52 * P) : pS P C (g + 1) (ySn sn (c g)) c h := by
  obtain ⟨hP, hC, hg2, h0, hc, hn, hs⟩ := H
  have hv := hc g hg
  refine ⟨hP, hC, by omega, ?_, hc, hn, fun v v1 v2 => ?_⟩
  · rw [ySn_sum sn hv]
    show sn 0 + 1 = _
    omega
  · have := hs v v1 v2
    show ySn sn (c g) v + _ + _ ≤ ycn c v g + (if c g = v then 1 else 0)
    unfold ySn
    rw [if_neg (by omega)]
    by_cases e : v = c g
    · rw [if_pos e, if_pos e.symm]
      omega
    · rw [if_neg e, if_neg (show ¬ c g = v from fun z => e z.symm)]
      omega
theorem pS_hid {P C g : Nat} {sn c : Nat → Nat} (H : pS P C g sn c 0) (hg : g < 52 * P) : pS P C (g + 1) sn c (c g) := by
  obtain ⟨hP, hC, hg2, h0, hc, hn, hs⟩ := H
  refine ⟨hP, hC, by omega, h0, hc, hn, fun v v1 v2 => ?_⟩
  have := hs v v1 v2
  rw [if_neg (show ¬ 0 = v by omega)] at this
  show sn v + _ + _ ≤ ycn c v g + (if c g = v then 1 else 0)
  omega
theorem pS_show {P C g : Nat} {sn c : Nat → Nat} {h : Nat} (H : pS P C g sn c h) (hh : 1 ≤ h ∧ h ≤ 10) : pS P C g (ySn sn h) c 0 := by
  obtain ⟨hP, hC, hg2, h0, hc, hn, hs⟩ := H
  refine ⟨hP, hC, hg2, ?_, hc, hn, fun v v1 v2 => ?_⟩
  · rw [ySn_sum sn hh]
    show sn 0 + 1 = _
    omega
  · have := hs v v1 v2
    rw [if_neg (show ¬ 0 = v by omega)]
    unfold ySn
    rw [if_neg (by omega)]
    by_cases e : v = h
    · rw [if_pos e.symm] at this
      rw [if_pos e]
      omega
    · rw [if_neg (show ¬ h = v from fun z => e z.symm)] at this
      rw [if_neg e]
      omega
/-- without what was hidden -/
theorem pS_0 {P C g : Nat} {sn c : Nat → Nat} {h : Nat} (H : pS P C g sn c h) : pS P C g sn c 0 := by
  obtain ⟨hP, hC, hg2, h0, hc, hn, hs⟩ := H
  refine ⟨hP, hC, hg2, h0, hc, hn, fun v v1 v2 => ?_⟩
  have := hs v v1 v2
  rw [if_neg (show ¬ 0 = v by omega)]
  omega
/-! the class: a card taken, a card seen -/
theorem K116 (d i : Nat) {A : zM} {P C g : Nat} {ct z : Int32} {sn c : Nat → Nat} {h : Nat} (hk : kS i A P C g ct z sn c) (hp : pS P C g sn c h) : (g < 52 * P → zgo false (d + 1) 116 0 [zr 10 i] [] A = some (some (zi (nI (c g))), zsI A 10 i 6 (nI (g + 1)))) ∧ (g = 52 * P → zgo false (d + 1) 116 0 [zr 10 i] [] A = some (some (zi 0), A)) := by
  obtain ⟨hP, hC, hg, -⟩ := hp
  obtain ⟨⟨a1, a2, a3, a4, a5, a6⟩, b, e⟩ := hk
  have e108 : zgo false d 108 0 [zr 10 i] [] A = some (some (zi (nI (52 * P))), A) := by
    rw [B108_0, a1, show (52 : Int32) = nI 52 from rfl, pk_mul, Nat.mul_comm]
  have k : zgo false (d + 1) 116 0 [zr 10 i] [] A = zgo false (d + 1) 116 8 [zr 10 i] [zi (nI (52 * P)), zi (nI g)] A := by
    rw [B116_0, e108, zbsome, a4]
    rfl
  constructor
  · intro hg2
    have g1 : zgI (zsI A 10 i 6 (nI (g + 1))) 10 i 6 = nI (g + 1) := by rw [zgI_sI, if_pos ⟨rfl, rfl, rfl⟩]
    rw [k, B116_8, if_pos (nI_lt (by omega) (by omega)), a4, nI_1, g1, show nI (g + 1) - 1 = nI g from nI_pred g, at46n _ _ _ _ _ (by omega), zbsome, zpu1, B116_36, zgI_sI, if_neg (by omega), e g hg2]
  · intro hg2
    rw [k, B116_8, if_neg (nI_nlt (by omega) (by omega))]
def kFs (i a b c : Nat) : Prop := b = i ∧ (a = 47 ∨ (a = 10 ∧ 6 ≤ c ∧ c ≤ 8))
theorem K117 (d i v : Nat) (t : Int32) (hv : 1 ≤ v ∧ v ≤ 10) {A : zM} {P C g : Nat} {ct z : Int32} {sn c : Nat → Nat} (hk : kS i A P C g ct z sn c) : ∃ A', zgo false (d + 1) 117 0 [zr 10 i, zi (nI v), zi t] [] A = some (none, A') ∧ zFo (kFs i) A A' ∧ kS i A' P C g (ct + t) z (ySn sn v) c := by
  obtain ⟨⟨a1, a2, a3, a4, a5, a6⟩, b, e⟩ := hk
  obtain ⟨A1, hA1⟩ : ∃ A1, A1 = zsI A 47 i v (nI (sn v + 1)) := ⟨_, rfl⟩
  obtain ⟨A2, hA2⟩ : ∃ A2, A2 = zsI A1 10 i 7 (nI (sn 0 + 1)) := ⟨_, rfl⟩
  obtain ⟨A3, hA3⟩ : ∃ A3, A3 = zsI A2 10 i 8 (ct + t) := ⟨_, rfl⟩
  have o1 : ∀ k s, ¬ k = 47 → zgI A1 k i s = zgI A k i s := fun k s hs => by rw [hA1, zgI_sI, if_neg (fun y => hs y.1)]
  have o2 : ∀ k s, ¬ (k = 10 ∧ s = 7) → zgI A2 k i s = zgI A1 k i s := fun k s hs => by rw [hA2, zgI_sI, if_neg (fun y => hs ⟨y.1, y.2.2⟩)]
  have o3 : ∀ k s, ¬ (k = 10 ∧ s = 8) → zgI A3 k i s = zgI A2 k i s := fun k s hs => by rw [hA3, zgI_sI, if_neg (fun y => hs ⟨y.1, y.2.2⟩)]
  refine ⟨A3, ?_, ?_, ⟨⟨?_, ?_, ?_, ?_, ?_, ?_⟩, fun u u1 u2 => ?_, fun s hs => ?_⟩⟩
  · rw [B117_0, at47n _ _ _ _ _ (by omega), zbsome]
    show zgo false (d + 1) 117 13 _ [zi (zgI A 47 i v), zi (nI v), zr 47 i] A = _
    rw [B117_13, b v hv.1 hv.2, nI_1, se47n _ _ _ _ _ _ (by omega), zbsome, zpu0, ← hA1, B117_18, o1 10 7 (by omega), a5, nI_1, ← hA2, o2 10 8 (by omega), o1 10 8 (by omega), a6, ← hA3, B117_38]
  · rw [hA3, hA2, hA1]
    exact zFo_sI (zFo_sI (zFo_sI (zFo_refl _ A) ⟨rfl, Or.inl rfl⟩) ⟨rfl, Or.inr ⟨rfl, by omega⟩⟩) ⟨rfl, Or.inr ⟨rfl, by omega⟩⟩
  · rw [o3 10 2 (by omega), o2 10 2 (by omega), o1 10 2 (by omega), a1]
  · rw [o3 10 3 (by omega), o2 10 3 (by omega), o1 10 3 (by omega), a2]
  · rw [o3 10 5 (by omega), o2 10 5 (by omega), o1 10 5 (by omega), a3]
  · rw [o3 10 6 (by omega), o2 10 6 (by omega), o1 10 6 (by omega), a4]
  · rw [o3 10 7 (by omega), hA2, zgI_sI, if_pos ⟨rfl, rfl, rfl⟩]
    rfl
  · rw [hA3, zgI_sI, if_pos ⟨rfl, rfl, rfl⟩]
  · rw [o3 47 u (by omega), o2 47 u (by omega), hA1, zgI_sI]
    unfold ySn
    rw [if_neg (show ¬ u = 0 by omega)]
    by_cases y : u = v
    · rw [if_pos ⟨rfl, rfl, y⟩, if_pos y, y]
    · rw [if_neg (fun w => y w.2.2), if_neg y]
      exact b u u1 u2
  · rw [o3 46 s (by omega), o2 46 s (by omega), o1 46 s (by omega)]
    exact e s hs
theorem K38 (d i : Nat) (o : Bool) (u2 : zV) (T : List (List yOp × List yOp)) {A : zM} {P C g : Nat} {ct z : Int32} {sn c : Nat → Nat} {h : Nat} (hk : kS i A P C g ct z sn c) (hp : pS P C g sn c h) (h14 : (zgR A 5 0 14).1 = 0) (h11 : zgR A 5 0 11 = (10, i)) (ht : ∀ v, 1 ≤ v → v ≤ 10 → zgI A 30 0 v = yTag T v) : (g < 52 * P → ∃ A', zgo false (d + 2) 38 0 [zr 5 0, zi (bI o), u2] [] A = some (some (zi (nI (c g))), A') ∧ zFo (kFs i) A A' ∧ kS i A' P C (g + 1) (if o = true then ct + yTag T (c g) else ct) z (if o = true then ySn sn (c g) else sn) c) ∧ (g = 52 * P → zgo false (d + 2) 38 0 [zr 5 0, zi (bI o), u2] [] A = some (some (zi 0), A)) := by
  obtain ⟨k1, k2⟩ := K116 d i hk hp
  have z0 : Nat.beq (zgR A 5 0 14).1 0 = true := by rw [h14]; rfl
  have z10 : (Nat.beq (zgR A 5 0 11).1 10 && true) = true := by rw [h11]; rfl
  have k42 : ∀ x A1, zgo false (d + 1) 116 0 [zr 10 i] [] A = some (some (zi x), A1) → zgo false (d + 2) 38 0 [zr 5 0, zi (bI o), u2] [] A = zgo false (d + 2) 38 42 [zr 5 0, zi (bI o), u2] [zi x] A1 := fun x A1 e => by
    rw [B38_0, z0, cond_true, z10, cond_true, show zp (zgR A 5 0 11) = zr 10 i from by rw [h11], e]
    rfl
  constructor
  · intro hg
    have hv := hp.2.2.2.2.1 g hg
    obtain ⟨A1, hA1⟩ : ∃ A1, A1 = zsI A 10 i 6 (nI (g + 1)) := ⟨_, rfl⟩
    have f1 : zFo (kFs i) A A1 := by
      rw [hA1]
      exact zFo_sI (zFo_refl _ A) ⟨rfl, Or.inr ⟨rfl, by omega⟩⟩
    have hk1 : kS i A1 P C (g + 1) ct z sn c := by
      have f : zFo (fun a b c => a = 10 ∧ b = i ∧ c = 6) A A1 := by
        rw [hA1]
        exact zFo_sI (zFo_refl _ A) ⟨rfl, rfl, rfl⟩
      obtain ⟨⟨a1, a2, a3, a4, a5, a6⟩, b, e⟩ := hk
      exact ⟨⟨((f 10 i 2 (by omega)).1).trans a1, ((f 10 i 3 (by omega)).1).trans a2, ((f 10 i 5 (by omega)).1).trans a3, by rw [hA1, zgI_sI, if_pos ⟨rfl, rfl, rfl⟩], ((f 10 i 7 (by omega)).1).trans a5, ((f 10 i 8 (by omega)).1).trans a6⟩, fun v v1 v2 => ((f 47 i v (by omega)).1).trans (b v v1 v2), fun s hs => ((f 46 i s (by omega)).1).trans (e s hs)⟩
    have e := k42 _ _ (k1 hg)
    rw [← hA1] at e
    have n0 : ¬ nI (c g) = 0 := nI_ne0 (by omega) (by omega)
    cases o with
    | false =>
      refine ⟨A1, ?_, f1, hk1⟩
      rw [e, B38_42, if_neg n0, if_pos (show bI false = 0 from rfl), B38_64]
    | true =>
      obtain ⟨A2, e2, f2, hk2⟩ := K117 d i (c g) (yTag T (c g)) hv hk1
      refine ⟨A2, ?_, zFo_trans f1 f2, hk2⟩
      have e37 : zgo false (d + 1) 37 0 [zr 5 0, zi (nI (c g))] [] A1 = some (some (zi (yTag T (c g))), A1) := by
        rw [B37_0, at30n _ _ _ _ _ (by omega), zbsome, zpu1, B37_8, (f1 30 0 _ (by unfold kFs; omega)).1, ht _ hv.1 hv.2]
      have r11 : zgR A1 5 0 11 = (10, i) := ((f1 5 0 11 (by unfold kFs; omega)).2.2).trans h11
      rw [e, B38_42, if_neg n0, if_neg (show ¬ bI true = 0 by decide), e37, zbsome, r11]
      show zgo false (d + 2) 38 61 [zr 5 0, zi (bI true), zi (nI (c g))] [zi (yTag T (c g)), zi (nI (c g)), zr 10 i] A1 = _
      rw [B38_61, e2, zbsome, zpu0, B38_64]
  · intro hg
    rw [k42 _ _ (k2 hg), B38_42, if_pos rfl, B38_64]
/-! the model: a card taken, a card seen -/
theorem K261 (d : Nat) (u1 u2 : zV) {B : zM} {P C g : Nat} {ct z : Int32} {sn c : Nat → Nat} {h : Nat} (hm : mS B P C g ct z sn c) (hp : pS P C g sn c h) (h60 : zgI B 13 0 60 = -1) : (g < 52 * P → zgo false (d + 1) 261 0 [zr 13 0, u1, u2] [] B = some (some (zi (nI (c g))), zsI B 13 0 7 (nI (g + 1)))) ∧ (g = 52 * P → zgo false (d + 1) 261 0 [zr 13 0, u1, u2] [] B = some (some (zi 0), zsI B 13 0 64 1)) := by
  obtain ⟨hP, hC, hg, -⟩ := hp
  obtain ⟨⟨a1, a2, a3, a4, a5, a6⟩, b, e⟩ := hm
  have k : zgo false (d + 1) 261 0 [zr 13 0, u1, u2] [] B = zgo false (d + 1) 261 15 [zr 13 0, u1, u2] [zi (nI (52 * P)), zi (nI g)] B := by
    rw [B261_0, h60, if_neg (by decide), B195_0, zbsome, a1, a4, show (52 : Int32) = nI 52 from rfl, pk_mul]
    rfl
  have l : nI g = nI (52 * P) ↔ g = 52 * P := nI_eq (by omega) (by omega)
  constructor
  · intro hg2
    have g1 : zgI (zsI B 13 0 7 (nI (g + 1))) 13 0 7 = nI (g + 1) := by rw [zgI_sI, if_pos ⟨rfl, rfl, rfl⟩]
    have z1 : zin (nI g) 416 = true := zin_nI (by omega) (by omega)
    have c1 : (nI g).toNatClampNeg = g := nI_clamp (by omega)
    rw [k, B261_15, if_neg (mt l.mp (by omega)), a4, nI_1, B261_35, g1, show nI (g + 1) - 1 = nI g from nI_pred g, if_pos z1, c1, zgI_sI, if_neg (by omega), e g hg2]
  · intro hg2
    rw [k, B261_15, if_pos (l.mpr hg2)]
def mFs (a b c : Nat) : Prop := b = 0 ∧ (a = 56 ∨ a = 68 ∨ a = 69 ∨ (a = 13 ∧ c = 8))
theorem K262 (d v : Nat) (hv : 1 ≤ v ∧ v ≤ 10) {T : List (List yOp × List yOp)} {B : zM} {P C g : Nat} {ct z : Int32} {sn c : Nat → Nat} (hm : mS B P C g ct z sn c) (h60 : zgI B 13 0 60 = -1) (hw : yWT T) (hT : yMt B 1 T) : ∃ B', zgo false (d + 4) 262 0 [zr 13 0, zi (nI v)] [] B = some (none, B') ∧ zFo mFs B B' ∧ mS B' P C g (ct + yTag T v) z (ySn sn v) c := by
  obtain ⟨⟨a1, a2, a3, a4, a5, a6⟩, b, e⟩ := hm
  have z0 : zin 0 11 = true := rfl
  have zv : zin (nI v) 11 = true := zin_nI (by omega) (by omega)
  have cv : (nI v).toNatClampNeg = v := nI_clamp (by omega)
  have c0 : (0 : Int32).toNatClampNeg = 0 := rfl
  obtain ⟨B1, hB1⟩ : ∃ B1, B1 = zsI B 56 0 0 (nI (sn 0 + 1)) := ⟨_, rfl⟩
  have o1 : ∀ k s, ¬ (k = 56 ∧ s = 0) → zgI B1 k 0 s = zgI B k 0 s := fun k s hs => by rw [hB1, zgI_sI, if_neg (fun y => hs ⟨y.1, y.2.2⟩)]
  obtain ⟨B2, hB2⟩ : ∃ B2, B2 = zsI B1 56 0 v (nI (sn v + 1)) := ⟨_, rfl⟩
  have o2 : ∀ k s, ¬ (k = 56 ∧ s = v) → zgI B2 k 0 s = zgI B1 k 0 s := fun k s hs => by rw [hB2, zgI_sI, if_neg (fun y => hs ⟨y.1, y.2.2⟩)]
  obtain ⟨B3, e3, f3⟩ := S229 d v T B2 hw (yMt_fr (by omega) (fun k s hs => by rw [o2 k s (by omega), o1 k s (by omega)]) hT)
  obtain ⟨B4, hB4⟩ : ∃ B4, B4 = zsI B3 13 0 8 (ct + yTag T v) := ⟨_, rfl⟩
  have o4 : ∀ k s, ¬ (k = 13 ∧ s = 8) → ¬ (k = 68 ∨ k = 69) → zgI B4 k 0 s = zgI B2 k 0 s := fun k s hs h2 => by rw [hB4, zgI_sI, if_neg (fun y => hs ⟨y.1, y.2.2⟩), (f3 k 0 s (fun y => h2 y.1)).1]
  refine ⟨B4, ?_, ?_, ⟨⟨?_, ?_, ?_, ?_, ?_, ?_⟩, fun u u1 u2 => ?_, fun s hs => ?_⟩⟩
  · rw [B262_0, h60, if_pos (by decide), if_pos z0, if_pos z0, c0, a5, nI_1, ← hB1, B262_18, if_pos zv, if_pos zv, cv, o1 56 v (by omega), b v hv.1 hv.2, nI_1, ← hB2, e3, zbsome]
    show zgo false (d + 4) 262 38 [zr 13 0, zi (nI v)] [zi (yTag T v), zi (zgI B2 13 0 8), zr 13 0] B3 = _
    rw [B262_38, o2 13 8 (by omega), o1 13 8 (by omega), a6, hB4]
  · have f : zFo mFs B B2 := by
      rw [hB2, hB1]
      exact zFo_sI (zFo_sI (zFo_refl _ B) ⟨rfl, Or.inl rfl⟩) ⟨rfl, Or.inl rfl⟩
    rw [hB4]
    exact zFo_sI (zFo_trans f (zFo_mono f3 (fun a b c y => ⟨y.2, by omega⟩))) ⟨rfl, by omega⟩
  · rw [o4 13 1 (by omega) (by omega), o2 13 1 (by omega), o1 13 1 (by omega), a1]
  · rw [o4 13 2 (by omega) (by omega), o2 13 2 (by omega), o1 13 2 (by omega), a2]
  · rw [o4 13 4 (by omega) (by omega), o2 13 4 (by omega), o1 13 4 (by omega), a3]
  · rw [o4 13 7 (by omega) (by omega), o2 13 7 (by omega), o1 13 7 (by omega), a4]
  · rw [o4 56 0 (by omega) (by omega), o2 56 0 (by omega), hB1, zgI_sI, if_pos ⟨rfl, rfl, rfl⟩]
    rfl
  · rw [hB4, zgI_sI, if_pos ⟨rfl, rfl, rfl⟩]
  · rw [o4 56 u (by omega) (by omega), hB2, zgI_sI]
    unfold ySn
    rw [if_neg (show ¬ u = 0 by omega)]
    by_cases y : u = v
    · rw [if_pos ⟨rfl, rfl, y⟩, if_pos y, y]
    · rw [if_neg (fun w => y w.2.2), if_neg y, o1 56 u (by omega)]
      exact b u u1 u2
  · rw [o4 55 s (by omega) (by omega), o2 55 s (by omega), o1 55 s (by omega)]
    exact e s hs
/-- a card kept: own and the dealer's -/
theorem K263 (d h m v : Nat) (o : Bool) {B : zM} (hh : h < 60) (hm : m < 24) (hv : v ≤ 10) (h60 : zgI B 13 0 60 = -1) (h63 : zgI B 13 0 63 = nI h) (hc : zgI B (if o = true then 92 else 94) 0 h = nI m) : zgo false d 263 0 [zr 13 0, zi (bI o), zi (nI v)] [] B = some (none, zsI (zsI B (if o = true then 91 else 93) 0 (24 * h + m) (nI v)) (if o = true then 92 else 94) 0 h (nI (m + 1))) := by
  have z60 : zin (nI h) 60 = true := zin_nI (by omega) (by omega)
  have ch : (nI h).toNatClampNeg = h := nI_clamp (by omega)
  have e1 : 24 * nI h + nI m = nI (24 * h + m) := by rw [show (24 : Int32) = nI 24 from rfl, pk_mul, nI_add]
  have z1440 : zin (nI (24 * h + m)) 1440 = true := zin_nI (by omega) (by omega)
  have cm : (nI (24 * h + m)).toNatClampNeg = 24 * h + m := nI_clamp (by omega)
  have l24 : ¬ 24 ≤ nI m := nI_ge (b := 24) (by omega) (by omega)
  have e8 : (nI v).toInt8.toInt32.toInt8.toInt32 = nI v := by rw [yByt (by omega), yByt (by omega)]
  have e9 : (nI (m + 1)).toInt8.toInt32.toInt8.toInt32 = nI (m + 1) := by rw [yByt (by omega), yByt (by omega)]
  cases o with
  | true =>
    have hc : zgI B 92 0 h = nI m := hc
    rw [B263_0, h60, if_pos (by decide), if_neg (by decide), h63, ch, if_pos z60, hc, if_neg l24, if_pos z60, e1, if_pos z1440, cm, e8, B263_50]
    have h63' : zgI (zsI B 91 0 (24 * h + m) (nI v)) 13 0 63 = nI h := by rw [zgI_sI, if_neg (by omega), h63]
    have hc' : zgI (zsI B 91 0 (24 * h + m) (nI v)) 92 0 h = nI m := by rw [zgI_sI, if_neg (by omega), hc]
    rw [h63', if_pos z60, if_pos z60, ch, hc', nI_1, e9, B263_119]
    rfl
  | false =>
    have hc : zgI B 94 0 h = nI m := hc
    rw [B263_0, h60, if_pos (by decide), if_pos (by decide), h63, ch, if_pos z60, hc, if_neg l24, if_pos z60, e1, if_pos z1440, cm, e8, B263_105]
    have h63' : zgI (zsI B 93 0 (24 * h + m) (nI v)) 13 0 63 = nI h := by rw [zgI_sI, if_neg (by omega), h63]
    have hc' : zgI (zsI B 93 0 (24 * h + m) (nI v)) 94 0 h = nI m := by rw [zgI_sI, if_neg (by omega), hc]
    rw [h63', if_pos z60, if_pos z60, ch, hc', nI_1, e9, B263_119]
    rfl
/-! from a row -/
def yRw (s : Nat) (A B : zM) : Prop := (zgI A 9 s 1 = 0 ∧ zgI B 110 0 s = -1) ∨ (zgI A 9 s 1 = 2 ∧ zgI A 9 s 2 = 0 ∧ zgI B 110 0 s = -2 ∧ zgI A 9 s 3 = zgI B 111 0 s ∧ (0 ≤ zgI B 111 0 s ∧ zgI B 111 0 s ≤ 60) ∧ ∀ i, i < 60 → zgL A 45 s i = zgL B 112 0 (60 * s + i) ∧ zlow 0 (zgL A 45 s i) = zgL A 45 s i)
theorem i64_neg (x : Int32) : x.toInt64 < 0 ↔ x < 0 := by
  rw [Int64.lt_iff_toInt_lt, Int32.lt_iff_toInt_lt, Int32.toInt_toInt64]
  rfl
theorem i64_le (x y : Int32) : x.toInt64 ≤ y.toInt64 ↔ x ≤ y := by
  rw [Int64.le_iff_toInt_le, Int32.le_iff_toInt_le, Int32.toInt_toInt64, Int32.toInt_toInt64]
theorem i64_lt (x y : Int32) : x.toInt64 < y.toInt64 ↔ x < y := by
  rw [Int64.lt_iff_toInt_lt, Int32.lt_iff_toInt_lt, Int32.toInt_toInt64, Int32.toInt_toInt64]
theorem H103 (d e s : Nat) (x : Int32) (w2 w3 u1 u2 : zV) (hs : s < 6) {A B : zM} (h : yRw s A B) (h60 : zgI B 13 0 60 = nI s) (h61 : zgI B 13 0 61 = x) : ∃ v, v ≤ 10 ∧ zgo false (d + 1) 103 0 [zr 9 s, zi x, w2, w3] [] A = some (some (zi (nI v)), A) ∧ zgo false (e + 2) 261 0 [zr 13 0, u1, u2] [] B = some (some (zi (nI v)), if v = 0 then zsI (zsI B 13 0 61 (x + 1)) 13 0 64 1 else zsI B 13 0 61 (x + 1)) := by
  have z6 : zin (nI s) 6 = true := zin_nI (by omega) (by omega)
  have c6 : (nI s).toNatClampNeg = s := nI_clamp (by omega)
  obtain ⟨B1, hB1⟩ : ∃ B1, B1 = zsI B 13 0 61 (x + 1) := ⟨_, rfl⟩
  have o1 : ∀ k t, ¬ (k = 13 ∧ t = 61) → zgI B1 k 0 t = zgI B k 0 t := fun k t ht => by rw [hB1, zgI_sI, if_neg (fun y => ht ⟨y.1, y.2.2⟩)]
  have oL : ∀ k t, zgL B1 k 0 t = zgL B k 0 t := fun k t => by rw [hB1]; rfl
  have k53 : zgo false (e + 2) 261 0 [zr 13 0, u1, u2] [] B = zgo false (e + 2) 261 53 [zr 13 0, zl x.toInt64, zu] [] B := by
    rw [B261_0, h60, if_pos (show 0 ≤ nI s from nI_le (a := 0) (by omega) (by omega)), h61]
  have out : zgo false (e + 2) 261 122 [zr 13 0, zl x.toInt64, zu] [] B1 = some (some (zi (nI 0)), if (0 : Nat) = 0 then zsI B1 13 0 64 1 else B1) := by
    rw [B261_122, if_pos rfl]
    rfl
  rw [← hB1]
  rcases h with ⟨h1, h2⟩ | ⟨h1, h2, h3, h4, h5, h6⟩
  · refine ⟨0, by omega, ?_, ?_⟩
    · rw [B103_0, S100, zbsome, h1, if_pos rfl, zpu1, B103_5, if_neg (by decide)]
      rfl
    · rw [k53, B261_53, h61, ← hB1, o1 13 60 (by omega), h60, if_pos z6, c6, o1 110 s (by omega), h2, if_pos rfl, out]
  · have n1 : ¬ zgI A 9 s 1 = 0 := by rw [h1]; decide
    have c100 : ∀ y, (if x < 0 then (-13 : Int32) else if zgI A 9 s 3 ≤ x then -13 else 0) = y → zgo false (d + 1) 103 0 [zr 9 s, zi x, w2, w3] [] A = zgo false (d + 1) 103 5 [zr 9 s, zi x, w2, w3] [zi y] A := by
      intro y hy
      rw [B103_0, S100, zbsome, if_neg n1, if_pos h1, hy]
      rfl
    have m2 : ¬ (-2 : Int32) = -1 := by decide
    by_cases b1 : x < 0
    · refine ⟨0, by omega, ?_, ?_⟩
      · rw [c100 (-13) (if_pos b1), B103_5, if_neg (by decide)]
        rfl
      · rw [k53, B261_53, h61, ← hB1, o1 13 60 (by omega), h60, if_pos z6, c6, o1 110 s (by omega), h3, if_neg m2, if_pos ((lg_cmp_lt _ _).mpr ((i64_neg x).mpr b1)), out]
    · have l1 : ¬ lg_cmp x.toInt64 0 < 0 := fun z => b1 ((i64_neg x).mp ((lg_cmp_lt _ _).mp z))
      by_cases b2 : zgI A 9 s 3 ≤ x
      · refine ⟨0, by omega, ?_, ?_⟩
        · rw [c100 (-13) (by rw [if_neg b1, if_pos b2]), B103_5, if_neg (by decide)]
          rfl
        · rw [k53, B261_53, h61, ← hB1, o1 13 60 (by omega), h60, if_pos z6, c6, o1 110 s (by omega), h3, if_neg m2, if_neg l1, if_pos z6, o1 111 s (by omega), if_pos ((lg_cmp_ge _ _).mpr ((i64_le _ _).mpr (by rw [← h4]; exact b2))), out]
      · obtain ⟨j, hj, rfl⟩ : ∃ j, j < 60 ∧ x = nI j := zin_of (zin60.mpr ⟨by grind, by grind⟩)
        obtain ⟨q1, q2⟩ := h6 j hj
        obtain ⟨t, ht⟩ : ∃ t : Int32, t = (zgL A 45 s j).toInt32.toInt8.toInt32 := ⟨_, rfl⟩
        have eq : zgL A 45 s j = t.toInt64 := by
          rw [← q2, ht]
          unfold zlow
          rw [if_pos rfl]
        have et : (t.toInt64).toInt32 = t := Int32.toInt32_toInt64 t
        have cl : zgo false (d + 1) 103 0 [zr 9 s, zi (nI j), w2, w3] [] A = zgo false (d + 1) 103 15 [zr 9 s, zi (nI j), w2, w3] [zl t.toInt64] A := by
          rw [c100 0 (by rw [if_neg b1, if_neg b2]), B103_5, if_pos rfl, S101 _ _ _ _ hj, zbsome, eq]
          rfl
        have lge : ¬ 0 ≤ lg_cmp (nI j).toInt64 (zgI B 111 0 s).toInt64 := fun z => b2 (by
          rw [h4]
          exact (i64_le _ _).mp ((lg_cmp_ge _ _).mp z))
        have e60 : 60 * nI s + (nI j).toInt64.toInt32 = nI (60 * s + j) := by rw [Int32.toInt32_toInt64, show (60 : Int32) = nI 60 from rfl, pk_mul, nI_add]
        have z360 : zin (nI (60 * s + j)) 360 = true := zin_nI (by omega) (by omega)
        have c360 : (nI (60 * s + j)).toNatClampNeg = 60 * s + j := nI_clamp (by omega)
        have ml : zgo false (e + 2) 261 0 [zr 13 0, u1, u2] [] B = zgo false (e + 2) 261 119 [zr 13 0, zl (nI j).toInt64, zu] [zi (if 1 ≤ t ∧ t ≤ 10 then 1 else 0)] B1 := by
          rw [k53, B261_53, h61, ← hB1, o1 13 60 (by omega), h60, if_pos z6, c6, o1 110 s (by omega), h3, if_neg m2, if_neg l1, if_pos z6, o1 111 s (by omega), if_neg lge, e60, if_pos z360, c360, oL, ← q1, eq, et, S_in, zbsome]
          rfl
        by_cases b3 : 1 ≤ t ∧ t ≤ 10
        · obtain ⟨v, hv, rfl⟩ : ∃ v, v < 11 ∧ t = nI v := zin_of (zin11.mpr ⟨by grind, by grind⟩)
          have v0 : ¬ v = 0 := fun z => by
            rw [z] at b3
            exact absurd b3.1 (by decide)
          refine ⟨v, by omega, ?_, ?_⟩
          · have g1 : ¬ lg_cmp (nI v).toInt64 1 < 0 := fun z => by
              have := (lg_cmp_lt _ _).mp z
              have := (i64_lt (nI v) 1).mp this
              grind
            have g2 : ¬ 0 < lg_cmp (nI v).toInt64 10 := fun z => by
              have := (lg_cmp_gt _ _).mp z
              have := (i64_lt 10 (nI v)).mp this
              grind
            rw [cl, B103_15, if_neg g1, if_neg g2, B103_36, et]
          · rw [ml, if_pos b3, B261_119, if_neg (by decide), o1 13 60 (by omega), h60, e60, if_pos z360, c360, oL, ← q1, eq, et, if_neg v0]
        · refine ⟨0, by omega, ?_, ?_⟩
          · by_cases b4 : t < 1
            · rw [cl, B103_15, if_pos (show lg_cmp t.toInt64 1 < 0 from (lg_cmp_lt _ _).mpr ((i64_lt t 1).mpr b4)), B103_35, B103_36]
              rfl
            · have g1 : ¬ lg_cmp t.toInt64 1 < 0 := fun z => b4 ((i64_lt t 1).mp ((lg_cmp_lt _ _).mp z))
              rw [cl, B103_15, if_neg g1, if_pos (show 0 < lg_cmp t.toInt64 10 from (lg_cmp_gt _ _).mpr ((i64_lt 10 t).mpr (by grind))), B103_35, B103_36]
              rfl
          · rw [ml, if_neg b3, B261_119, if_pos rfl, out]
