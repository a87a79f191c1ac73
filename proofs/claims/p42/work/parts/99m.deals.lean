/-! ===== the dealer's draws, and what a hand brings ===== -/
theorem K59 (d s : Nat) (a : Bool) (q : Nat → Nat) (u2 u3 : zV) (M : zM) (hs : s ≤ 31) (hR : (∀ w, w < 4 → zgI M 29 0 w = nI (q w)) ∧ (q 0 ≤ 1 ∧ 100 ≤ q 1 ∧ q 1 ≤ 200 ∧ q 2 ≤ 1 ∧ 15 ≤ q 3 ∧ q 3 ≤ 19)) : zgo false (d + 1) 59 0 [zi (nI (oHd s a)), zr 29 0, u2, u3] [] M = some (some (zi (if oDw q s a = true then 1 else 0)), M) := by
  obtain ⟨r, r0, -, -, -, -, r3⟩ := hR
  have e3 : ∀ d, zgo false d 169 0 [zr 29 0, zi 3] [] M = some (some (zi (nI (q 3))), M) := fun d => (at29n false d 0 3 M (by omega)).trans (by rw [r 3 (by omega)])
  have e0 : ∀ d, zgo false d 169 0 [zr 29 0, zi 0] [] M = some (some (zi (nI (q 0))), M) := fun d => (at29n false d 0 0 M (by omega)).trans (by rw [r 0 (by omega)])
  have t : oTt s a ≤ 41 := by
    unfold oTt
    by_cases c : a = true ∧ s ≤ 11
    · rw [if_pos c]; omega
    · rw [if_neg c]; omega
  have l1 : nI (oTt s a) < nI (q 3) ↔ oTt s a < q 3 := nI_ltI (by omega) (by omega)
  have l2 : nI (oTt s a) = nI (q 3) ↔ oTt s a = q 3 := nI_eq (by omega) (by omega)
  have l3 : nI (q 0) = 1 ↔ q 0 = 1 := nI_eq (b := 1) (by omega) (by omega)
  have l4 : nI (oHd s a) < 1000 ↔ ¬ (a = true ∧ s ≤ 11) := by
    unfold oHd
    by_cases c : a = true ∧ s ≤ 11
    · rw [if_pos c]
      exact ⟨fun q => absurd q (nI_nlt (b := 1000) (by omega) (by omega)), fun q => absurd c q⟩
    · rw [if_neg c]
      exact ⟨fun _ => c, fun _ => nI_lt (b := 1000) (by omega) (by omega)⟩
  have k0 : zgo false (d + 1) 59 0 [zi (nI (oHd s a)), zr 29 0, u2, u3] [] M = zgo false (d + 1) 59 10 [zi (nI (oHd s a)), zr 29 0, zi (nI (oTt s a)), u3] [zi (nI (q 3))] M := by
    rw [B59_0, S173y _ _ _ _ _ (by omega), zbsome, zpu1, B59_4, e3, zbsome, zpu1]
  have one : ∀ x2 x3, zgo false (d + 1) 59 37 [zi (nI (oHd s a)), zr 29 0, zi x2, zi x3] [] M = some (some (zi 1), M) := fun x2 x3 => by
    rw [B59_37, B59_42]
    rfl
  have non : ∀ x2 x3, zgo false (d + 1) 59 41 [zi (nI (oHd s a)), zr 29 0, zi x2, zi x3] [] M = some (some (zi 0), M) := fun x2 x3 => by
    rw [B59_41, B59_42]
    rfl
  rw [k0, B59_10]
  by_cases h1 : oTt s a < q 3
  · rw [if_pos (oDw_iff.mpr (Or.inl h1)), if_pos (l1.mpr h1), one]
  rw [if_neg (mt l1.mp h1)]
  by_cases h2 : oTt s a = q 3
  · rw [if_pos (l2.mpr h2)]
    by_cases h3 : a = true ∧ s ≤ 11
    · rw [if_neg (fun z => (l4.mp z) h3), e0, zbsome, zpu1, B59_33]
      by_cases h4 : q 0 = 1
      · rw [if_pos (oDw_iff.mpr (Or.inr ⟨h2, h3, h4⟩)), if_pos (l3.mpr h4), one]
      · rw [if_neg (fun z => (oDw_iff.mp z).elim h1 (fun z => h4 z.2.2)), if_neg (mt l3.mp h4), non]
    · rw [if_neg (fun z => (oDw_iff.mp z).elim h1 (fun z => h3 z.2.1)), if_pos (l4.mpr h3), non]
  · rw [if_neg (fun z => (oDw_iff.mp z).elim h1 (fun z => h2 z.1)), if_neg (mt l2.mp h2), non]
/-- the hidden card shown by the model -/
theorem X5 (d r i bi di p h : Nat) {T : Nat → List (List yOp × List yOp)} {q : Nat → Nat} {kd P C : Nat} {z : Int32} {c : Nat → Nat} {hid : Nat} {A B : zM} (hx : yCx r i bi di p h T q kd A B) (hs : zSo r i P C z c hid A B) (hh : 1 ≤ hid ∧ hid ≤ 10) : ∃ B', zgo false (d + 5) 262 0 [zr 13 0, zi (nI hid)] [] B = some (none, B') ∧ zFo (fun x y w => r = 0 ∧ mFs x y w) B B' ∧ (r = 0 → ∃ g ct sn, kS i A P C g ct z sn c ∧ mS B' P C g (ct + yTag (T 1) hid) z (ySn sn hid) c ∧ pS P C g sn c hid) := by
  have hx' := hx
  obtain ⟨⟨r11, r12, r13, r14⟩, ⟨m60, m62, m63⟩, ⟨hr6, hp, -⟩, ht, hv, -, -⟩ := hx
  rcases hs with ⟨r0, g, ct, sn, e1, e2, e3⟩ | ⟨r0, -⟩
  · obtain ⟨n14, n60⟩ := yCx_14 hx' r0
    have t1 := ht 1 (by omega)
    obtain ⟨B', w, f, m⟩ := K262 (d + 1) hid hh (T := T 1) e2 n60 t1.1 t1.2.2.2
    exact ⟨B', w, zFo_mono f (fun x y w hw => ⟨r0, hw⟩), fun _ => ⟨g, ct, sn, e1, m, e3⟩⟩
  · refine ⟨B, ?_, zFo_refl _ B, fun w => absurd w r0⟩
    have n60 : zgI B 13 0 60 = nI (r - 1) := by rw [m60, if_neg r0]
    rw [B262_0, n60, if_neg (show ¬ nI (r - 1) < 0 from nI_nlt (b := 0) (by omega) (by omega))]
theorem oDw_lt {q : Nat → Nat} {s : Nat} {a : Bool} (h3 : q 3 ≤ 19) (h : oDw q s a = true) : oTt s a ≤ 19 := by
  unfold oDw at h
  have := of_decide_eq_true h
  omega
theorem oTt_20 {s : Nat} {a : Bool} (h : oTt s a ≤ 20) : s ≤ 20 ∧ ¬ (a = true ∧ s = 11) := by
  unfold oTt at h
  by_cases y : a = true ∧ s ≤ 11
  · rw [if_pos y] at h
    exact ⟨by omega, fun w => by omega⟩
  · rw [if_neg y] at h
    exact ⟨h, fun w => y ⟨w.1, by omega⟩⟩
theorem bI0 (b : Bool) : bI b = 0 ↔ ¬ b = true := by
  cases b with
  | false => exact ⟨fun _ z => (by cases z), fun _ => rfl⟩
  | true => exact ⟨fun z => absurd z (by decide), fun z => absurd rfl z⟩
theorem L44 (d r i bi di p h : Nat) {T : Nat → List (List yOp × List yOp)} {q : Nat → Nat} {kd P C os om : Nat} {z : Int32} {c : Nat → Nat} {hid : Nat} {oa : Bool} (x1 x2 x3 x4 x5 x6 : Int32) : ∀ (f n ds : Nat) (da : Bool) (A B : zM) (u9 : zV), 21 ≤ ds + f → yCx r i bi di p h T q kd A B → zSo r i P C z c hid A B → hDl r di h ds da (n + 2) A B → hI ds da (n + 2) → n ≤ 18 → 1 ≤ ds → ds ≤ 30 → zgI B 13 0 64 = 0 → hOw r di h os oa om A B →
  ∃ (A' B' : zM) (ds' dm' : Nat) (da' : Bool), zFo (gA2 r i di) A A' ∧ zFo (gB2 r h) B B' ∧ hDl r di h ds' da' dm' A' B' ∧ (1 ≤ ds' ∧ ds' ≤ 30) ∧ (n + 2 ≤ dm' ∧ dm' ≤ 20 ∧ (dm' = n + 2 → ds' = ds ∧ da' = da)) ∧ (∀ t, t < n + 2 → zgI A' 25 di t = zgI A 25 di t) ∧ hOw r di h os oa om A' B' ∧
  ((zgo false (d + 30) 44 34 [zr 5 0, zi (nI n)] [] A = some (some (zi 0), A') ∧ zgo false (d + 30) 268 325 [zr 13 0, zi x1, zi x2, zi x3, zi x4, zi x5, zi x6, zi (nI ds), zi (bI da), u9] [] B = some (some (zi 0), B') ∧ zgI B' 13 0 64 = 1 ∧ (r = 0 → zSo r i P C z c hid A' B')) ∨
  (∃ (w9 : zV), zgo false (d + 30) 44 34 [zr 5 0, zi (nI n)] [] A = some (some (zi 1), A') ∧ zgo false (d + 30) 268 325 [zr 13 0, zi x1, zi x2, zi x3, zi x4, zi x5, zi x6, zi (nI ds), zi (bI da), u9] [] B = zgo false (d + 30) 268 333 [zr 13 0, zi x1, zi x2, zi x3, zi x4, zi x5, zi x6, zi (nI ds'), zi (bI da'), w9] [zi 0] B' ∧ zSo r i P C z c hid A' B' ∧ zgI B' 13 0 64 = 0)) := by
  intro f
  induction f with
  | zero =>
    intro n ds da A B u9 hf hx hs hdl hi hn hs1 hs30 h64 ho
    obtain ⟨⟨r11, r12, r13, r14⟩, -, -, -, -, ⟨hq, hq2⟩, -⟩ := hx
    have hnd : ¬ oDw q ds da = true := fun y => by
      have := oTt_20 (s := ds) (a := da) (by have := oDw_lt hq2.2.2.2.2.2 y; omega)
      omega
    have hbi : bI (oDw q ds da) = 0 := (bI0 _).mpr hnd
    have z4 : Nat.beq (zgR A 5 0 13).1 4 = true := by rw [r13]; rfl
    have e8 : zgI A 4 (zgR A 5 0 13).2 8 = nI (oHd ds da) := by rw [r13]; exact hdl.1.1
    refine ⟨A, B, ds, n + 2, da, zFo_refl _ A, zFo_refl _ B, hdl, ⟨hs1, hs30⟩, ⟨Nat.le_refl _, by omega, fun _ => ⟨rfl, rfl⟩⟩, fun _ _ => rfl, ho, Or.inr ⟨u9, ?_, ?_, hs, h64⟩⟩
    · have e59 : zgo false (d + 29) 59 0 [zi (nI (oHd ds da)), zr 29 0, zu, zu] [] A = _ := K59 (d + 28) ds da q zu zu A (by omega) ⟨fun w hw => (hq w hw).1, hq2⟩
      rw [B44_34, if_neg (show ¬ 40 ≤ nI n from nI_ge (b := 40) (by omega) (by omega)), z4, cond_true, e8, e59, zbsome, zpu1, if_neg hnd, B44_54, if_pos rfl, B44_73]
    · have e242 : zgo false (d + 29) 242 0 [zr 13 0, zi (nI ds), zi (bI da), zu] [] B = _ := S242 (d + 28) ds da q zu B (by omega) ⟨fun w hw => (hq w hw).2, hq2⟩
      rw [B268_325, e242, zbsome, zpu1, hbi]
  | succ f ih =>
    intro n ds da A B u9 hf hx hs hdl hi hn hs1 hs30 h64 ho
    have hx' := hx
    obtain ⟨⟨r11, r12, r13, r14⟩, -, -, -, -, ⟨hq, hq2⟩, -⟩ := hx
    have z4 : Nat.beq (zgR A 5 0 13).1 4 = true := by rw [r13]; rfl
    have e8 : zgI A 4 (zgR A 5 0 13).2 8 = nI (oHd ds da) := by rw [r13]; exact hdl.1.1
    have e59 : zgo false (d + 29) 59 0 [zi (nI (oHd ds da)), zr 29 0, zu, zu] [] A = _ := K59 (d + 28) ds da q zu zu A (by omega) ⟨fun w hw => (hq w hw).1, hq2⟩
    have e242 : zgo false (d + 29) 242 0 [zr 13 0, zi (nI ds), zi (bI da), zu] [] B = _ := S242 (d + 28) ds da q zu B (by omega) ⟨fun w hw => (hq w hw).2, hq2⟩
    have l40 : ¬ 40 ≤ nI n := nI_ge (b := 40) (by omega) (by omega)
    by_cases hnd : oDw q ds da = true
    · have hbi : bI (oDw q ds da) = 1 := by rw [hnd]; rfl
      obtain ⟨hs20, hna⟩ := oTt_20 (s := ds) (a := da) (by have := oDw_lt hq2.2.2.2.2.2 hnd; omega)
      have hm20 := (hI_next (v := 1) hi hs20 hna ⟨by omega, by omega⟩).2
      have ca : ∀ x A', zgo false (d + 29) 40 0 [zr 5 0, zi 1, zu] [] A = some (some (zi x), A') → zgo false (d + 30) 44 34 [zr 5 0, zi (nI n)] [] A = if x = 0 then some (some (zi 0), A') else zgo false (d + 30) 44 34 [zr 5 0, zi (nI (n + 1))] [] A' := fun x A' e => by
        rw [B44_34, if_neg l40, z4, cond_true, e8, e59, zbsome, zpu1, if_pos hnd, B44_54, if_neg (by decide), e, zbsome, zpu1, B44_62, nI_1]
      have mo : zgo false (d + 30) 268 325 [zr 13 0, zi x1, zi x2, zi x3, zi x4, zi x5, zi x6, zi (nI ds), zi (bI da), u9] [] B = ((zgo false (d + 29) 261 0 [zr 13 0, zu, zu] [] B).bind fun q => zgo false (d + 30) 268 340 [zr 13 0, zi x1, zi x2, zi x3, zi x4, zi x5, zi x6, zi (nI ds), zi (bI da), u9] (zpush q.1 []) q.2) := by
        rw [B268_325, e242, zbsome, zpu1, hbi, B268_333, if_neg (by decide)]
      rcases X2 (d + 23) r i bi di p h true zu hx' hs hdl hi hs20 hna (fun y => by cases y) h64 with ⟨v, A1, B1, B2, B3, hv1, y1, y2, y3, y4, y5, -, y7, y8, y9, y10, y11, y12, y13, y14, y15⟩ | ⟨A1, B1, y1, y2, y3, y4, y5, y6, y7, y8⟩
      · have y1 : zgo false (d + 29) 40 0 [zr 5 0, zi 1, zu] [] A = some (some (zi 1), A1) := y1
        have y2 : zgo false (d + 29) 261 0 [zr 13 0, zu, zu] [] B = some (some (zi (nI v)), B1) := y2
        have y4 : zgo false (d + 29) 263 0 [zr 13 0, zi 0, zi (nI v)] [] B1 = some (none, B2) := y4
        have y5 : zgo false (d + 29) 262 0 [zr 13 0, zi (nI v)] [] B2 = some (none, B3) := y5 rfl
        have e64 : zgI B1 13 0 64 = 0 := y3
        have ca := ca _ _ y1
        rw [if_neg (show ¬ (1 : Int32) = 0 by decide)] at ca
        have lv : nI v = 1 ↔ v = 1 := nI_eq (b := 1) (by omega) (by omega)
        have k364 : zgo false (d + 30) 268 364 [zr 13 0, zi x1, zi x2, zi x3, zi x4, zi x5, zi x6, zi (nI ds), zi (bI da), zi (nI v)] [] B3 = zgo false (d + 30) 268 325 [zr 13 0, zi x1, zi x2, zi x3, zi x4, zi x5, zi x6, zi (nI (ds + v)), zi (bI (oA da v)), zi (nI v)] [] B3 := by
          rw [B268_364, nI_add]
          cases da with
          | true => rw [if_neg (show ¬ bI true = 0 by decide), B268_382, B268_387]; rfl
          | false =>
            rw [if_pos (show bI false = 0 from rfl)]
            by_cases c : v = 1
            · rw [if_pos (lv.mpr c), B268_382, B268_387, c]; rfl
            · have e : oA false v = false := by
                show (false || Nat.beq v 1) = false
                cases hb : Nat.beq v 1 with
                | false => rfl
                | true => exact absurd (Nat.eq_of_beq_eq_true hb) c
              rw [if_neg (mt lv.mp c), B268_387, e]; rfl
        have mo : zgo false (d + 30) 268 325 [zr 13 0, zi x1, zi x2, zi x3, zi x4, zi x5, zi x6, zi (nI ds), zi (bI da), u9] [] B = zgo false (d + 30) 268 325 [zr 13 0, zi x1, zi x2, zi x3, zi x4, zi x5, zi x6, zi (nI (ds + v)), zi (bI (oA da v)), zi (nI v)] [] B3 := by
          rw [mo, y2, zbsome, zpu1, B268_340, if_pos e64, y4, zbsome, zpu0, B268_358, y5, zbsome, zpu0, k364]
        have ho3 : hOw r di h os oa om A1 B3 := hOw_fr ho y7 y8 (by unfold gA2; omega) (by unfold gA2; omega) (fun s => by unfold gA2; omega) (by unfold gB2; omega) (by unfold gB2; omega) (by unfold gB2; omega) (by unfold gB2; omega) (fun s => by unfold gB2; omega)
        obtain ⟨A', B', ds', dm', da', q1, q2, q3, q4, q5, q6, q7, q8⟩ := ih (n + 1) (ds + v) (oA da v) A1 B3 (zi (nI v)) (by omega) (yCx_fr hx' (zFo_mono y7 (fun a b c w => gA2_A w)) (zFo_mono y8 (fun a b c w => gB2_B w))) y9 y10 y11 (by omega) (by omega) (by omega) y12 ho3
        refine ⟨A', B', ds', dm', da', zFo_trans y7 q1, zFo_trans y8 q2, q3, q4, ⟨by have := q5.1; omega, q5.2.1, fun w => absurd w (by have := q5.1; omega)⟩, fun t ht => (q6 t (by omega)).trans (y14 t ht), q7, ?_⟩
        rcases q8 with ⟨w1, w2, w3⟩ | ⟨w9, w1, w2, w3⟩
        · exact Or.inl ⟨ca.trans w1, mo.trans w2, w3⟩
        · exact Or.inr ⟨w9, ca.trans w1, mo.trans w2, w3⟩
      · have y1 : zgo false (d + 29) 40 0 [zr 5 0, zi 1, zu] [] A = some (some (zi 0), A1) := y1
        have y2 : zgo false (d + 29) 261 0 [zr 13 0, zu, zu] [] B = some (some (zi 0), B1) := y2
        have ca := ca _ _ y1
        rw [if_pos rfl] at ca
        have mo : zgo false (d + 30) 268 325 [zr 13 0, zi x1, zi x2, zi x3, zi x4, zi x5, zi x6, zi (nI ds), zi (bI da), u9] [] B = some (some (zi 0), B1) := by
          rw [mo, y2, zbsome, zpu1, B268_340, if_neg (by rw [y3]; decide)]
        exact ⟨A1, B1, ds, n + 2, da, y4, y5, y7, ⟨hs1, hs30⟩, ⟨Nat.le_refl _, by omega, fun _ => ⟨rfl, rfl⟩⟩, fun t _ => y8 t, hOw_fr ho y4 y5 (by unfold gA2; omega) (by unfold gA2; omega) (fun s => by unfold gA2; omega) (by unfold gB2; omega) (by unfold gB2; omega) (by unfold gB2; omega) (by unfold gB2; omega) (fun s => by unfold gB2; omega), Or.inl ⟨ca, mo, y3, y6⟩⟩
    · have hbi : bI (oDw q ds da) = 0 := (bI0 _).mpr hnd
      refine ⟨A, B, ds, n + 2, da, zFo_refl _ A, zFo_refl _ B, hdl, ⟨hs1, hs30⟩, ⟨Nat.le_refl _, by omega, fun _ => ⟨rfl, rfl⟩⟩, fun _ _ => rfl, ho, Or.inr ⟨u9, ?_, ?_, hs, h64⟩⟩
      · rw [B44_34, if_neg l40, z4, cond_true, e8, e59, zbsome, zpu1, if_neg hnd, B44_54, if_pos rfl, B44_73]
      · rw [B268_325, e242, zbsome, zpu1, hbi]
/-! what a hand brings -/
def yOc (q1 s : Nat) (a : Bool) (m ds : Nat) (da : Bool) (dm : Nat) (dbl : Bool) : Int := if (m = 2 ∧ oTt s a = 21) ∨ (dm = 2 ∧ oTt ds da = 21) then (if (m = 2 ∧ oTt s a = 21) ∧ (dm = 2 ∧ oTt ds da = 21) then 0 else if m = 2 ∧ oTt s a = 21 then (q1 : Int) else -100) else if 21 < oTt s a then -100 * (if dbl = true then 2 else 1) else if 21 < oTt ds da ∨ oTt ds da < oTt s a then 100 * (if dbl = true then 2 else 1) else if oTt ds da = oTt s a then 0 else -100 * (if dbl = true then 2 else 1)
theorem oTt_40 {s : Nat} {a : Bool} (h : s ≤ 30) : oTt s a ≤ 40 := by
  unfold oTt
  by_cases y : a = true ∧ s ≤ 11
  · rw [if_pos y]; omega
  · rw [if_neg y]; omega
theorem K25 (d di s m : Nat) (a : Bool) (hs : s ≤ 30) (hm : m ≤ 30) {A : zM} (h7 : zgI A 4 di 7 = nI (oHd s a)) (h5 : zgI A 4 di 5 = nI m) : zgo false (d + 1) 25 0 [zr 4 di] [] A = some (some (zi (bI (decide (m = 2 ∧ oTt s a = 21)))), A) := by
  have l2 : nI m = 2 ↔ m = 2 := nI_eq (b := 2) (by omega) (by omega)
  have ht := oTt_40 (a := a) hs
  have l21 : nI (oTt s a) = 21 ↔ oTt s a = 21 := nI_eq (b := 21) (by omega) (by omega)
  rw [B25_0, h5, h7]
  by_cases c : m = 2
  · rw [if_pos (l2.mpr c), S173y _ _ _ _ _ (by omega), zbsome, zpu1, B25_15]
    by_cases c2 : oTt s a = 21
    · rw [if_pos (l21.mpr c2), B25_25, decide_eq_true (show m = 2 ∧ oTt s a = 21 from ⟨c, c2⟩)]; rfl
    · rw [if_neg (mt l21.mp c2), B25_24, B25_25, decide_eq_false (show ¬ (m = 2 ∧ oTt s a = 21) from fun w => c2 w.2)]; rfl
  · rw [if_neg (mt l2.mp c), B25_24, B25_25, decide_eq_false (show ¬ (m = 2 ∧ oTt s a = 21) from fun w => c w.1)]; rfl
theorem K26 (d di s m : Nat) (a : Bool) (hs : s ≤ 30) (hm : m ≤ 30) {A : zM} (h8 : zgI A 4 di 8 = nI (oHd s a)) (h6 : zgI A 4 di 6 = nI m) : zgo false (d + 1) 26 0 [zr 4 di] [] A = some (some (zi (bI (decide (m = 2 ∧ oTt s a = 21)))), A) := by
  have l2 : nI m = 2 ↔ m = 2 := nI_eq (b := 2) (by omega) (by omega)
  have ht := oTt_40 (a := a) hs
  have l21 : nI (oTt s a) = 21 ↔ oTt s a = 21 := nI_eq (b := 21) (by omega) (by omega)
  rw [B26_0, h6, h8]
  by_cases c : m = 2
  · rw [if_pos (l2.mpr c), S173y _ _ _ _ _ (by omega), zbsome, zpu1, B26_15]
    by_cases c2 : oTt s a = 21
    · rw [if_pos (l21.mpr c2), B26_25, decide_eq_true (show m = 2 ∧ oTt s a = 21 from ⟨c, c2⟩)]; rfl
    · rw [if_neg (mt l21.mp c2), B26_24, B26_25, decide_eq_false (show ¬ (m = 2 ∧ oTt s a = 21) from fun w => c2 w.2)]; rfl
  · rw [if_neg (mt l2.mp c), B26_24, B26_25, decide_eq_false (show ¬ (m = 2 ∧ oTt s a = 21) from fun w => c w.1)]; rfl
theorem K27 (d di s : Nat) (a : Bool) (hs : s ≤ 30) {A : zM} (h7 : zgI A 4 di 7 = nI (oHd s a)) : zgo false (d + 1) 27 0 [zr 4 di] [] A = some (some (zi (bI (decide (21 < oTt s a)))), A) := by
  have ht := oTt_40 (a := a) hs
  have l21 : nI (oTt s a) ≤ 21 ↔ oTt s a ≤ 21 := nI_leI (b := 21) (by omega) (by omega)
  rw [B27_0, h7, S173y _ _ _ _ _ (by omega), zbsome, zpu1, B27_7]
  by_cases c : oTt s a ≤ 21
  · rw [if_pos (l21.mpr c), B27_17, decide_eq_false (show ¬ 21 < oTt s a by omega)]; rfl
  · rw [if_neg (mt l21.mp c), B27_17, decide_eq_true (show 21 < oTt s a by omega)]; rfl
theorem K28 (d di q1 s m ds dm : Nat) (a da dbl : Bool) (b : Int32) (u2 u3 u4 u5 u6 : zV) (hs : s ≤ 30) (hm : m ≤ 30) (hds : ds ≤ 30) (hdm : dm ≤ 30) {A : zM} (h7 : zgI A 4 di 7 = nI (oHd s a)) (h5 : zgI A 4 di 5 = nI m) (h8 : zgI A 4 di 8 = nI (oHd ds da)) (h6 : zgI A 4 di 6 = nI dm) (h9 : zgI A 4 di 9 = b) (h17 : zgI A 4 di 17 = bI dbl) : zgo false (d + 2) 28 0 [zr 4 di, zi (nI q1), u2, u3, u4, u5, u6] [] A = some (some (zi (yI (yOc q1 s a m ds da dm dbl) * b)), A) := by
  have ht := oTt_40 (a := a) hs
  have hdt := oTt_40 (a := da) hds
  have y0 : yI 0 = 0 := rfl
  have y1 : yI (-100) = -100 := rfl
  have yq : yI (q1 : Int) = nI q1 := rfl
  have k9 : zgo false (d + 2) 28 0 [zr 4 di, zi (nI q1), u2, u3, u4, u5, u6] [] A = zgo false (d + 2) 28 9 [zr 4 di, zi (nI q1), zi (bI (decide (m = 2 ∧ oTt s a = 21))), u3, u4, u5, u6] [zi (bI (decide (dm = 2 ∧ oTt ds da = 21)))] A := by
    rw [B28_0, K25 d di s m a hs hm h7 h5, zbsome, zpu1, B28_4, K26 d di ds dm da hds hdm h8 h6, zbsome, zpu1]
  rw [k9, B28_9]
  unfold yOc
  by_cases c1 : m = 2 ∧ oTt s a = 21
  · rw [decide_eq_true c1, if_neg (show ¬ bI true = 0 by decide), B28_18, if_pos (Or.inl c1)]
    by_cases c2 : dm = 2 ∧ oTt ds da = 21
    · rw [decide_eq_true c2, if_pos rfl, B28_48, if_pos ⟨c1, c2⟩, y0, Int32.zero_mul]
    · rw [decide_eq_false c2, if_neg (show ¬ bI true = bI false by decide), if_neg (show ¬ bI true = 0 by decide), B28_48, if_neg (fun w => c2 w.2), if_pos c1, yq, h9, Int32.mul_comm]
  · rw [decide_eq_false c1, if_pos (show bI false = 0 from rfl)]
    by_cases c2 : dm = 2 ∧ oTt ds da = 21
    · rw [decide_eq_true c2, if_neg (show ¬ bI true = 0 by decide), B28_18, if_neg (show ¬ bI false = bI true by decide), if_pos (show bI false = 0 from rfl), B28_48, if_pos (Or.inr c2), if_neg (fun w => c1 w.1), if_neg c1, h9, y1]
      have e : (-b) * 100 = -100 * b := by grind
      rw [e]
    · rw [decide_eq_false c2, if_pos (show bI false = 0 from rfl), if_neg (show ¬ ((m = 2 ∧ oTt s a = 21) ∨ (dm = 2 ∧ oTt ds da = 21)) from fun w => w.elim c1 c2), h17, h9]
      have l1 : nI (oTt s a) ≤ 21 ↔ oTt s a ≤ 21 := nI_leI (b := 21) (by omega) (by omega)
      have l2 : 21 < nI (oTt ds da) ↔ 21 < oTt ds da := nI_ltI (a := 21) (by omega) (by omega)
      have l3 : nI (oTt s a) ≤ nI (oTt ds da) ↔ oTt s a ≤ oTt ds da := nI_leI (by omega) (by omega)
      have l4 : nI (oTt ds da) = nI (oTt s a) ↔ oTt ds da = oTt s a := nI_eq (by omega) (by omega)
      have fin : ∀ (k : Int32) (t : Int), yI (100 * t) = k → yI (-100 * t) = -k → zgo false (d + 2) 28 68 [zr 4 di, zi (nI q1), zi (bI false), zi (bI false), u4, u5, u6] [zi k, zi b] A = some (some (zi (yI (if 21 < oTt s a then -100 * t else if 21 < oTt ds da ∨ oTt ds da < oTt s a then 100 * t else if oTt ds da = oTt s a then 0 else -100 * t) * b)), A) := by
        intro k t hk hk2
        rw [B28_68, h7, S173y _ _ _ _ _ (by omega), zbsome, zpu1, B28_78, h8, S173y _ _ _ _ _ (by omega), zbsome, zpu1, B28_87]
        have en : -(b * k) = -k * b := by grind
        have ep : b * k = k * b := Int32.mul_comm _ _
        by_cases d1 : oTt s a ≤ 21
        · rw [if_pos (l1.mpr d1), if_neg (show ¬ 21 < oTt s a by omega)]
          by_cases d2 : 21 < oTt ds da
          · rw [if_pos (l2.mpr d2), B28_114, if_pos (Or.inl d2), hk, ep]
          · rw [if_neg (mt l2.mp d2)]
            by_cases d3 : oTt s a ≤ oTt ds da
            · rw [if_pos (l3.mpr d3), if_neg (show ¬ (21 < oTt ds da ∨ oTt ds da < oTt s a) by omega)]
              by_cases d4 : oTt ds da = oTt s a
              · rw [if_pos (l4.mpr d4), B28_131, if_pos d4, y0, Int32.zero_mul]
              · rw [if_neg (mt l4.mp d4), B28_131, if_neg d4, hk2, en]
            · rw [if_neg (mt l3.mp d3), B28_114, if_pos (show 21 < oTt ds da ∨ oTt ds da < oTt s a by omega), hk, ep]
        · rw [if_neg (mt l1.mp d1), if_pos (show 21 < oTt s a by omega), hk2, en]
      cases dbl with
      | false =>
        rw [if_pos (show bI false = 0 from rfl), if_neg (show ¬ false = true by decide)]
        exact fin 100 1 rfl rfl
      | true =>
        rw [if_neg (show ¬ bI true = 0 by decide), if_pos rfl]
        exact fin 200 2 rfl rfl
