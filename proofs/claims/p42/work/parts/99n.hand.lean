/-! ===== a whole hand, side by side ===== -/
def hCl (F : Nat → Nat → Nat → Prop) (D : Nat) (tn : Bool) (A A' : zM) (x : Int32) : Prop := (zgo false D 41 0 [zr 5 0] [] A = some (some (zi 0), A') ∧ x = 0) ∨ ∃ A1, zFo F A A1 ∧ zgo false D 41 0 [zr 5 0] [] A = some (some (zi 1), A1) ∧ ((zgo false D 42 0 [zr 5 0, zi (bI tn), zu, zu] [] A1 = some (some (zi 0), A') ∧ x = 0) ∨ ∃ A2, zgo false D 42 0 [zr 5 0, zi (bI tn), zu, zu] [] A1 = some (some (zi 1), A2) ∧ zgo false D 44 0 [zr 5 0, zu] [] A2 = some (some (zi x), A'))
theorem K42 (d di s m ds dm : Nat) (a da tn : Bool) (hs : s ≤ 30) (hm : m ≤ 30) (hds : ds ≤ 30) (hdm : dm ≤ 30) {A : zM} (r13 : zgR A 5 0 13 = (4, di)) (h7 : zgI A 4 di 7 = nI (oHd s a)) (h5 : zgI A 4 di 5 = nI m) (h8 : zgI A 4 di 8 = nI (oHd ds da)) (h6 : zgI A 4 di 6 = nI dm) : ((m = 2 ∧ oTt s a = 21) ∨ (dm = 2 ∧ oTt ds da = 21) → zgo false (d + 2) 42 0 [zr 5 0, zi (bI tn), zu, zu] [] A = some (some (zi 1), A)) ∧ (¬ ((m = 2 ∧ oTt s a = 21) ∨ (dm = 2 ∧ oTt ds da = 21)) → zgo false (d + 2) 42 0 [zr 5 0, zi (bI tn), zu, zu] [] A = zgo false (d + 2) 42 24 [zr 5 0, zi (bI tn), zi (nI 0), zu] [] A) := by
  have z4 : (Nat.beq (zgR A 5 0 13).1 4 && true) = true := by rw [r13]; rfl
  have e4 : zp (zgR A 5 0 13) = zr 4 di := by rw [r13]
  have k : zgo false (d + 2) 42 0 [zr 5 0, zi (bI tn), zu, zu] [] A = zgo false (d + 2) 42 7 [zr 5 0, zi (bI tn), zu, zu] [zi (bI (decide (m = 2 ∧ oTt s a = 21)))] A := by
    rw [B42_0, z4, cond_true, e4, K25 d di s m a hs hm h7 h5, zbsome, zpu1]
  rw [k, B42_7, z4, cond_true, e4, K26 d di ds dm da hds hdm h8 h6, zbsome, zpu1, B42_17, B42_20]
  by_cases c1 : m = 2 ∧ oTt s a = 21
  · rw [decide_eq_true c1, if_neg (show ¬ bI true = 0 by decide)]
    exact ⟨fun _ => rfl, fun w => absurd (Or.inl c1) w⟩
  · rw [decide_eq_false c1, if_pos (show bI false = 0 from rfl)]
    by_cases c2 : dm = 2 ∧ oTt ds da = 21
    · rw [decide_eq_true c2, if_neg (show ¬ bI true = 0 by decide)]
      exact ⟨fun _ => rfl, fun w => absurd (Or.inr c2) w⟩
    · rw [decide_eq_false c2, if_pos (show bI false = 0 from rfl)]
      exact ⟨fun w => absurd w (fun y => y.elim c1 c2), fun _ => rfl⟩
theorem K44 (d di s m ds dm : Nat) (a da : Bool) (hs : s ≤ 30) (hm : m ≤ 30) (hds : ds ≤ 30) (hdm : dm ≤ 30) {A : zM} (r13 : zgR A 5 0 13 = (4, di)) (h7 : zgI A 4 di 7 = nI (oHd s a)) (h5 : zgI A 4 di 5 = nI m) (h8 : zgI A 4 di 8 = nI (oHd ds da)) (h6 : zgI A 4 di 6 = nI dm) : ((m = 2 ∧ oTt s a = 21) ∨ (dm = 2 ∧ oTt ds da = 21) ∨ 21 < oTt s a → zgo false (d + 2) 44 0 [zr 5 0, zu] [] A = some (some (zi 1), A)) ∧ (¬ ((m = 2 ∧ oTt s a = 21) ∨ (dm = 2 ∧ oTt ds da = 21) ∨ 21 < oTt s a) → zgo false (d + 2) 44 0 [zr 5 0, zu] [] A = zgo false (d + 2) 44 34 [zr 5 0, zi (nI 0)] [] A) := by
  have z4 : (Nat.beq (zgR A 5 0 13).1 4 && true) = true := by rw [r13]; rfl
  have e4 : zp (zgR A 5 0 13) = zr 4 di := by rw [r13]
  have k : zgo false (d + 2) 44 0 [zr 5 0, zu] [] A = zgo false (d + 2) 44 7 [zr 5 0, zu] [zi (bI (decide (m = 2 ∧ oTt s a = 21)))] A := by
    rw [B44_0, z4, cond_true, e4, K25 d di s m a hs hm h7 h5, zbsome, zpu1]
  rw [k, B44_7, z4, cond_true, e4, K26 d di ds dm da hds hdm h8 h6, zbsome, zpu1, B44_17, z4, cond_true, e4, K27 d di s a hs h7, zbsome, zpu1, B44_27, B44_30]
  by_cases c1 : m = 2 ∧ oTt s a = 21
  · rw [decide_eq_true c1, if_neg (show ¬ bI true = 0 by decide)]
    exact ⟨fun _ => rfl, fun w => absurd (Or.inl c1) w⟩
  · rw [decide_eq_false c1, if_pos (show bI false = 0 from rfl)]
    by_cases c2 : dm = 2 ∧ oTt ds da = 21
    · rw [decide_eq_true c2, if_neg (show ¬ bI true = 0 by decide)]
      exact ⟨fun _ => rfl, fun w => absurd (Or.inr (Or.inl c2)) w⟩
    · rw [decide_eq_false c2, if_pos (show bI false = 0 from rfl)]
      by_cases c3 : 21 < oTt s a
      · rw [decide_eq_true c3, if_neg (show ¬ bI true = 0 by decide)]
        exact ⟨fun _ => rfl, fun w => absurd (Or.inr (Or.inr c3)) w⟩
      · rw [decide_eq_false c3, if_pos (show bI false = 0 from rfl)]
        exact ⟨fun w => absurd w (fun y => y.elim c1 (fun y => y.elim c2 c3)), fun _ => rfl⟩
theorem gA12 {r i di a b c : Nat} (H : gA1 r i di a b c ∨ gA2 r i di a b c) : gA r i di a b c := H.elim gA1_A gA2_A
/-- what is to be said of a hand when it is over -/
def hEnd (d r i bi di p h : Nat) (tn : Bool) (T : Nat → List (List yOp × List yOp)) (q lf : Nat → Nat) (P C : Nat) (z : Int32) (c : Nat → Nat) (A B : zM) : Prop :=
  ∃ (A' B' : zM) (s m ds dm n dv : Nat) (a da : Bool) (S : Nat → Nat) (Aa : Nat → Bool) (pl : Nat → Nat), zFo (gA r i di) A A' ∧ zFo (gB r h) B B' ∧ hOw r di h s a m A' B' ∧ (s ≤ 30 ∧ m ≤ 20) ∧ hDl r di h ds da dm A' B' ∧ (ds ≤ 30 ∧ dm ≤ 20) ∧ hPl r di dv lf q n S Aa pl A' B' ∧ n ≤ 20 ∧ (0 < n → zgI A' 25 di 0 = nI dv ∧ 1 ≤ dv ∧ dv ≤ 10) ∧
  ((hCl (gA r i di) (d + 31) tn A A' 0 ∧ zgo false (d + 31) 268 0 [zr 13 0, zu, zu, zu, zu, zu, zu, zu, zu, zu] [] B = some (some (zi 0), B') ∧ zgI B' 13 0 64 = 1 ∧ (r = 0 → ∃ hid, zSo r i P C z c hid A' B')) ∨
  (∃ (dbl : Bool) (hid : Nat), hCl (gA r i di) (d + 31) tn A A' 1 ∧ zgo false (d + 31) 268 0 [zr 13 0, zu, zu, zu, zu, zu, zu, zu, zu, zu] [] B = some (some (zi (yI (yOc (q 1) s a m ds da dm dbl))), B') ∧ zgI B' 13 0 64 = 0 ∧ zgI A' 4 di 17 = bI dbl ∧ (1 ≤ hid ∧ hid ≤ 10) ∧ zgI A' 25 di 1 = nI hid ∧ (r = 0 → ∃ g ct sn, kS i A' P C g ct z sn c ∧ mS B' P C g (ct + yTag (T 1) hid) z (ySn sn hid) c ∧ pS P C g sn c hid)))
/-- after the first four cards -/
theorem H4 (d r i bi di p h : Nat) (tn : Bool) {T : Nat → List (List yOp × List yOp)} {q lf : Nat → Nat} {kd P C dv hv s ds : Nat} {a da : Bool} {z : Int32} {c : Nat → Nat} {A0 B0 A B : zM} {v7 v8 v9 : zV} (hd : 1 ≤ dv ∧ dv ≤ 10) (hh : 1 ≤ hv ∧ hv ≤ 10) (f : zFo (gA r i di) A0 A) (g : zFo (gB r h) B0 B) (c41 : zgo false (d + 31) 41 0 [zr 5 0] [] A0 = some (some (zi 1), A)) (m93 : zgo false (d + 31) 268 0 [zr 13 0, zu, zu, zu, zu, zu, zu, zu, zu, zu] [] B0 = zgo false (d + 31) 268 93 [zr 13 0, zi (nI dv), zi (nI hv), zu, zu, zu, zu, zu, zu, zu] [] B) (hx : yCx r i bi di p h T q kd A B) (hs : zSo r i P C z c hv A B) (ho : hOw r di h s a 2 A B) (hi : hI s a 2) (hs1 : 1 ≤ s ∧ s ≤ 20) (hdl : hDl r di h ds da 2 A B) (hi2 : hI ds da 2) (eds : ds = dv + hv) (eda : da = (Nat.beq dv 1 || Nat.beq hv 1)) (hl : hLf r h lf B) (h25 : zgI A 25 di 0 = nI dv) (h25b : zgI A 25 di 1 = nI hv) (S : Nat → Nat) (Aa : Nat → Bool) (pl : Nat → Nat) (hp : hPl r di dv lf q 0 S Aa pl A B) (h64 : zgI B 13 0 64 = 0) (h70 : zgI B 13 0 70 = bI tn) (h17 : zgI A 4 di 17 = 0) : hEnd d r i bi di p h tn T q lf P C z c A0 B0 := by
  have hx' := hx
  obtain ⟨⟨r11, r12, r13, r14⟩, ⟨m60, m62, m63⟩, ⟨hr6, hp10, hh60⟩, htx, htg, ⟨hq, hq2⟩, k1, k2, k3⟩ := hx
  have hds : ds ≤ 20 := by omega
  have ht := oTt_40 (s := s) (a := a) (by omega)
  have hdt := oTt_40 (s := ds) (a := da) (by omega)
  have l21 : nI (oTt s a) = 21 ↔ oTt s a = 21 := nI_eq (b := 21) (by omega) (by omega)
  have ld21 : nI (oTt ds da) = 21 ↔ oTt ds da = 21 := nI_eq (b := 21) (by omega) (by omega)
  have lv1 : nI dv = 1 ↔ dv = 1 := nI_eq (b := 1) (by omega) (by omega)
  have lh1 : nI hv = 1 ↔ hv = 1 := nI_eq (b := 1) (by omega) (by omega)
  have esum : nI dv + nI hv = nI ds := by rw [nI_add, eds]
  have bt : ∀ n : Nat, ¬ n = 1 → Nat.beq n 1 = false := fun n hn => by
    cases hb : Nat.beq n 1 with
    | false => rfl
    | true => exact absurd (Nat.eq_of_beq_eq_true hb) hn
  -- the model up to 146
  have m133 : ∀ x3, zgo false (d + 31) 268 114 [zr 13 0, zi (nI dv), zi (nI hv), zu, zu, zu, zu, zu, zu, zu] [zi x3] B = zgo false (d + 31) 268 133 [zr 13 0, zi (nI dv), zi (nI hv), zi x3, zu, zu, zu, zu, zu, zu] [zi (bI da), zi (nI ds)] B := by
    intro x3
    rw [B268_114, esum]
    by_cases c1 : dv = 1
    · rw [if_pos (lv1.mpr c1), B268_128, eda, c1]; rfl
    · rw [if_neg (mt lv1.mp c1)]
      by_cases c2 : hv = 1
      · rw [if_pos (lh1.mpr c2), B268_128, eda, bt dv c1, c2]; rfl
      · rw [if_neg (mt lh1.mp c2), eda, bt dv c1, bt hv c2]; rfl
  have m146 : zgo false (d + 31) 268 93 [zr 13 0, zi (nI dv), zi (nI hv), zu, zu, zu, zu, zu, zu, zu] [] B = zgo false (d + 31) 268 146 [zr 13 0, zi (nI dv), zi (nI hv), zi (bI (decide (oTt s a = 21))), zu, zu, zu, zu, zu, zu] [zi (bI (decide (oTt ds da = 21)))] B := by
    have k1 : zgo false (d + 31) 268 93 [zr 13 0, zi (nI dv), zi (nI hv), zu, zu, zu, zu, zu, zu, zu] [] B = zgo false (d + 31) 268 114 [zr 13 0, zi (nI dv), zi (nI hv), zu, zu, zu, zu, zu, zu, zu] [zi (bI (decide (oTt s a = 21)))] B := by
      rw [B268_93, ho.2.1.1, ho.2.1.2.1, S240 _ _ _ _ (by omega), zbsome, zpu1, B268_104]
      by_cases c1 : oTt s a = 21
      · rw [if_pos (l21.mpr c1), decide_eq_true c1]; rfl
      · rw [if_neg (mt l21.mp c1), decide_eq_false c1]; rfl
    rw [k1, m133, B268_133, S240 _ _ _ _ (by omega), zbsome, zpu1, B268_136]
    by_cases c1 : oTt ds da = 21
    · rw [if_pos (ld21.mpr c1), decide_eq_true c1]; rfl
    · rw [if_neg (mt ld21.mp c1), decide_eq_false c1]; rfl
  obtain ⟨p42a, p42b⟩ := K42 (d + 29) di s 2 ds 2 a da tn (by omega) (by omega) (by omega) (by omega) r13 ho.1.1 ho.1.2 hdl.1.1 hdl.1.2
  obtain ⟨p44a, p44b⟩ := K44 (d + 29) di s 2 ds 2 a da (by omega) (by omega) (by omega) (by omega) r13 ho.1.1 ho.1.2 hdl.1.1 hdl.1.2
  by_cases nat : oTt s a = 21 ∨ oTt ds da = 21
  · -- a natural
    have nat' : ((2 : Nat) = 2 ∧ oTt s a = 21) ∨ ((2 : Nat) = 2 ∧ oTt ds da = 21) := nat.elim (fun w => Or.inl ⟨rfl, w⟩) (fun w => Or.inr ⟨rfl, w⟩)
    have c42 := p42a nat'
    have c44 := p44a (nat'.elim Or.inl (fun w => Or.inr (Or.inl w)))
    obtain ⟨B', w1, w2, w3⟩ := X5 (d + 25) r i bi di p h hx' hs hh
    have w1 : zgo false (d + 30) 262 0 [zr 13 0, zi (nI hv)] [] B = some (none, B') := w1
    have gB' : zFo (gB r h) B B' := zFo_mono w2 (fun x y w hw => by unfold mFs at hw; unfold gB; omega)
    have o' : hOw r di h s a 2 A B' := hOw_fr ho (zFo_refl (fun _ _ _ => False) A) w2 id id (fun _ => id) (by unfold mFs; omega) (by unfold mFs; omega) (by unfold mFs; omega) (by unfold mFs; omega) (fun s => by unfold mFs; omega)
    have d' : hDl r di h ds da 2 A B' := hDl_fr hdl (zFo_refl (fun _ _ _ => False) A) w2 id id (fun _ => id) (by unfold mFs; omega) (fun s => by unfold mFs; omega)
    have p' : hPl r di dv lf q 0 S Aa pl A B' := hPl_fr hp (zFo_refl (fun _ _ _ => False) A) w2 id (fun _ _ _ => id) (by unfold mFs; omega) (by unfold mFs; omega)
    refine ⟨A, B', s, 2, ds, 2, 0, dv, a, da, S, Aa, pl, f, zFo_trans g gB', o', ⟨by omega, by omega⟩, d', ⟨by omega, by omega⟩, p', by omega, fun w => absurd w (by omega), Or.inr ⟨false, hv, Or.inr ⟨A, f, c41, Or.inr ⟨A, c42, c44⟩⟩, ?_, ?_, h17, hh, h25b, w3⟩⟩
    · have z1 : zin 1 4 = true := rfl
      have e57 : zgI B' 57 0 (1 : Int32).toNatClampNeg = nI (q 1) := ((w2 57 0 1 (by unfold mFs; omega)).1).trans (hq 1 (by omega)).2
      have k157 : zgo false (d + 31) 268 146 [zr 13 0, zi (nI dv), zi (nI hv), zi (bI (decide (oTt s a = 21))), zu, zu, zu, zu, zu, zu] [zi (bI (decide (oTt ds da = 21)))] B = zgo false (d + 31) 268 157 [zr 13 0, zi (nI dv), zi (nI hv), zi (bI (decide (oTt s a = 21))), zi (bI (decide (oTt ds da = 21))), zu, zu, zu, zu, zu] [] B := by
        rw [B268_146]
        by_cases c1 : oTt s a = 21
        · rw [decide_eq_true c1, if_neg (show ¬ bI true = 0 by decide)]
        · have c2 : oTt ds da = 21 := nat.resolve_left c1
          rw [decide_eq_false c1, decide_eq_true c2, if_pos (show bI false = 0 from rfl), if_neg (show ¬ bI true = 0 by decide)]
      rw [m93, m146, k157, B268_157, w1, zbsome, zpu0, B268_162, B268_175, e57, if_pos z1, B268_190, B268_190, B268_190]
      unfold yOc
      rw [if_pos nat']
      by_cases c1 : oTt s a = 21
      · rw [decide_eq_true c1, if_neg (show ¬ bI true = 0 by decide), if_neg (show ¬ bI true = 0 by decide)]
        by_cases c2 : oTt ds da = 21
        · rw [decide_eq_true c2, if_neg (show ¬ bI true = 0 by decide), if_pos (show ((2 : Nat) = 2 ∧ oTt s a = 21) ∧ ((2 : Nat) = 2 ∧ oTt ds da = 21) from ⟨⟨rfl, c1⟩, ⟨rfl, c2⟩⟩)]
          rfl
        · rw [decide_eq_false c2, if_pos (show bI false = 0 from rfl), if_neg (show ¬ (((2 : Nat) = 2 ∧ oTt s a = 21) ∧ ((2 : Nat) = 2 ∧ oTt ds da = 21)) from fun w => c2 w.2.2), if_pos (show (2 : Nat) = 2 ∧ oTt s a = 21 from ⟨rfl, c1⟩)]
          rfl
      · rw [decide_eq_false c1, if_pos (show bI false = 0 from rfl), if_pos (show bI false = 0 from rfl), if_neg (show ¬ (((2 : Nat) = 2 ∧ oTt s a = 21) ∧ ((2 : Nat) = 2 ∧ oTt ds da = 21)) from fun w => c1 w.1.2), if_neg (show ¬ ((2 : Nat) = 2 ∧ oTt s a = 21) from fun w => c1 w.2)]
        rfl
    · rw [(w2 13 0 64 (by unfold mFs; omega)).1]; exact h64
  · have n1 : ¬ oTt s a = 21 := fun w => nat (Or.inl w)
    have n2 : ¬ oTt ds da = 21 := fun w => nat (Or.inr w)
    have nat' : ¬ (((2 : Nat) = 2 ∧ oTt s a = 21) ∨ ((2 : Nat) = 2 ∧ oTt ds da = 21)) := fun w => w.elim (fun y => n1 y.2) (fun y => n2 y.2)
    have c42 := p42b nat'
    have m194 : zgo false (d + 31) 268 0 [zr 13 0, zu, zu, zu, zu, zu, zu, zu, zu, zu] [] B0 = zgo false (d + 31) 268 194 [zr 13 0, zi (nI dv), zi (nI hv), zi 0, zi 0, zi 1, zu, zu, zu, zu] [] B := by
      rw [m93, m146, B268_146, decide_eq_false n1, decide_eq_false n2, if_pos (show bI false = 0 from rfl), if_pos (show bI false = 0 from rfl)]
      rfl
    obtain ⟨A5, B5, n', s', m', a', S', Aa', pl', f5, g5, o5, b5, bm5, p5, n5, t5, d5, hL⟩ := L42 (d + 1) r i bi di p h (T := T) (q := q) (lf := lf) (kd := kd) (P := P) (C := C) (dv := dv) (ds := ds) (dm := 2) (z := z) (c := c) (hid := hv) (da := da) tn (nI hv) 0 0 hd 21 0 s a A B S Aa pl zu zu zu zu zu (by omega) hx' hs ho hi (by omega) hs1.1 (by omega) hl h25 hp h64 h70 h17 hdl
    have fA5 : zFo (gA r i di) A0 A5 := zFo_trans f f5
    have gB5 : zFo (gB r h) B0 B5 := zFo_trans g g5
    have q25 : 0 < n' → zgI A5 25 di 0 = nI dv ∧ 1 ≤ dv ∧ dv ≤ 10 := fun _ => ⟨(t5 0).trans h25, hd⟩
    rcases hL with ⟨y1, y2, y3, y4⟩ | ⟨dbl, w6, y1, y2, y3, y4, y5⟩
    · exact ⟨A5, B5, s', m', ds, 2, n', dv, a', da, S', Aa', pl', fA5, gB5, o5, ⟨b5.2, bm5.2.1⟩, d5, ⟨by omega, by omega⟩, p5, n5, q25, Or.inl ⟨Or.inr ⟨A, f, c41, Or.inl ⟨c42.trans y1, rfl⟩⟩, m194.trans y2, y3, fun r0 => ⟨hv, y4 r0⟩⟩⟩
    · have c42 := c42.trans y1
      have m272 := m194.trans y2
      have hx5 := yCx_fr hx' f5 g5
      have hx5' := hx5
      obtain ⟨⟨-, -, s13, -⟩, -, -, -, -, ⟨hq5, -⟩, -⟩ := hx5
      have ht5 := oTt_40 (s := s') (a := a') b5.2
      have nn : ¬ (m' = 2 ∧ oTt s' a' = 21) := fun w => by
        obtain ⟨e1, e2⟩ := bm5.2.2 w.1
        rw [e1, e2] at w
        exact n1 w.2
      have nd : ¬ ((2 : Nat) = 2 ∧ oTt ds da = 21) := fun w => n2 w.2
      obtain ⟨q44a, q44b⟩ := K44 (d + 29) di s' m' ds 2 a' da b5.2 (by omega) (by omega) (by omega) s13 o5.1.1 o5.1.2 d5.1.1 d5.1.2
      have l21b : nI (oTt s' a') ≤ 21 ↔ oTt s' a' ≤ 21 := nI_leI (b := 21) (by omega) (by omega)
      have ytm : ∀ k : Int, yI (k * (if dbl = true then 2 else 1)) = yI k * (if dbl = true then 2 else 1) := fun k => by
        cases dbl with
        | true => rw [if_pos rfl, if_pos rfl, ← yI_mul]; rfl
        | false => rw [if_neg (by decide), if_neg (by decide), ← yI_mul]; rfl
      have k283 : zgo false (d + 31) 268 272 [zr 13 0, zi (nI dv), zi (nI hv), zi 0, zi 0, zi (if dbl = true then 2 else 1), w6, zu, zu, zu] [] B5 = zgo false (d + 31) 268 283 [zr 13 0, zi (nI dv), zi (nI hv), zi 0, zi 0, zi (if dbl = true then 2 else 1), w6, zu, zu, zu] [zi (nI (oTt s' a'))] B5 := by
        rw [B268_272, o5.2.1.1, o5.2.1.2.1, S240 _ _ _ _ (by omega), zbsome, zpu1]
      have m283 := m272.trans k283
      by_cases ab : 21 < oTt s' a'
      · -- above
        have c44 := q44a (Or.inr (Or.inr ab))
        obtain ⟨B', w1, w2, w3⟩ := X5 (d + 25) r i bi di p h hx5' y4 hh
        have w1 : zgo false (d + 30) 262 0 [zr 13 0, zi (nI hv)] [] B5 = some (none, B') := w1
        have gB' : zFo (gB r h) B5 B' := zFo_mono w2 (fun x y w hw => by unfold mFs at hw; unfold gB; omega)
        have o' : hOw r di h s' a' m' A5 B' := hOw_fr o5 (zFo_refl (fun _ _ _ => False) A5) w2 id id (fun _ => id) (by unfold mFs; omega) (by unfold mFs; omega) (by unfold mFs; omega) (by unfold mFs; omega) (fun s => by unfold mFs; omega)
        have d' : hDl r di h ds da 2 A5 B' := hDl_fr d5 (zFo_refl (fun _ _ _ => False) A5) w2 id id (fun _ => id) (by unfold mFs; omega) (fun s => by unfold mFs; omega)
        have p' : hPl r di dv lf q n' S' Aa' pl' A5 B' := hPl_fr p5 (zFo_refl (fun _ _ _ => False) A5) w2 id (fun _ _ _ => id) (by unfold mFs; omega) (by unfold mFs; omega)
        refine ⟨A5, B', s', m', ds, 2, n', dv, a', da, S', Aa', pl', fA5, zFo_trans gB5 gB', o', ⟨b5.2, bm5.2.1⟩, d', ⟨by omega, by omega⟩, p', n5, q25, Or.inr ⟨dbl, hv, Or.inr ⟨A, f, c41, Or.inr ⟨A5, c42, c44⟩⟩, ?_, ?_, y3, hh, (t5 1).trans h25b, w3⟩⟩
        · have eo : yOc (q 1) s' a' m' ds da 2 dbl = -100 * (if dbl = true then 2 else 1) := by
            unfold yOc
            rw [if_neg (show ¬ ((m' = 2 ∧ oTt s' a' = 21) ∨ ((2 : Nat) = 2 ∧ oTt ds da = 21)) from fun w => w.elim nn nd), if_pos ab]
          rw [eo, ytm, m283, B268_283, if_neg (mt l21b.mp (by omega)), w1, zbsome, zpu0, B268_297]
          rfl
        · rw [(w2 13 0 64 (by unfold mFs; omega)).1]; exact y5
      · have c44 := q44b (fun w => w.elim nn (fun w => w.elim nd ab))
        have k325 : zgo false (d + 31) 268 283 [zr 13 0, zi (nI dv), zi (nI hv), zi 0, zi 0, zi (if dbl = true then 2 else 1), w6, zu, zu, zu] [zi (nI (oTt s' a'))] B5 = zgo false (d + 31) 268 325 [zr 13 0, zi (nI dv), zi (nI hv), zi 0, zi 0, zi (if dbl = true then 2 else 1), zi (nI (oTt s' a')), zi (nI ds), zi (bI da), zu] [] B5 := by
          rw [B268_283, if_pos (l21b.mpr (by omega)), esum]
          by_cases c1 : dv = 1
          · rw [if_pos (lv1.mpr c1), B268_318, B268_323, eda, c1]; rfl
          · rw [if_neg (mt lv1.mp c1)]
            by_cases c2 : hv = 1
            · rw [if_pos (lh1.mpr c2), B268_318, B268_323, eda, bt dv c1, c2]; rfl
            · rw [if_neg (mt lh1.mp c2), B268_323, eda, bt dv c1, bt hv c2]; rfl
        have m325 := m283.trans k325
        obtain ⟨A6, B6, ds', dm', da', f6, g6, d6, b6, bm6, t6, o6, hL⟩ := L44 (d + 1) r i bi di p h (T := T) (q := q) (kd := kd) (P := P) (C := C) (os := s') (om := m') (z := z) (c := c) (hid := hv) (oa := a') (nI dv) (nI hv) 0 0 (if dbl = true then 2 else 1) (nI (oTt s' a')) 21 0 ds da A5 B5 zu (by omega) hx5' y4 d5 hi2 (by omega) (by omega) (by omega) y5 o5
        have fA6 : zFo (gA r i di) A0 A6 := zFo_trans fA5 (zFo_mono f6 (fun x y w hw => gA2_A hw))
        have gB6 : zFo (gB r h) B0 B6 := zFo_trans gB5 (zFo_mono g6 (fun x y w hw => gB2_B hw))
        have p6 : hPl r di dv lf q n' S' Aa' pl' A6 B6 := hPl_fr p5 f6 g6 (by unfold gA2; omega) (fun k s hk => by unfold gA2; omega) (by unfold gB2; omega) (by unfold gB2; omega)
        have q25b : 0 < n' → zgI A6 25 di 0 = nI dv ∧ 1 ≤ dv ∧ dv ≤ 10 := fun _ => ⟨(t6 0 (by omega)).trans ((t5 0).trans h25), hd⟩
        rcases hL with ⟨z1, z2, z3, z4⟩ | ⟨w9, z1, z2, z3, z4⟩
        · exact ⟨A6, B6, s', m', ds', dm', n', dv, a', da', S', Aa', pl', fA6, gB6, o6, ⟨b5.2, bm5.2.1⟩, d6, ⟨b6.2, bm6.2.1⟩, p6, n5, q25b, Or.inl ⟨Or.inr ⟨A, f, c41, Or.inr ⟨A5, c42, c44.trans z1⟩⟩, m325.trans z2, z3, fun r0 => ⟨hv, z4 r0⟩⟩⟩
        · have hx6 := yCx_fr hx5' (zFo_mono f6 (fun x y w hw => gA2_A hw)) (zFo_mono g6 (fun x y w hw => gB2_B hw))
          obtain ⟨B', w1, w2, w3⟩ := X5 (d + 25) r i bi di p h hx6 z3 hh
          have w1 : zgo false (d + 30) 262 0 [zr 13 0, zi (nI hv)] [] B6 = some (none, B') := w1
          have gB' : zFo (gB r h) B6 B' := zFo_mono w2 (fun x y w hw => by unfold mFs at hw; unfold gB; omega)
          have o' : hOw r di h s' a' m' A6 B' := hOw_fr o6 (zFo_refl (fun _ _ _ => False) A6) w2 id id (fun _ => id) (by unfold mFs; omega) (by unfold mFs; omega) (by unfold mFs; omega) (by unfold mFs; omega) (fun s => by unfold mFs; omega)
          have d' : hDl r di h ds' da' dm' A6 B' := hDl_fr d6 (zFo_refl (fun _ _ _ => False) A6) w2 id id (fun _ => id) (by unfold mFs; omega) (fun s => by unfold mFs; omega)
          have p' : hPl r di dv lf q n' S' Aa' pl' A6 B' := hPl_fr p6 (zFo_refl (fun _ _ _ => False) A6) w2 id (fun _ _ _ => id) (by unfold mFs; omega) (by unfold mFs; omega)
          have nd6 : ¬ (dm' = 2 ∧ oTt ds' da' = 21) := fun w => by
            obtain ⟨e1, e2⟩ := bm6.2.2 w.1
            rw [e1, e2] at w
            exact n2 w.2
          have hdt6 := oTt_40 (s := ds') (a := da') b6.2
          have l2 : 21 < nI (oTt ds' da') ↔ 21 < oTt ds' da' := nI_ltI (a := 21) (by omega) (by omega)
          have l3 : nI (oTt s' a') ≤ nI (oTt ds' da') ↔ oTt s' a' ≤ oTt ds' da' := nI_leI (by omega) (by omega)
          have l4 : nI (oTt ds' da') = nI (oTt s' a') ↔ oTt ds' da' = oTt s' a' := nI_eq (by omega) (by omega)
          refine ⟨A6, B', s', m', ds', dm', n', dv, a', da', S', Aa', pl', fA6, zFo_trans gB6 gB', o', ⟨b5.2, bm5.2.1⟩, d', ⟨b6.2, bm6.2.1⟩, p', n5, q25b, Or.inr ⟨dbl, hv, Or.inr ⟨A, f, c41, Or.inr ⟨A5, c42, c44.trans z1⟩⟩, ?_, ?_, ?_, hh, ?_, w3⟩⟩
          · have eo : yOc (q 1) s' a' m' ds' da' dm' dbl = if 21 < oTt ds' da' ∨ oTt ds' da' < oTt s' a' then 100 * (if dbl = true then 2 else 1) else if oTt ds' da' = oTt s' a' then 0 else -100 * (if dbl = true then 2 else 1) := by
              unfold yOc
              rw [if_neg (show ¬ ((m' = 2 ∧ oTt s' a' = 21) ∨ (dm' = 2 ∧ oTt ds' da' = 21)) from fun w => w.elim nn nd6), if_neg ab]
            rw [eo, m325, z2, B268_333, if_pos rfl, w1, zbsome, zpu0, B268_397, S240 _ _ _ _ (by omega), zbsome, zpu1, B268_404]
            by_cases d2 : 21 < oTt ds' da'
            · rw [if_pos (l2.mpr d2), B268_420, B268_444, if_pos (Or.inl d2), ytm]
              rfl
            · rw [if_neg (mt l2.mp d2)]
              by_cases d3 : oTt s' a' ≤ oTt ds' da'
              · rw [if_pos (l3.mpr d3)]
                by_cases d4 : oTt ds' da' = oTt s' a'
                · rw [if_pos (l4.mpr d4), B268_444, if_neg (show ¬ (21 < oTt ds' da' ∨ oTt ds' da' < oTt s' a') by omega), if_pos d4]
                  rfl
                · rw [if_neg (mt l4.mp d4), B268_444, if_neg (show ¬ (21 < oTt ds' da' ∨ oTt ds' da' < oTt s' a') by omega), if_neg d4, ytm]
                  rfl
              · rw [if_neg (mt l3.mp d3), B268_420, B268_444, if_pos (show 21 < oTt ds' da' ∨ oTt ds' da' < oTt s' a' by omega), ytm]
                rfl
          · rw [(w2 13 0 64 (by unfold mFs; omega)).1]; exact z4
          · rw [(f6 4 di 17 (by unfold gA2; omega)).1]; exact y3
          · exact (t6 1 (by omega)).trans ((t5 1).trans h25b)
