/-! ===== a hand, side by side: r is 0 for the shoe, else the shelf's number and 1 ===== -/
def yCx (r i bi di p h : Nat) (T : Nat → List (List yOp × List yOp)) (q : Nat → Nat) (kd : Nat) (A B : zM) : Prop :=
  (zgR A 5 0 11 = (10, i) ∧ zgR A 5 0 12 = (2, bi) ∧ zgR A 5 0 13 = (4, di) ∧ zgR A 5 0 14 = if r = 0 then (0, 0) else (9, r - 1)) ∧
  (zgI B 13 0 60 = (if r = 0 then -1 else nI (r - 1)) ∧ zgI B 13 0 62 = nI p ∧ (r = 0 → zgI B 13 0 63 = nI h)) ∧ (r ≤ 6 ∧ p < 10 ∧ h < 60) ∧
  (∀ u, u < 4 → yTxt A B u (T u)) ∧ (∀ v, 1 ≤ v → v ≤ 10 → zgI A 30 0 v = yTag (T 1) v) ∧
  ((∀ w, w < 4 → zgI A 29 0 w = nI (q w) ∧ zgI B 57 0 w = nI (q w)) ∧ (q 0 ≤ 1 ∧ 100 ≤ q 1 ∧ q 1 ≤ 200 ∧ q 2 ≤ 1 ∧ 15 ≤ q 3 ∧ q 3 ≤ 19)) ∧
  (zgI A 2 bi 0 = nI kd ∧ zgI B 70 0 p = nI kd ∧ kd ≤ 7)
def gA (r i di a b c : Nat) : Prop := (r = 0 ∧ b = i ∧ (a = 47 ∨ (a = 10 ∧ 6 ≤ c ∧ c ≤ 8))) ∨ (b = di ∧ ((a = 4 ∧ ((5 ≤ c ∧ c ≤ 8) ∨ c = 11 ∨ c = 17)) ∨ (24 ≤ a ∧ a ≤ 27))) ∨ (b = 0 ∧ (a = 31 ∨ (a = 5 ∧ c = 15))) ∨ a = 49 ∨ (a = 11 ∧ c = 3)
def gB (r h a b c : Nat) : Prop := b = 0 ∧ (a = 68 ∨ a = 69 ∨ (a = 13 ∧ (c = 61 ∨ (64 ≤ c ∧ c ≤ 69))) ∨ (r = 0 ∧ (a = 56 ∨ (76 ≤ a ∧ a ≤ 81) ∨ (a = 13 ∧ (c = 7 ∨ c = 8)) ∨ ((a = 91 ∨ a = 93) ∧ 24 * h ≤ c ∧ c < 24 * h + 24) ∨ ((a = 92 ∨ a = 94) ∧ c = h))))
theorem yCx_fr {r i bi di p h : Nat} {T : Nat → List (List yOp × List yOp)} {q : Nat → Nat} {kd : Nat} {A B A' B' : zM} (H : yCx r i bi di p h T q kd A B) (f : zFo (gA r i di) A A') (g : zFo (gB r h) B B') : yCx r i bi di p h T q kd A' B' := by
  obtain ⟨⟨a1, a2, a3, a4⟩, ⟨b1, b2, b3⟩, c, ht, hv, ⟨hq, hq2⟩, k1, k2, k3⟩ := H
  refine ⟨⟨?_, ?_, ?_, ?_⟩, ⟨?_, ?_, fun z => ?_⟩, c, fun u hu => ?_, fun v v1 v2 => ?_, ⟨fun w hw => ⟨?_, ?_⟩, hq2⟩, ?_, ?_, k3⟩
  · rw [(f 5 0 11 (by unfold gA; omega)).2.2]; exact a1
  · rw [(f 5 0 12 (by unfold gA; omega)).2.2]; exact a2
  · rw [(f 5 0 13 (by unfold gA; omega)).2.2]; exact a3
  · rw [(f 5 0 14 (by unfold gA; omega)).2.2]; exact a4
  · rw [(g 13 0 60 (by unfold gB; omega)).1]; exact b1
  · rw [(g 13 0 62 (by unfold gB; omega)).1]; exact b2
  · rw [(g 13 0 63 (by unfold gB; omega)).1]; exact b3 z
  · obtain ⟨t1, t2, t3, t4⟩ := ht u hu
    exact ⟨t1, t2, yCl_fr t3 (f 11 u 2 (by unfold gA; omega)).1 (fun s => (f 48 u s (by unfold gA; omega)).1), yMt_fr hu (fun k s hk => (g k 0 s (by unfold gB; omega)).1) t4⟩
  · rw [(f 30 0 v (by unfold gA; omega)).1]; exact hv v v1 v2
  · rw [(f 29 0 w (by unfold gA; omega)).1]; exact (hq w hw).1
  · rw [(g 57 0 w (by unfold gB; omega)).1]; exact (hq w hw).2
  · rw [(f 2 bi 0 (by unfold gA; omega)).1]; exact k1
  · rw [(g 70 0 p (by unfold gB; omega)).1]; exact k2
/-- where the cards come from -/
def zSo (r i P C : Nat) (z : Int32) (c : Nat → Nat) (hid : Nat) (A B : zM) : Prop := (r = 0 ∧ ∃ g ct sn, kS i A P C g ct z sn c ∧ mS B P C g ct z sn c ∧ pS P C g sn c hid) ∨ (¬ r = 0 ∧ yRw (r - 1) A B ∧ zgI A 5 0 15 = zgI B 13 0 61 ∧ ∃ P C g sn, yNm i A B P C g sn)
/-- what moves when the player takes a card -/
def gA1 (r i di a b c : Nat) : Prop := (r = 0 ∧ b = i ∧ (a = 47 ∨ (a = 10 ∧ 6 ≤ c ∧ c ≤ 8))) ∨ (b = di ∧ ((a = 4 ∧ (c = 5 ∨ c = 7)) ∨ a = 24)) ∨ (b = 0 ∧ a = 5 ∧ c = 15)
def gB1 (r h a b c : Nat) : Prop := b = 0 ∧ (a = 68 ∨ a = 69 ∨ (a = 13 ∧ (c = 61 ∨ (64 ≤ c ∧ c ≤ 67))) ∨ (r = 0 ∧ (a = 56 ∨ (a = 13 ∧ (c = 7 ∨ c = 8)) ∨ (a = 91 ∧ 24 * h ≤ c ∧ c < 24 * h + 24) ∨ (a = 92 ∧ c = h))))
/-- what moves when the dealer takes a card -/
def gA2 (r i di a b c : Nat) : Prop := (r = 0 ∧ b = i ∧ (a = 47 ∨ (a = 10 ∧ 6 ≤ c ∧ c ≤ 8))) ∨ (b = di ∧ ((a = 4 ∧ (c = 6 ∨ c = 8)) ∨ a = 25)) ∨ (b = 0 ∧ a = 5 ∧ c = 15)
def gB2 (r h a b c : Nat) : Prop := b = 0 ∧ (a = 68 ∨ a = 69 ∨ (a = 13 ∧ (c = 61 ∨ c = 64)) ∨ (r = 0 ∧ (a = 56 ∨ (a = 13 ∧ (c = 7 ∨ c = 8)) ∨ (a = 93 ∧ 24 * h ≤ c ∧ c < 24 * h + 24) ∨ (a = 94 ∧ c = h))))
theorem gA1_A {r i di a b c : Nat} (H : gA1 r i di a b c) : gA r i di a b c := by unfold gA1 at H; unfold gA; omega
theorem gB1_B {r h a b c : Nat} (H : gB1 r h a b c) : gB r h a b c := by unfold gB1 at H; unfold gB; omega
theorem gA2_A {r i di a b c : Nat} (H : gA2 r i di a b c) : gA r i di a b c := by unfold gA2 at H; unfold gA; omega
theorem gB2_B {r h a b c : Nat} (H : gB2 r h a b c) : gB r h a b c := by unfold gB2 at H; unfold gB; omega
/-- cards are bytes -/
def yBs (k h : Nat) (B : zM) (m : Nat) : Prop := ∀ t, t < m → (zgI B k 0 (24 * h + t)).toInt8.toInt32 = zgI B k 0 (24 * h + t)
/-- the player's cards -/
def hOw (r di h s : Nat) (a : Bool) (m : Nat) (A B : zM) : Prop := (zgI A 4 di 7 = nI (oHd s a) ∧ zgI A 4 di 5 = nI m) ∧ (zgI B 13 0 65 = nI s ∧ zgI B 13 0 66 = bI a ∧ zgI B 13 0 67 = nI m) ∧ (r = 0 → zgI B 92 0 h = nI m ∧ yCds 24 91 di h A B m ∧ yBs 91 h B m)
/-- the dealer's -/
def hDl (r di h s : Nat) (a : Bool) (m : Nat) (A B : zM) : Prop := (zgI A 4 di 8 = nI (oHd s a) ∧ zgI A 4 di 6 = nI m) ∧ (r = 0 → zgI B 94 0 h = nI m ∧ yCds 25 93 di h A B m ∧ yBs 93 h B m)
theorem hOw_fr {r di h s : Nat} {a : Bool} {m : Nat} {A B A' B' : zM} (H : hOw r di h s a m A B) {Q Q' : Nat → Nat → Nat → Prop} (f : zFo Q A A') (g : zFo Q' B B') (h1 : ¬ Q 4 di 7) (h2 : ¬ Q 4 di 5) (h3 : ∀ s, ¬ Q 24 di s) (h4 : ¬ Q' 13 0 65) (h5 : ¬ Q' 13 0 66) (h6 : ¬ Q' 13 0 67) (h7 : ¬ Q' 92 0 h) (h8 : ∀ s, ¬ Q' 91 0 s) : hOw r di h s a m A' B' := by
  obtain ⟨⟨a1, a2⟩, ⟨b1, b2, b3⟩, e⟩ := H
  refine ⟨⟨((f _ _ _ h1).1).trans a1, ((f _ _ _ h2).1).trans a2⟩, ⟨((g _ _ _ h4).1).trans b1, ((g _ _ _ h5).1).trans b2, ((g _ _ _ h6).1).trans b3⟩, fun z => ?_⟩
  obtain ⟨e1, ⟨e2, e3⟩, e4⟩ := e z
  exact ⟨((g _ _ _ h7).1).trans e1, ⟨e2, fun t ht => by rw [(f _ _ _ (h3 t)).1, (g _ _ _ (h8 _)).1]; exact e3 t ht⟩, fun t ht => by rw [(g _ _ _ (h8 _)).1]; exact e4 t ht⟩
theorem hDl_fr {r di h s : Nat} {a : Bool} {m : Nat} {A B A' B' : zM} (H : hDl r di h s a m A B) {Q Q' : Nat → Nat → Nat → Prop} (f : zFo Q A A') (g : zFo Q' B B') (h1 : ¬ Q 4 di 8) (h2 : ¬ Q 4 di 6) (h3 : ∀ s, ¬ Q 25 di s) (h7 : ¬ Q' 94 0 h) (h8 : ∀ s, ¬ Q' 93 0 s) : hDl r di h s a m A' B' := by
  obtain ⟨⟨a1, a2⟩, e⟩ := H
  refine ⟨⟨((f _ _ _ h1).1).trans a1, ((f _ _ _ h2).1).trans a2⟩, fun z => ?_⟩
  obtain ⟨e1, ⟨e2, e3⟩, e4⟩ := e z
  exact ⟨((g _ _ _ h7).1).trans e1, ⟨e2, fun t ht => by rw [(f _ _ _ (h3 t)).1, (g _ _ _ (h8 _)).1]; exact e3 t ht⟩, fun t ht => by rw [(g _ _ _ (h8 _)).1]; exact e4 t ht⟩
/-- how many cards there can be -/
def hI (s : Nat) (a : Bool) (m : Nat) : Prop := m ≤ s ∧ (12 ≤ s → m + 1 ≤ s) ∧ (a = false → 2 * m ≤ s)
theorem hI_next {s : Nat} {a : Bool} {m v : Nat} (H : hI s a m) (hs : s ≤ 20) (hn : ¬ (a = true ∧ s = 11)) (hv : 1 ≤ v ∧ v ≤ 10) : hI (s + v) (oA a v) (m + 1) ∧ m < 20 := by
  obtain ⟨h1, h2, h3⟩ := H
  cases a with
  | true =>
    have : ¬ s = 11 := fun z => hn ⟨rfl, z⟩
    exact ⟨⟨by omega, by omega, fun z => by cases z⟩, by omega⟩
  | false =>
    have h3 := h3 rfl
    refine ⟨⟨by omega, by omega, fun z => ?_⟩, by omega⟩
    have : ¬ v = 1 := fun y => by
      subst y
      cases z
    omega
theorem K22 (d di s m v : Nat) (a : Bool) (hs : s ≤ 30) (hm : m < 20) (hv : 1 ≤ v ∧ v ≤ 10) {A : zM} (h7 : zgI A 4 di 7 = nI (oHd s a)) (h5 : zgI A 4 di 5 = nI m) : zgo false (d + 1) 22 0 [zr 4 di, zi (nI v)] [] A = some (none, zsI (zsI (zsI A 24 di m (nI v)) 4 di 5 (nI (m + 1))) 4 di 7 (nI (oHd (s + v) (oA a v)))) := by
  have e5 : zgI (zsI A 24 di m (nI v)) 4 di 5 = nI m := by rw [zgI_sI, if_neg (by omega), h5]
  have e7 : zgI (zsI (zsI A 24 di m (nI v)) 4 di 5 (nI (m + 1))) 4 di 7 = nI (oHd s a) := by rw [zgI_sI, if_neg (by omega), zgI_sI, if_neg (by omega), h7]
  rw [B22_0, h5, se24n _ _ _ _ _ _ (by omega), zbsome, zpu0, B22_12, e5, nI_1, e7, S172y _ _ _ _ _ _ _ _ hs hv, zbsome]
  show zgo false (d + 1) 22 31 [zr 4 di, zi (nI v)] [zi (nI (oHd (s + v) (oA a v))), zr 4 di] _ = _
  rw [B22_31]
theorem K23 (d di s m v : Nat) (a : Bool) (hs : s ≤ 30) (hm : m < 20) (hv : 1 ≤ v ∧ v ≤ 10) {A : zM} (h8 : zgI A 4 di 8 = nI (oHd s a)) (h6 : zgI A 4 di 6 = nI m) : zgo false (d + 1) 23 0 [zr 4 di, zi (nI v)] [] A = some (none, zsI (zsI (zsI A 25 di m (nI v)) 4 di 6 (nI (m + 1))) 4 di 8 (nI (oHd (s + v) (oA a v)))) := by
  have e5 : zgI (zsI A 25 di m (nI v)) 4 di 6 = nI m := by rw [zgI_sI, if_neg (by omega), h6]
  have e7 : zgI (zsI (zsI A 25 di m (nI v)) 4 di 6 (nI (m + 1))) 4 di 8 = nI (oHd s a) := by rw [zgI_sI, if_neg (by omega), zgI_sI, if_neg (by omega), h8]
  rw [B23_0, h6, se25n _ _ _ _ _ _ (by omega), zbsome, zpu0, B23_12, e5, nI_1, e7, S172y _ _ _ _ _ _ _ _ hs hv, zbsome]
  show zgo false (d + 1) 23 31 [zr 4 di, zi (nI v)] [zi (nI (oHd (s + v) (oA a v))), zr 4 di] _ = _
  rw [B23_31]
theorem K264 (d s m v : Nat) (a : Bool) (hv : 1 ≤ v ∧ v ≤ 10) {B : zM} (h65 : zgI B 13 0 65 = nI s) (h66 : zgI B 13 0 66 = bI a) (h67 : zgI B 13 0 67 = nI m) : zgo false d 264 25 [zr 13 0, zi (nI v)] [] B = some (some (zi 1), zsI (zsI (zsI B 13 0 65 (nI (s + v))) 13 0 66 (bI (oA a v))) 13 0 67 (nI (m + 1))) := by
  obtain ⟨B1, hB1⟩ : ∃ B1, B1 = zsI B 13 0 65 (nI (s + v)) := ⟨_, rfl⟩
  have e66 : zgI B1 13 0 66 = bI a := by rw [hB1, zgI_sI, if_neg (by omega), h66]
  have e67 : ∀ x, zgI (zsI B1 13 0 66 x) 13 0 67 = nI m := fun x => by rw [zgI_sI, if_neg (by omega), hB1, zgI_sI, if_neg (by omega), h67]
  have k53 : ∀ x, zib x = true → zgo false d 264 53 [zr 13 0, zi (nI v)] [zi x, zr 13 0] B1 = some (some (zi 1), zsI (zsI B1 13 0 66 x) 13 0 67 (nI (m + 1))) := fun x hx => by
    rw [B264_53, hx, cond_true, e67, nI_1]
  have l1 : nI v = 1 ↔ v = 1 := nI_eq (b := 1) (by omega) (by omega)
  rw [B264_25, h65, nI_add, ← hB1, e66]
  cases a with
  | true => rw [if_neg (show ¬ bI true = 0 by decide), B264_48, k53 1 rfl]; rfl
  | false =>
    rw [if_pos (show bI false = 0 from rfl)]
    by_cases y : v = 1
    · have e : oA false v = true := by rw [y]; rfl
      rw [if_pos (l1.mpr y), B264_48, k53 1 rfl, e]
      rfl
    · have e : oA false v = false := by
        show (false || Nat.beq v 1) = false
        cases hb : Nat.beq v 1 with
        | false => rfl
        | true => exact absurd (Nat.eq_of_beq_eq_true hb) y
      rw [if_neg (mt l1.mp y), k53 0 rfl, e]
      rfl
theorem yRw_fr {s : Nat} {A B A' B' : zM} (H : yRw s A B) {Q Q' : Nat → Nat → Nat → Prop} (f : zFo Q A A') (g : zFo Q' B B') (h1 : ∀ t, ¬ Q 9 s t) (h2 : ∀ t, ¬ Q 45 s t) (h3 : ∀ k t, 110 ≤ k → k ≤ 112 → ¬ Q' k 0 t) : yRw s A' B' := by
  unfold yRw at H ⊢
  rw [(f 9 s 1 (h1 _)).1, (f 9 s 2 (h1 _)).1, (f 9 s 3 (h1 _)).1, (g 110 0 s (h3 _ _ (by omega) (by omega))).1, (g 111 0 s (h3 _ _ (by omega) (by omega))).1]
  rcases H with H | ⟨e1, e2, e3, e4, e5, e6⟩
  · exact Or.inl H
  · exact Or.inr ⟨e1, e2, e3, e4, e5, fun i hi => by rw [(f 45 s i (h2 _)).2.1, (g 112 0 _ (h3 _ _ (by omega) (by omega))).2.1]; exact e6 i hi⟩
/-- the source stays when neither cards nor places move -/
theorem zSo_fr {r i P C : Nat} {z : Int32} {c : Nat → Nat} {hid : Nat} {A B A' B' : zM} (H : zSo r i P C z c hid A B) {Q Q' : Nat → Nat → Nat → Prop} (f : zFo Q A A') (g : zFo Q' B B') (h1 : ∀ s, 2 ≤ s → s ≤ 8 → ¬ Q 10 i s) (h2 : ∀ s, ¬ Q 47 i s) (h3 : ∀ s, ¬ Q 46 i s) (h4 : ∀ k j s, k = 9 ∨ k = 45 → ¬ Q k j s) (h5 : ¬ Q 5 0 15) (k1 : ∀ s, 1 ≤ s → s ≤ 8 → ¬ s = 5 → ¬ Q' 13 0 s) (k2 : ∀ s, ¬ Q' 56 0 s) (k3 : ∀ s, ¬ Q' 55 0 s) (k4 : ∀ k t, 110 ≤ k → k ≤ 112 → ¬ Q' k 0 t) (k5 : ¬ Q' 13 0 61) : zSo r i P C z c hid A' B' := by
  rcases H with ⟨r0, gn, ct, sn, e1, e2, e3⟩ | ⟨r0, e1, e2, P', C', gn, sn, e3⟩
  · exact Or.inl ⟨r0, gn, ct, sn, kS_fr e1 f h1 h2 h3, mS_fr e2 g k1 k2 k3, e3⟩
  · exact Or.inr ⟨r0, yRw_fr e1 f g (fun t => h4 _ _ _ (Or.inl rfl)) (fun t => h4 _ _ _ (Or.inr rfl)) k4, by rw [(f _ _ _ h5).1, (g _ _ _ k5).1]; exact e2, P', C', gn, sn, yNm_fr e3 (fun s s1 s2 => (f _ _ _ (h1 s s1 s2)).1) (fun s _ => (f _ _ _ (h2 s)).1) (fun s s1 s2 s3 => (g _ _ _ (k1 s s1 s2 s3)).1) (fun s _ => (g _ _ _ (k2 s)).1)⟩
theorem yCx_14 {r i bi di p h : Nat} {T : Nat → List (List yOp × List yOp)} {q : Nat → Nat} {kd : Nat} {A B : zM} (H : yCx r i bi di p h T q kd A B) (r0 : r = 0) : (zgR A 5 0 14).1 = 0 ∧ zgI B 13 0 60 = -1 := by
  obtain ⟨⟨-, -, -, a4⟩, ⟨b1, -⟩, -⟩ := H
  rw [if_pos r0] at a4 b1
  rw [a4]
  exact ⟨rfl, b1⟩
/-- the class's next card from a row -/
theorem K38r (d s v : Nat) (o : Int32) (u2 : zV) {A : zM} (hv : v ≤ 10) (h14 : zgR A 5 0 14 = (9, s)) (e : zgo false (d + 1) 103 0 [zr 9 s, zi (zgI A 5 0 15), zu, zu] [] A = some (some (zi (nI v)), A)) : zgo false (d + 2) 38 0 [zr 5 0, zi o, u2] [] A = some (some (zi (nI v)), if v = 0 then A else zsI A 5 0 15 (zgI A 5 0 15 + 1)) := by
  have l0 : nI v = 0 ↔ v = 0 := nI_eq (b := 0) (by omega) (by omega)
  have z1 : Nat.beq (zgR A 5 0 14).1 0 = false := by rw [h14]; rfl
  have z2 : (Nat.beq (zgR A 5 0 14).1 9 && true) = true := by rw [h14]; rfl
  rw [B38_0, z1, cond_false, z2, cond_true, show zp (zgR A 5 0 14) = zr 9 s from by rw [h14], e, zbsome, zpu1, B38_18]
  by_cases y : v = 0
  · rw [if_pos (l0.mpr y), if_pos y, B38_33]
  · rw [if_neg (mt l0.mp y), if_neg y, B38_33]
/-- the player takes a card -/
theorem X1 (d r i bi di p h : Nat) {T : Nat → List (List yOp × List yOp)} {q : Nat → Nat} {kd P C : Nat} {z : Int32} {c : Nat → Nat} {hid s : Nat} {a : Bool} {m : Nat} (u1 w1 : zV) {A B : zM} (hx : yCx r i bi di p h T q kd A B) (hs : zSo r i P C z c hid A B) (ho : hOw r di h s a m A B) (hi : hI s a m) (hs20 : s ≤ 20) (hn : ¬ (a = true ∧ s = 11)) (h64 : zgI B 13 0 64 = 0) : ∃ A' B', zFo (gA1 r i di) A A' ∧ zFo (gB1 r h) B B' ∧ ((∃ v, (1 ≤ v ∧ v ≤ 10) ∧ zgo false (d + 6) 39 0 [zr 5 0, u1] [] A = some (some (zi 1), A') ∧ zgo false (d + 6) 264 0 [zr 13 0, w1] [] B = some (some (zi 1), B') ∧ zSo r i P C z c hid A' B' ∧ hOw r di h (s + v) (oA a v) (m + 1) A' B' ∧ hI (s + v) (oA a v) (m + 1) ∧ zgI B' 13 0 64 = 0) ∨ (zgo false (d + 6) 39 0 [zr 5 0, u1] [] A = some (some (zi 0), A') ∧ zgo false (d + 6) 264 0 [zr 13 0, w1] [] B = some (some (zi 0), B') ∧ (r = 0 → zSo r i P C z c hid A' B') ∧ hOw r di h s a m A' B' ∧ zgI B' 13 0 64 = 1)) := by
  have hx' := hx
  obtain ⟨⟨r11, r12, r13, r14⟩, ⟨m60, m62, m63⟩, ⟨hr6, hp, hh⟩, ht, hv, -, -⟩ := hx
  have hs' := hs
  have ho' := ho
  obtain ⟨⟨o7, o5⟩, ⟨o65, o66, o67⟩, o92⟩ := ho
  have z13 : ∀ A1, zgR A1 5 0 13 = (4, di) → (Nat.beq (zgR A1 5 0 13).1 4 && true) = true := fun A1 e => by rw [e]; rfl
  -- what the class does with the card
  have fin : ∀ (v : Nat) (A1 : zM), (1 ≤ v ∧ v ≤ 10) → m < 20 → zgo false (d + 5) 38 0 [zr 5 0, zi 1, zu] [] A = some (some (zi (nI v)), A1) → zgR A1 5 0 13 = (4, di) → zgI A1 4 di 7 = nI (oHd s a) → zgI A1 4 di 5 = nI m → zgo false (d + 6) 39 0 [zr 5 0, u1] [] A = some (some (zi 1), zsI (zsI (zsI A1 24 di m (nI v)) 4 di 5 (nI (m + 1))) 4 di 7 (nI (oHd (s + v) (oA a v)))) := by
    intro v A1 hv hm e r7 e7 e5
    have n0 : ¬ nI v = 0 := nI_ne0 (by omega) (by omega)
    rw [B39_0, e, zbsome, zpu1, B39_5, if_neg n0, z13 A1 r7, cond_true, show zp (zgR A1 5 0 13) = zr 4 di from by rw [r7], K22 (d + 4) di s m v a (by omega) hm hv e7 e5, zbsome, zpu0, B39_18, if_neg n0, B39_27]
    rfl
  have fin0 : zgo false (d + 5) 38 0 [zr 5 0, zi 1, zu] [] A = some (some (zi 0), A) → zgo false (d + 6) 39 0 [zr 5 0, u1] [] A = some (some (zi 0), A) := fun e => by
    rw [B39_0, e, zbsome, zpu1, B39_5, if_pos rfl, B39_18, if_pos rfl, B39_27]
    rfl
  rcases hs with ⟨r0, g, ct, sn, e1, e2, e3⟩ | ⟨r0, e1, e2, P', C', g, sn, e3⟩
  · obtain ⟨n14, n60⟩ := yCx_14 hx' r0
    obtain ⟨k1, k2⟩ := K38 (d + 3) i true zu (T 1) e1 e3 n14 r11 hv
    obtain ⟨q1, q2⟩ := K261 (d + 4) zu zu e2 e3 n60
    by_cases hg : g < 52 * P
    · obtain ⟨A1, g1, g2, g3⟩ := k1 hg
      have cv := e3.2.2.2.2.1 g hg
      obtain ⟨hi', hm⟩ := hI_next hi hs20 hn cv
      obtain ⟨o92a, ⟨o92b, o92c⟩, o92d⟩ := o92 r0
      have c1 := fin (c g) A1 cv hm g1 (((g2 5 0 13 (by unfold kFs; omega)).2.2).trans r13) (((g2 4 di 7 (by unfold kFs; omega)).1).trans o7) (((g2 4 di 5 (by unfold kFs; omega)).1).trans o5)
      obtain ⟨A2, hA2⟩ : ∃ A2, A2 = zsI (zsI (zsI A1 24 di m (nI (c g))) 4 di 5 (nI (m + 1))) 4 di 7 (nI (oHd (s + c g) (oA a (c g)))) := ⟨_, rfl⟩
      rw [← hA2] at c1
      have fA2 : zFo (fun x y w => y = di ∧ ((x = 4 ∧ (w = 5 ∨ w = 7)) ∨ x = 24)) A1 A2 := by
        rw [hA2]
        exact zFo_sI (zFo_sI (zFo_sI (zFo_refl _ A1) (by omega)) (by omega)) (by omega)
      -- the model
      have w1e := q1 hg
      obtain ⟨B1, hB1⟩ : ∃ B1, B1 = zsI B 13 0 7 (nI (g + 1)) := ⟨_, rfl⟩
      rw [← hB1] at w1e
      have f1 : zFo (fun x y w => x = 13 ∧ y = 0 ∧ w = 7) B B1 := by
        rw [hB1]
        exact zFo_sI (zFo_refl _ B) ⟨rfl, rfl, rfl⟩
      have w2 := K263 (d + 5) h m (c g) true (B := B1) hh (by omega) cv.2 (((f1 13 0 60 (by omega)).1).trans n60) (((f1 13 0 63 (by omega)).1).trans (m63 r0)) (((f1 92 0 h (by omega)).1).trans o92a)
      obtain ⟨B2, hB2⟩ : ∃ B2, B2 = zsI (zsI B1 91 0 (24 * h + m) (nI (c g))) 92 0 h (nI (m + 1)) := ⟨_, rfl⟩
      have w2 : zgo false (d + 5) 263 0 [zr 13 0, zi 1, zi (nI (c g))] [] B1 = some (none, B2) := by rw [hB2]; exact w2
      have f2 : zFo (fun x y w => y = 0 ∧ ((x = 91 ∧ w = 24 * h + m) ∨ (x = 92 ∧ w = h))) B1 B2 := by
        rw [hB2]
        exact zFo_sI (zFo_sI (zFo_refl _ B1) (by omega)) (by omega)
      have hm1 : mS B1 P C (g + 1) ct z sn c := by
        obtain ⟨⟨a1, a2, a3, a4, a5, a6⟩, b, e⟩ := e2
        exact ⟨⟨((f1 13 0 1 (by omega)).1).trans a1, ((f1 13 0 2 (by omega)).1).trans a2, ((f1 13 0 4 (by omega)).1).trans a3, by rw [hB1, zgI_sI, if_pos ⟨rfl, rfl, rfl⟩], ((f1 56 0 0 (by omega)).1).trans a5, ((f1 13 0 8 (by omega)).1).trans a6⟩, fun v v1 v2 => ((f1 56 0 v (by omega)).1).trans (b v v1 v2), fun s hs => ((f1 55 0 s (by omega)).1).trans (e s hs)⟩
      have hm2 : mS B2 P C (g + 1) ct z sn c := mS_fr hm1 f2 (fun s _ _ _ => by omega) (fun s => by omega) (fun s => by omega)
      have t1 := ht 1 (by omega)
      obtain ⟨B3, w3, f3, hm3⟩ := K262 (d + 1) (c g) cv (T := T 1) hm2 (((f2 13 0 60 (by omega)).1).trans (((f1 13 0 60 (by omega)).1).trans n60)) t1.1 (yMt_fr (by omega) (fun k s hk => ((f2 k 0 s (by omega)).1).trans (f1 k 0 s (by omega)).1) t1.2.2.2)
      have f13 : zFo (gB1 r h) B B3 := zFo_trans (zFo_mono f1 (fun x y w hw => by unfold gB1; omega)) (zFo_trans (zFo_mono f2 (fun x y w hw => by unfold gB1; omega)) (zFo_mono f3 (fun x y w hw => by unfold mFs at hw; unfold gB1; omega)))
      have j : ∀ w, 60 ≤ w → zgI B3 13 0 w = zgI B 13 0 w := fun w hw => by rw [(f3 13 0 w (by unfold mFs; omega)).1, (f2 13 0 w (by omega)).1, (f1 13 0 w (by omega)).1]
      have w4 := K264 (d + 6) s m (c g) a cv (B := B3) ((j 65 (by omega)).trans o65) ((j 66 (by omega)).trans o66) ((j 67 (by omega)).trans o67)
      obtain ⟨B4, hB4⟩ : ∃ B4, B4 = zsI (zsI (zsI B3 13 0 65 (nI (s + c g))) 13 0 66 (bI (oA a (c g)))) 13 0 67 (nI (m + 1)) := ⟨_, rfl⟩
      rw [← hB4] at w4
      have f4 : zFo (fun x y w => x = 13 ∧ y = 0 ∧ (65 ≤ w ∧ w ≤ 67)) B3 B4 := by
        rw [hB4]
        exact zFo_sI (zFo_sI (zFo_sI (zFo_refl _ B3) (by omega)) (by omega)) (by omega)
      refine ⟨A2, B4, zFo_trans (zFo_mono g2 (fun x y w hw => by unfold kFs at hw; unfold gA1; omega)) (zFo_mono fA2 (fun x y w hw => by unfold gA1; omega)), zFo_trans f13 (zFo_mono f4 (fun x y w hw => by unfold gB1; omega)), Or.inl ⟨c g, cv, c1, ?_, Or.inl ⟨r0, g + 1, ct + yTag (T 1) (c g), ySn sn (c g), kS_fr g3 fA2 (fun s _ _ => by omega) (fun s => by omega) (fun s => by omega), mS_fr hm3 f4 (fun s _ _ _ => by omega) (fun s => by omega) (fun s => by omega), pS_open e3 hg⟩, ⟨⟨?_, ?_⟩, ⟨?_, ?_, ?_⟩, fun _ => ⟨?_, ⟨by omega, fun t tm => ?_⟩, fun t tm => ?_⟩⟩, hi', ?_⟩⟩
      · have e64 : zgI B1 13 0 64 = 0 := ((f1 13 0 64 (by omega)).1).trans h64
        rw [B264_0, w1e, zbsome, zpu1, B264_4, if_pos e64, w2, zbsome, zpu0, B264_20, w3, zbsome, zpu0, w4]
      · rw [hA2, zgI_sI, if_pos ⟨rfl, rfl, rfl⟩]
      · rw [hA2, zgI_sI, if_neg (by omega), zgI_sI, if_pos ⟨rfl, rfl, rfl⟩]
      · rw [hB4, zgI_sI, if_neg (by omega), zgI_sI, if_neg (by omega), zgI_sI, if_pos ⟨rfl, rfl, rfl⟩]
      · rw [hB4, zgI_sI, if_neg (by omega), zgI_sI, if_pos ⟨rfl, rfl, rfl⟩]
      · rw [hB4, zgI_sI, if_pos ⟨rfl, rfl, rfl⟩]
      · rw [(f4 92 0 h (by omega)).1, (f3 92 0 h (by unfold mFs; omega)).1, hB2, zgI_sI, if_pos ⟨rfl, rfl, rfl⟩]
      · rw [(f4 91 0 _ (by omega)).1, (f3 91 0 _ (by unfold mFs; omega)).1, hB2, zgI_sI, if_neg (by omega), zgI_sI, hA2, zgI_sI, if_neg (by omega), zgI_sI, if_neg (by omega), zgI_sI]
        by_cases y : t = m
        · rw [if_pos ⟨rfl, rfl, y⟩, if_pos ⟨rfl, rfl, by omega⟩]
        · rw [if_neg (fun w => y w.2.2), if_neg (by omega), (g2 24 di t (by unfold kFs; omega)).1, (f1 91 0 _ (by omega)).1]
          exact o92c t (by omega)
      · rw [(f4 91 0 _ (by omega)).1, (f3 91 0 _ (by unfold mFs; omega)).1, hB2, zgI_sI, if_neg (by omega), zgI_sI]
        by_cases y : t = m
        · rw [if_pos ⟨rfl, rfl, by omega⟩]
          exact yByt (by omega)
        · rw [if_neg (by omega), (f1 91 0 _ (by omega)).1]
          exact o92d t (by omega)
      · rw [(f4 13 0 64 (by omega)).1, j 64 (by omega), h64]
    · have hg : g = 52 * P := by have := e3.2.2.1.2; omega
      have w1e := q2 hg
      obtain ⟨B1, hB1⟩ : ∃ B1, B1 = zsI B 13 0 64 1 := ⟨_, rfl⟩
      rw [← hB1] at w1e
      have f1 : zFo (fun x y w => x = 13 ∧ y = 0 ∧ w = 64) B B1 := by
        rw [hB1]
        exact zFo_sI (zFo_refl _ B) ⟨rfl, rfl, rfl⟩
      have e64 : zgI B1 13 0 64 = 1 := by rw [hB1, zgI_sI, if_pos ⟨rfl, rfl, rfl⟩]
      refine ⟨A, B1, zFo_refl _ A, zFo_mono f1 (fun x y w hw => by unfold gB1; omega), Or.inr ⟨fin0 (k2 hg), ?_, fun _ => zSo_fr hs' (zFo_refl (fun _ _ _ => False) A) f1 (fun _ _ _ => id) (fun _ => id) (fun _ => id) (fun _ _ _ _ => id) id (fun s _ _ _ => by omega) (fun s => by omega) (fun s => by omega) (fun k t _ _ => by omega) (by omega), hOw_fr ho' (zFo_refl (fun _ _ _ => False) A) f1 id id (fun _ => id) (by omega) (by omega) (by omega) (by omega) (fun s => by omega), e64⟩⟩
      rw [B264_0, w1e, zbsome, zpu1, B264_4, if_neg (by rw [e64]; decide)]
  · have n14 : zgR A 5 0 14 = (9, r - 1) := by rw [r14, if_neg r0]
    have n60 : zgI B 13 0 60 = nI (r - 1) := by rw [m60, if_neg r0]
    obtain ⟨v, hv10, g1, g2⟩ := H103 (d + 3) (d + 3) (r - 1) (zgI A 5 0 15) zu zu zu zu (by omega) e1 n60 e2.symm
    have c0 := K38r (d + 3) (r - 1) v 1 zu hv10 n14 g1
    by_cases hv0 : v = 0
    · rw [if_pos hv0, hv0] at c0
      rw [if_pos hv0, hv0] at g2
      obtain ⟨B1, hB1⟩ : ∃ B1, B1 = zsI (zsI B 13 0 61 (zgI A 5 0 15 + 1)) 13 0 64 1 := ⟨_, rfl⟩
      rw [← hB1] at g2
      have f1 : zFo (fun x y w => x = 13 ∧ y = 0 ∧ (w = 61 ∨ w = 64)) B B1 := by
        rw [hB1]
        exact zFo_sI (zFo_sI (zFo_refl _ B) (by omega)) (by omega)
      have e64 : zgI B1 13 0 64 = 1 := by rw [hB1, zgI_sI, if_pos ⟨rfl, rfl, rfl⟩]
      refine ⟨A, B1, zFo_refl _ A, zFo_mono f1 (fun x y w hw => by unfold gB1; omega), Or.inr ⟨fin0 c0, ?_, fun w => absurd w r0, hOw_fr ho' (zFo_refl (fun _ _ _ => False) A) f1 id id (fun _ => id) (by omega) (by omega) (by omega) (by omega) (fun s => by omega), e64⟩⟩
      have g2 : zgo false (d + 5) 261 0 [zr 13 0, zu, zu] [] B = some (some (zi 0), B1) := g2
      rw [B264_0, g2, zbsome, zpu1, B264_4, if_neg (by rw [e64]; decide)]
    · have cv : 1 ≤ v ∧ v ≤ 10 := ⟨by omega, hv10⟩
      obtain ⟨hi', hm⟩ := hI_next hi hs20 hn cv
      rw [if_neg hv0] at c0 g2
      obtain ⟨A1, hA1⟩ : ∃ A1, A1 = zsI A 5 0 15 (zgI A 5 0 15 + 1) := ⟨_, rfl⟩
      rw [← hA1] at c0
      have fA1 : zFo (fun x y w => x = 5 ∧ y = 0 ∧ w = 15) A A1 := by
        rw [hA1]
        exact zFo_sI (zFo_refl _ A) ⟨rfl, rfl, rfl⟩
      have c1 := fin v A1 cv hm c0 (((fA1 5 0 13 (by omega)).2.2).trans r13) (((fA1 4 di 7 (by omega)).1).trans o7) (((fA1 4 di 5 (by omega)).1).trans o5)
      obtain ⟨A2, hA2⟩ : ∃ A2, A2 = zsI (zsI (zsI A1 24 di m (nI v)) 4 di 5 (nI (m + 1))) 4 di 7 (nI (oHd (s + v) (oA a v))) := ⟨_, rfl⟩
      rw [← hA2] at c1
      have fA2 : zFo (fun x y w => y = di ∧ ((x = 4 ∧ (w = 5 ∨ w = 7)) ∨ x = 24)) A1 A2 := by
        rw [hA2]
        exact zFo_sI (zFo_sI (zFo_sI (zFo_refl _ A1) (by omega)) (by omega)) (by omega)
      obtain ⟨B1, hB1⟩ : ∃ B1, B1 = zsI B 13 0 61 (zgI A 5 0 15 + 1) := ⟨_, rfl⟩
      rw [← hB1] at g2
      have g2 : zgo false (d + 5) 261 0 [zr 13 0, zu, zu] [] B = some (some (zi (nI v)), B1) := g2
      have f1 : zFo (fun x y w => x = 13 ∧ y = 0 ∧ w = 61) B B1 := by
        rw [hB1]
        exact zFo_sI (zFo_refl _ B) ⟨rfl, rfl, rfl⟩
      have j60 : zgI B1 13 0 60 = nI (r - 1) := ((f1 13 0 60 (by omega)).1).trans n60
      have np : ¬ nI (r - 1) < 0 := nI_nlt (b := 0) (by omega) (by omega)
      have w4 := K264 (d + 6) s m v a cv (B := B1) (((f1 13 0 65 (by omega)).1).trans o65) (((f1 13 0 66 (by omega)).1).trans o66) (((f1 13 0 67 (by omega)).1).trans o67)
      obtain ⟨B4, hB4⟩ : ∃ B4, B4 = zsI (zsI (zsI B1 13 0 65 (nI (s + v))) 13 0 66 (bI (oA a v))) 13 0 67 (nI (m + 1)) := ⟨_, rfl⟩
      rw [← hB4] at w4
      have f4 : zFo (fun x y w => x = 13 ∧ y = 0 ∧ (65 ≤ w ∧ w ≤ 67)) B1 B4 := by
        rw [hB4]
        exact zFo_sI (zFo_sI (zFo_sI (zFo_refl _ B1) (by omega)) (by omega)) (by omega)
      have fA : zFo (gA1 r i di) A A2 := zFo_trans (zFo_mono fA1 (fun x y w hw => by unfold gA1; omega)) (zFo_mono fA2 (fun x y w hw => by unfold gA1; omega))
      have fB : zFo (gB1 r h) B B4 := zFo_trans (zFo_mono f1 (fun x y w hw => by unfold gB1; omega)) (zFo_mono f4 (fun x y w hw => by unfold gB1; omega))
      have e15 : zgI A2 5 0 15 = zgI A 5 0 15 + 1 := by rw [(fA2 5 0 15 (by omega)).1, hA1, zgI_sI, if_pos ⟨rfl, rfl, rfl⟩]
      have e61 : zgI B4 13 0 61 = zgI A 5 0 15 + 1 := by rw [(f4 13 0 61 (by omega)).1, hB1, zgI_sI, if_pos ⟨rfl, rfl, rfl⟩]
      refine ⟨A2, B4, fA, fB, Or.inl ⟨v, cv, c1, ?_, Or.inr ⟨r0, yRw_fr e1 fA fB (fun t => by unfold gA1; omega) (fun t => by unfold gA1; omega) (fun k t _ _ => by unfold gB1; omega), e15.trans e61.symm, P', C', g, sn, yNm_fr e3 (fun s s1 s2 => (fA _ _ _ (by unfold gA1; omega)).1) (fun s _ => (fA _ _ _ (by unfold gA1; omega)).1) (fun s s1 s2 s3 => (fB _ _ _ (by unfold gB1; omega)).1) (fun s _ => (fB _ _ _ (by unfold gB1; omega)).1)⟩, ⟨⟨?_, ?_⟩, ⟨?_, ?_, ?_⟩, fun w => absurd w r0⟩, hi', ?_⟩⟩
      · have e64 : zgI B1 13 0 64 = 0 := ((f1 13 0 64 (by omega)).1).trans h64
        rw [B264_0, g2, zbsome, zpu1, B264_4, if_pos e64, B263_0, j60, if_neg np, zbsome, zpu0, B264_20, B262_0, j60, if_neg np, zbsome, zpu0, w4]
      · rw [hA2, zgI_sI, if_pos ⟨rfl, rfl, rfl⟩]
      · rw [hA2, zgI_sI, if_neg (by omega), zgI_sI, if_pos ⟨rfl, rfl, rfl⟩]
      · rw [hB4, zgI_sI, if_neg (by omega), zgI_sI, if_neg (by omega), zgI_sI, if_pos ⟨rfl, rfl, rfl⟩]
      · rw [hB4, zgI_sI, if_neg (by omega), zgI_sI, if_pos ⟨rfl, rfl, rfl⟩]
      · rw [hB4, zgI_sI, if_pos ⟨rfl, rfl, rfl⟩]
      · rw [(f4 13 0 64 (by omega)).1, (f1 13 0 64 (by omega)).1, h64]
