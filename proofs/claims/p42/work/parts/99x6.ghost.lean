/-! ===== what is built stands in it; the ghost beside it ===== -/
def zPq (F : (Nat → Int32) → Nat → Int32) : Prop := ∀ f g s, F f s = F g s ∨ (F f s = f s ∧ F g s = g s)
theorem zPq_id : zPq (fun f => f) := fun f g s => Or.inr ⟨rfl, rfl⟩
theorem zPq_upd (j : Nat) (v : Int32) : zPq (fun f => zupd f j v) := fun f g s => by
  show (if s = j then v else f s) = (if s = j then v else g s) ∨ ((if s = j then v else f s) = f s ∧ (if s = j then v else g s) = g s)
  by_cases h : s = j
  · rw [if_pos h, if_pos h]; exact Or.inl rfl
  · rw [if_neg h, if_neg h]; exact Or.inr ⟨rfl, rfl⟩
theorem zPq_comp {F G : (Nat → Int32) → Nat → Int32} (hF : zPq F) (hG : zPq G) : zPq (fun f => F (G f)) := fun f g s => by
  rcases hF (G f) (G g) s with h | ⟨h1, h2⟩
  · exact Or.inl h
  · rcases hG f g s with k | ⟨k1, k2⟩
    · exact Or.inl (h1.trans (k.trans h2.symm))
    · exact Or.inr ⟨h1.trans k1, h2.trans k2⟩
theorem zPq_1 (s v : Nat) : zPq (zaft1 s v) := by
  unfold zaft1
  by_cases h : s ≤ 11
  · simp only [if_pos h]
    exact zPq_comp (F := fun f => zupd f ((42 + s) * 11 + v) (jPlace (jWith (nI (1010 + s)) (nI v)))) (zPq_upd _ _) (zPq_upd _ _)
  · simp only [if_neg h]
    exact zPq_upd _ _
theorem zPq_v (s : Nat) : ∀ n v, zPq (zaftv s n v)
  | 0, _ => zPq_id
  | n + 1, v => zPq_comp (F := zaftv s n (v + 1)) (zPq_v s n (v + 1)) (zPq_1 s v)
theorem zPq_s : ∀ n s, zPq (zafts n s)
  | 0, _ => zPq_id
  | n + 1, s => zPq_comp (F := zafts n (s + 1)) (zPq_s n (s + 1)) (zPq_v s 10 1)
set_option maxRecDepth 100000 in
theorem zaft_tab : ((List.range 54).all fun i => (List.range 11).all fun v => !((Nat.ble i 21 || Nat.ble 42 i) && Nat.ble 1 v) || ((zaft (fun _ => -7) (i * 11 + v) == nI (oAf i v)) && !(nI (oAf i v) == -7))) = true := by decide +kernel
theorem zaft_at (f : Nat → Int32) (i v : Nat) (hi : i ≤ 21 ∨ (42 ≤ i ∧ i ≤ 53)) (v1 : 1 ≤ v) (v2 : v ≤ 10) : zaft f (i * 11 + v) = nI (oAf i v) := by
  have h := List.all_eq_true.mp (List.all_eq_true.mp zaft_tab i (List.mem_range.mpr (by omega))) v (List.mem_range.mpr (by omega))
  have e : ((Nat.ble i 21 || Nat.ble 42 i) && Nat.ble 1 v) = true := by
    rw [Bool.and_eq_true, Bool.or_eq_true, Nat.ble_eq, Nat.ble_eq, Nat.ble_eq]
    omega
  rw [e, Bool.not_true, Bool.false_or, Bool.and_eq_true] at h
  obtain ⟨h1, h2⟩ := h
  have h1 := eq_of_beq h1
  have h2 : ¬ nI (oAf i v) = -7 := fun q => by
    rw [q] at h2
    exact absurd h2 (by decide)
  rcases zPq_s 22 0 f (fun _ => -7) (i * 11 + v) with k | ⟨-, k⟩
  · exact Eq.trans k h1
  · exact absurd (h1.symm.trans k) h2
def zAn (i : Nat) (q : zOp) : Bool := Nat.beq q.1 1 || !(Nat.beq q.2.1 35 && Nat.beq q.2.2.1 i)
def zAc (i : Nat) : List zOp → Bool
  | [] => false
  | q :: l => zAc i l || ((Nat.beq q.1 3 && (Nat.beq q.2.1 35 && Nat.beq q.2.2.1 i)) && l.all (zAn i))
theorem zdo1_35 (i s : Nat) (M : zM) (q : zOp) (h : zAn i q = true) : zgI (zdo1 M q) 35 i s = zgI M 35 i s := by
  obtain ⟨t, a, b, c, e, x⟩ := q
  have hk : t = 1 ∨ ¬ (35 = a ∧ i = b) := by
    by_cases ht : t = 1
    · exact Or.inl ht
    · refine Or.inr (fun y => ?_)
      obtain ⟨rfl, rfl⟩ := y
      have h : (Nat.beq t 1 || !(Nat.beq 35 35 && Nat.beq i i)) = true := h
      rw [Nat.beq_refl, Nat.beq_refl, Bool.and_true, Bool.not_true, Bool.or_false] at h
      exact ht (Nat.eq_of_beq_eq_true h)
  match t, hk with
  | 0, hk =>
    have hk : ¬ (35 = a ∧ i = b) := hk.elim (fun y => by cases y) id
    show (if 35 = a ∧ i = b then (0 : Int32) else M.1 35 i s) = M.1 35 i s
    rw [if_neg hk]
  | 1, _ => rfl
  | 2, hk =>
    have hk : ¬ (35 = a ∧ i = b) := hk.elim (fun y => by cases y) id
    show (if 35 = a ∧ i = b ∧ s = c then x else M.1 35 i s) = M.1 35 i s
    rw [if_neg (fun y => hk ⟨y.1, y.2.1⟩)]
  | t + 3, hk =>
    have hk : ¬ (35 = a ∧ i = b) := hk.elim (fun y => by omega) id
    show (if 35 = a ∧ i = b then _ else M.1 35 i s) = M.1 35 i s
    rw [if_neg hk]
theorem zdo_35 (i s : Nat) : ∀ (l : List zOp) (M : zM), l.all (zAn i) = true → zgI (zdo l M) 35 i s = zgI M 35 i s
  | [], M, _ => rfl
  | q :: l, M, h => by
    rw [List.all_cons, Bool.and_eq_true] at h
    show zgI (zdo l (zdo1 M q)) 35 i s = _
    rw [zdo_35 i s l _ h.2, zdo1_35 i s M q h.1]
theorem zdo_Ac (i : Nat) : ∀ (l : List zOp) (M : zM), zAc i l = true → ∃ f, ∀ s, zgI (zdo l M) 35 i s = zaft f s
  | [], M, h => by cases h
  | q :: l, M, h => by
    have h : (zAc i l || ((Nat.beq q.1 3 && (Nat.beq q.2.1 35 && Nat.beq q.2.2.1 i)) && l.all (zAn i))) = true := h
    rw [Bool.or_eq_true] at h
    rcases h with h | h
    · exact zdo_Ac i l (zdo1 M q) h
    · rw [Bool.and_eq_true, Bool.and_eq_true, Bool.and_eq_true] at h
      obtain ⟨⟨h1, h2, h3⟩, h4⟩ := h
      obtain ⟨t, a, b, c, e, x⟩ := q
      have k1 : t = 3 := Nat.eq_of_beq_eq_true h1
      have k2 : a = 35 := Nat.eq_of_beq_eq_true h2
      have k3 : b = i := Nat.eq_of_beq_eq_true h3
      clear h1 h2 h3
      subst k1
      subst k2
      subst k3
      refine ⟨M.1 35 b, fun s => ?_⟩
      show zgI (zdo l (zdo1 M (3, 35, b, c, e, x))) 35 b s = _
      rw [zdo_35 b s l _ h4]
      show (if 35 = 35 ∧ b = b then zaft (M.1 35 b) s else M.1 35 b s) = _
      rw [if_pos ⟨rfl, rfl⟩]
set_option maxRecDepth 100000 in
theorem zAc_0 : zAc 0 OL = true := by decide +kernel
theorem Raf_b (L : Nat × (Nat → Int32)) : Raf (zMb L) := fun i v hi v1 v2 => by
  rw [zMb_do, OB_lit]
  obtain ⟨f, h⟩ := zdo_Ac 0 OL (zM0 L) zAc_0
  rw [h, zaft_at f i v hi v1 v2]
set_option maxRecDepth 100000 in
theorem OL_ok : (OL.all fun q => Nat.blt q.1 3 || Nat.beq q.2.1 35) = true := by decide +kernel
def zlIB (k i s : Nat) (v : Int32) : Bool := match zlI k i s OL with
  | some x => x == v
  | none => v == 0
theorem zbI {L : Nat × (Nat → Int32)} {k i s : Nat} {v : Int32} (hk : k ≠ 35) (h : zlIB k i s v = true) : zgI (zMb L) k i s = v := by
  rw [zMb_do, OB_lit, zdo_lI k i s hk OL (zM0 L) (fun q hq => by
    have := List.all_eq_true.mp OL_ok q hq
    rw [Bool.or_eq_true] at this
    rcases this with h | h
    · exact Or.inl (by have := Nat.ble_eq.mp h; omega)
    · exact Or.inr (Nat.eq_of_beq_eq_true h))]
  unfold zlIB at h
  revert h
  generalize zlI k i s OL = o
  intro h
  match o, h with
  | some x, h => exact eq_of_beq h
  | none, h =>
    have h : v = 0 := eq_of_beq h
    rw [h]
    rfl
theorem zdo_sc : ∀ (l : List zOp) (M : zM), zsc (zdo l M) = zsc M
  | [], M => rfl
  | q :: l, M => by
    show zsc (zdo l (zdo1 M q)) = _
    rw [zdo_sc l (zdo1 M q)]
    obtain ⟨t, q⟩ := q
    match t with
    | 0 => rfl
    | 1 => rfl
    | 2 => rfl
    | t + 3 => rfl
set_option maxRecDepth 100000 in
theorem sq1 : (zlIB 10 0 2 6 && (zlIB 10 0 3 75 && (zlIB 10 0 4 0 && (zlIB 29 0 0 0 && (zlIB 29 0 1 150 && (zlIB 29 0 2 1 && (zlIB 29 0 3 17 && (zlIB 12 0 15 9999 && (zlIB 12 0 12 0 && (zlIB 3 0 3 0 && (zlIB 8 0 2 0 && (zlIB 2 0 3 0 && (zlIB 2 0 4 0 && (zlIB 2 0 5 0 && zlIB 11 0 2 0)))))))))))))) = true := by decide +kernel
set_option maxRecDepth 100000 in
theorem sq2 : (((List.range 17).all fun s => zlIB 114 0 s (nI (su1 s))) && (((List.range 14).all fun s => zlIB 115 0 s (nI (su2 s))) && ((List.range 25).all fun s => zlIB 116 0 s (nI (su3 s))))) = true := by decide +kernel
theorem zMb_sc (L : Nat × (Nat → Int32)) : zsc (zMb L) = L := by
  rw [zMb_do, zdo_sc]
  rfl
/-- the machine with what the law has told it -/
def sTs (u : Nat) : List (List yOp × List yOp) := if u = 1 then sT1 else if u = 2 then sT2 else if u = 3 then sT3 else []
def sqs (w : Nat) : Nat := if w = 0 then 0 else if w = 1 then 150 else if w = 2 then 1 else 17
def sO (T : List (List yOp × List yOp)) : List yOp := T.flatMap fun q => q.1 ++ q.2
def sGf (P kd : Nat) (A : zM) (k s : Nat) : Int32 :=
  if k = 13 then (if s = 1 then nI P else if s = 2 then nI 75 else if s = 4 then zgI A 10 0 5 else if s = 8 then zgI A 10 0 8 else 0)
  else if k = 57 then nI (sqs s)
  else if k = 63 then (if s < 260 then ((sO sT1).map yMa).getD (s - 130) 0 else if s < 390 then ((sO sT2).map yMa).getD (s - 260) 0 else ((sO sT3).map yMa).getD (s - 390) 0)
  else if k = 64 then (if s < 260 then ((sO sT1).map yMw).getD (s - 130) 0 else if s < 390 then ((sO sT2).map yMw).getD (s - 260) 0 else ((sO sT3).map yMw).getD (s - 390) 0)
  else if k = 65 then (if s = 1 then 3 else if s = 2 then 1 else if s = 3 then 1 else 0)
  else if k = 66 then (if s = 61 then 3 else if s = 62 then 8 else if s = 63 then 10 else 0)
  else if k = 67 then (if s = 61 then 5 else if s = 62 then 10 else if s = 63 then 13 else if s = 122 then 13 else if s = 183 then 21 else 0)
  else if k = 70 then nI kd else if k = 71 then zgI A 2 0 1 else if k = 72 then zgI A 2 0 2 else if k = 73 then zgI A 2 0 3 else if k = 75 then zgI A 2 0 5 else 0
def sG (P kd : Nat) (A : zM) : zM := (fun k _ s => sGf P kd A k s, fun _ _ _ => 0, fun _ _ _ => (0, 0), 0, (0, fun _ => 0))
def sSt0 (P kd : Nat) (A : zM) : Prop :=
  (zgI A 10 0 2 = nI P ∧ zgI A 10 0 3 = 75 ∧ zgI A 10 0 6 = 0 ∧ zgI A 10 0 7 = 0 ∧ zgI A 10 0 9 = 1 ∧ ∀ t, t ≤ 10 → zgI A 47 0 t = 0) ∧ (∀ u, u < 4 → yCl A u (sTs u)) ∧ (∀ v, 1 ≤ v → v ≤ 10 → zgI A 30 0 v = yTag sT1 v) ∧ (∀ w, w < 4 → zgI A 29 0 w = nI (sqs w)) ∧ Raf A ∧ (zgI A 2 0 0 = nI kd ∧ zgI A 2 0 4 = 0)
theorem sG_m0 (P kd : Nat) (A : zM) : yMt (sG P kd A) 0 (sTs 0) := ⟨rfl, Nat.zero_le _, Nat.zero_le _, trivial⟩
theorem sG_m1 (P kd : Nat) (A : zM) : yMt (sG P kd A) 1 (sTs 1) := ⟨rfl, by decide, by decide, rfl, rfl, ⟨rfl, fun _ => rfl, rfl, fun _ => rfl, rfl, fun q => absurd q (by decide), rfl, fun _ => rfl, rfl, fun q => absurd q (by decide), trivial⟩, rfl, rfl, ⟨rfl, fun _ => rfl, rfl, fun _ => rfl, rfl, fun q => absurd q (by decide), rfl, fun _ => rfl, rfl, fun q => absurd q (by decide), trivial⟩, rfl, rfl, ⟨rfl, fun _ => rfl, rfl, fun _ => rfl, rfl, fun q => absurd q (by decide), trivial⟩, trivial⟩
theorem sG_m2 (P kd : Nat) (A : zM) : yMt (sG P kd A) 2 (sTs 2) := ⟨rfl, by decide, by decide, rfl, rfl, ⟨rfl, fun _ => rfl, rfl, fun _ => rfl, rfl, fun _ => rfl, rfl, fun q => absurd q (by decide), rfl, fun q => absurd q (by decide), rfl, fun _ => rfl, rfl, fun _ => rfl, rfl, fun q => absurd q (by decide), rfl, fun q => absurd q (by decide), rfl, fun _ => rfl, rfl, fun _ => rfl, rfl, fun q => absurd q (by decide), rfl, fun q => absurd q (by decide), trivial⟩, trivial⟩
theorem sG_m3 (P kd : Nat) (A : zM) : yMt (sG P kd A) 3 (sTs 3) := ⟨rfl, by decide, by decide, rfl, rfl, ⟨rfl, fun _ => rfl, rfl, fun _ => rfl, rfl, fun _ => rfl, rfl, fun q => absurd q (by decide), rfl, fun q => absurd q (by decide), rfl, fun _ => rfl, rfl, fun _ => rfl, rfl, fun q => absurd q (by decide), rfl, fun q => absurd q (by decide), rfl, fun _ => rfl, rfl, fun _ => rfl, rfl, fun q => absurd q (by decide), rfl, fun _ => rfl, rfl, fun q => absurd q (by decide), rfl, fun q => absurd q (by decide), rfl, fun _ => rfl, rfl, fun _ => rfl, rfl, fun q => absurd q (by decide), rfl, fun _ => rfl, rfl, fun q => absurd q (by decide), rfl, fun q => absurd q (by decide), trivial⟩, trivial⟩
theorem sGhost (P kd : Nat) {A : zM} (hP : 1 ≤ P ∧ P ≤ 8) (hk : kd ≤ 7) (H : sSt0 P kd A) : ySho 0 P 75 A (sG P kd A) ∧ yTy sTs sqs A (sG P kd A) ∧ yBd 0 0 0 kd A (sG P kd A) := by
  obtain ⟨⟨a2, a3, a6, a7, a9, a47⟩, hT, hv, hq, hR, b0, b4⟩ := H
  refine ⟨⟨0, fun _ => 0, ⟨⟨hP, by omega, by omega⟩, ⟨a2, rfl⟩, ⟨a3, rfl⟩, rfl, ⟨a6, rfl⟩, rfl, ⟨a7, rfl⟩, fun v v1 v2 => ⟨a47 v v2, rfl⟩, rfl, fun v v1 v2 => Nat.zero_le _, show 0 < 52 * P by omega⟩, Or.inl ⟨a9, Or.inl rfl⟩⟩, ⟨fun u hu => ?_, hv, ⟨fun w hw => ⟨hq w hw, rfl⟩, by decide⟩, hR⟩, hk, ⟨b0, rfl⟩, rfl, rfl, rfl, ⟨b4, rfl⟩, rfl⟩
  rcases (by omega : u = 0 ∨ u = 1 ∨ u = 2 ∨ u = 3) with rfl | rfl | rfl | rfl
  · exact ⟨fun q hq => (by cases hq), fun q hq => (by cases hq), hT 0 hu, sG_m0 P kd A⟩
  · exact ⟨sT1_w, sT1_n, hT 1 hu, sG_m1 P kd A⟩
  · exact ⟨sT2_w, sT2_n, hT 2 hu, sG_m2 P kd A⟩
  · exact ⟨sT3_w, sT3_n, hT 3 hu, sG_m3 P kd A⟩
