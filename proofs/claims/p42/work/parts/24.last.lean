/-! ===== what the constructors' lists leave at a place ===== -/
/-- what is written last at a reference's place -/
def zlR (k i s : Nat) : List zOp → Option (Nat × Nat)
  | [] => none
  | q :: l => match zlR k i s l with
    | some v => some v
    | none => bif Nat.beq q.1 0 then (bif Nat.beq k q.2.1 && Nat.beq i q.2.2.1 then some (0, 0) else none) else bif Nat.beq q.1 1 && (Nat.beq k q.2.1 && (Nat.beq i q.2.2.1 && Nat.beq s q.2.2.2.1)) then some q.2.2.2.2.1 else none
/-- what is written last at an int's place -/
def zlI (k i s : Nat) : List zOp → Option Int32
  | [] => none
  | q :: l => match zlI k i s l with
    | some v => some v
    | none => bif Nat.beq q.1 0 then (bif Nat.beq k q.2.1 && Nat.beq i q.2.2.1 then some 0 else none) else bif Nat.beq q.1 2 && (Nat.beq k q.2.1 && (Nat.beq i q.2.2.1 && Nat.beq s q.2.2.2.1)) then some q.2.2.2.2.2 else none
theorem zlR_cons (k i s : Nat) (q : zOp) (l : List zOp) : zlR k i s (q :: l) = match zlR k i s l with
    | some v => some v
    | none => bif Nat.beq q.1 0 then (bif Nat.beq k q.2.1 && Nat.beq i q.2.2.1 then some (0, 0) else none) else bif Nat.beq q.1 1 && (Nat.beq k q.2.1 && (Nat.beq i q.2.2.1 && Nat.beq s q.2.2.2.1)) then some q.2.2.2.2.1 else none := rfl
theorem zlI_cons (k i s : Nat) (q : zOp) (l : List zOp) : zlI k i s (q :: l) = match zlI k i s l with
    | some v => some v
    | none => bif Nat.beq q.1 0 then (bif Nat.beq k q.2.1 && Nat.beq i q.2.2.1 then some 0 else none) else bif Nat.beq q.1 2 && (Nat.beq k q.2.1 && (Nat.beq i q.2.2.1 && Nat.beq s q.2.2.2.1)) then some q.2.2.2.2.2 else none := rfl
theorem zdo1_R (M : zM) (q : zOp) (k i s : Nat) : zgR (zdo1 M q) k i s = (bif Nat.beq q.1 0 then (bif Nat.beq k q.2.1 && Nat.beq i q.2.2.1 then some (0, 0) else none) else bif Nat.beq q.1 1 && (Nat.beq k q.2.1 && (Nat.beq i q.2.2.1 && Nat.beq s q.2.2.2.1)) then some q.2.2.2.2.1 else none).getD (zgR M k i s) := by
  obtain ⟨t, a, b, c, d, e⟩ := q
  match t with
  | 0 =>
    show (if k = a ∧ i = b then (0, 0) else M.2.2.1 k i s) = (bif Nat.beq k a && Nat.beq i b then some (0, 0) else none).getD (M.2.2.1 k i s)
    by_cases h : k = a ∧ i = b
    · rw [if_pos h, h.1, h.2, Nat.beq_refl, Nat.beq_refl]; rfl
    · rw [if_neg h]
      cases hb : (Nat.beq k a && Nat.beq i b) with
      | false => rfl
      | true =>
        obtain ⟨h1, h2⟩ := Bool.and_eq_true_iff.mp hb
        exact absurd ⟨zb_eq h1, zb_eq h2⟩ h
  | 1 =>
    show (if k = a ∧ i = b ∧ s = c then d else M.2.2.1 k i s) = (bif (Nat.beq k a && (Nat.beq i b && Nat.beq s c)) then some d else none).getD (M.2.2.1 k i s)
    by_cases h : k = a ∧ i = b ∧ s = c
    · rw [if_pos h, h.1, h.2.1, h.2.2, Nat.beq_refl, Nat.beq_refl, Nat.beq_refl]; rfl
    · rw [if_neg h]
      cases hb : (Nat.beq k a && (Nat.beq i b && Nat.beq s c)) with
      | false => rfl
      | true =>
        obtain ⟨h1, h2⟩ := Bool.and_eq_true_iff.mp hb
        obtain ⟨h2, h3⟩ := Bool.and_eq_true_iff.mp h2
        exact absurd ⟨zb_eq h1, zb_eq h2, zb_eq h3⟩ h
  | 2 => rfl
  | t + 3 => rfl
theorem zdo_lR (k i s : Nat) : ∀ (l : List zOp) (M : zM), zgR (zdo l M) k i s = (zlR k i s l).getD (zgR M k i s)
  | [], M => rfl
  | q :: l, M => by
    show zgR (zdo l (zdo1 M q)) k i s = _
    rw [zdo_lR k i s l (zdo1 M q), zdo1_R]
    rw [zlR_cons]
    generalize zlR k i s l = o
    cases o <;> rfl
/-- but the rows put in whole, an int is what is written last -/
theorem zdo1_I (M : zM) (q : zOp) (k i s : Nat) (hk : k ≠ 35) (hq : q.1 < 3 ∨ q.2.1 = 35) : zgI (zdo1 M q) k i s = (bif Nat.beq q.1 0 then (bif Nat.beq k q.2.1 && Nat.beq i q.2.2.1 then some 0 else none) else bif Nat.beq q.1 2 && (Nat.beq k q.2.1 && (Nat.beq i q.2.2.1 && Nat.beq s q.2.2.2.1)) then some q.2.2.2.2.2 else none).getD (zgI M k i s) := by
  obtain ⟨t, a, b, c, d, e⟩ := q
  match t, hq with
  | 0, _ =>
    show (if k = a ∧ i = b then (0 : Int32) else M.1 k i s) = (bif Nat.beq k a && Nat.beq i b then some 0 else none).getD (M.1 k i s)
    by_cases h : k = a ∧ i = b
    · rw [if_pos h, h.1, h.2, Nat.beq_refl, Nat.beq_refl]; rfl
    · rw [if_neg h]
      cases hb : (Nat.beq k a && Nat.beq i b) with
      | false => rfl
      | true =>
        obtain ⟨h1, h2⟩ := Bool.and_eq_true_iff.mp hb
        exact absurd ⟨zb_eq h1, zb_eq h2⟩ h
  | 1, _ => rfl
  | 2, _ =>
    show (if k = a ∧ i = b ∧ s = c then e else M.1 k i s) = (bif (Nat.beq k a && (Nat.beq i b && Nat.beq s c)) then some e else none).getD (M.1 k i s)
    by_cases h : k = a ∧ i = b ∧ s = c
    · rw [if_pos h, h.1, h.2.1, h.2.2, Nat.beq_refl, Nat.beq_refl, Nat.beq_refl]; rfl
    · rw [if_neg h]
      cases hb : (Nat.beq k a && (Nat.beq i b && Nat.beq s c)) with
      | false => rfl
      | true =>
        obtain ⟨h1, h2⟩ := Bool.and_eq_true_iff.mp hb
        obtain ⟨h2, h3⟩ := Bool.and_eq_true_iff.mp h2
        exact absurd ⟨zb_eq h1, zb_eq h2, zb_eq h3⟩ h
  | t + 3, hq =>
    have ha : a = 35 := by
      rcases hq with h | h
      · have h : t + 3 < 3 := h
        omega
      · exact h
    subst ha
    show (if k = 35 ∧ i = b then _ else M.1 k i s) = M.1 k i s
    rw [if_neg (fun q => hk q.1)]
theorem zdo_lI (k i s : Nat) (hk : k ≠ 35) : ∀ (l : List zOp) (M : zM), (∀ q ∈ l, q.1 < 3 ∨ q.2.1 = 35) → zgI (zdo l M) k i s = (zlI k i s l).getD (zgI M k i s)
  | [], M, _ => rfl
  | q :: l, M, h => by
    show zgI (zdo l (zdo1 M q)) k i s = _
    rw [zdo_lI k i s hk l (zdo1 M q) (fun q' hq => h q' (List.mem_cons_of_mem _ hq)), zdo1_I M q k i s hk (h q List.mem_cons_self)]
    rw [zlI_cons]
    generalize zlI k i s l = o
    cases o <;> rfl
