/-! ===== runs that keep to some kinds of cells: what else there is neither matters nor changes ===== -/
def zmg (K : Nat → Bool) (A B : zM) : zM := (fun k i s => if K k = true then A.1 k i s else B.1 k i s, fun k i s => if K k = true then A.2.1 k i s else B.2.1 k i s, fun k i s => if K k = true then A.2.2.1 k i s else B.2.2.1 k i s, A.2.2.2)
/-- what nobody writes: nothing, the string and its bytes -/
def zneu (k : Nat) : Bool := Nat.beq k 0 || Nat.beq k 14 || Nat.beq k 15
def zJ1 (K : Nat → Bool) : zV → Prop
  | .inr (.inr (.inl p)) => zneu p.1 = true ∨ K p.1 = true
  | _ => True
def zJl (K : Nat → Bool) (l : List zV) : Prop := ∀ v ∈ l, zJ1 K v
/-- the kinds are closed: no final reference leads out of them -/
def zJc (K : Nat → Bool) : Prop := ∀ k i s, K k = true → zneu (zrt k i s).1 = true ∨ K (zrt k i s).1 = true
def zJm (K : Nat → Bool) (M : zM) : Prop := ∀ k i s, K k = true → zmut k s = true → zJ1 K (zp (zgR M k i s))
def zJq (K : Nat → Bool) : zB → Prop
  | .inl q => zJl K q.2.1 ∧ zJl K q.2.2.1 ∧ zJm K q.2.2.2
  | .inr (.inl q) => (∀ v, q.1 = some v → zJ1 K v) ∧ zJm K q.2
  | .inr (.inr q) => zJl K q.2.1 ∧ zJl K q.2.2.2.1 ∧ zJl K q.2.2.2.2.1 ∧ zJm K q.2.2.2.2.2
def zqm (K : Nat → Bool) (B : zM) : zB → zB
  | .inl q => .inl (q.1, q.2.1, q.2.2.1, zmg K q.2.2.2 B)
  | .inr (.inl q) => .inr (.inl (q.1, zmg K q.2 B))
  | .inr (.inr q) => .inr (.inr (q.1, q.2.1, q.2.2.1, q.2.2.2.1, q.2.2.2.2.1, zmg K q.2.2.2.2.2 B))
theorem zJl_nil (K : Nat → Bool) : zJl K [] := fun v h => by cases h
theorem zJl_cons {K : Nat → Bool} {v : zV} {l : List zV} : zJl K (v :: l) ↔ zJ1 K v ∧ zJl K l := by
  unfold zJl
  constructor
  · intro h
    exact ⟨h v List.mem_cons_self, fun w hw => h w (List.mem_cons_of_mem _ hw)⟩
  · rintro ⟨h1, h2⟩ w hw
    rcases List.mem_cons.mp hw with rfl | hw
    · exact h1
    · exact h2 w hw
theorem zJl_st {K : Nat → Bool} {v : zV} (hv : zJ1 K v) : ∀ (a : Nat) {l : List zV}, zJl K l → zJl K (zst a v l)
  | 0, [], h => h
  | 0, x :: r, h => by
    show zJl K (v :: r)
    rw [zJl_cons] at h ⊢
    exact ⟨hv, h.2⟩
  | 1, [], h => h
  | 1, [x], h => by
    show zJl K (x :: zst 0 v [])
    exact h
  | 1, x :: y :: r, h => by
    show zJl K (zkl x :: v :: r)
    rw [zJl_cons, zJl_cons] at h
    rw [zJl_cons, zJl_cons]
    refine ⟨?_, hv, h.2.2⟩
    have := h.1
    obtain x | x | x | x := x <;> exact this
  | n + 2, [], h => h
  | n + 2, x :: r, h => by
    show zJl K (x :: zst (n + 1) v r)
    rw [zJl_cons] at h ⊢
    exact ⟨h.1, zJl_st hv (n + 1) h.2⟩
theorem zJl_setn {K : Nat → Bool} {v : zV} (hv : zJ1 K v) : ∀ (a : Nat) {l : List zV}, zJl K l → zJl K (zsetn a v l)
  | 0, [], h => h
  | 0, x :: r, h => by
    show zJl K (v :: r)
    rw [zJl_cons] at h ⊢
    exact ⟨hv, h.2⟩
  | n + 1, [], h => h
  | n + 1, x :: r, h => by
    show zJl K (x :: zsetn n v r)
    rw [zJl_cons] at h ⊢
    exact ⟨h.1, zJl_setn hv n h.2⟩
theorem zJl_st2 {K : Nat → Bool} {v : zV} (hv : zJ1 K v) (a : Nat) {l : List zV} (h : zJl K l) : zJl K (zst2 a v l) := zJl_setn (show zJ1 K zu from trivial) _ (zJl_st hv a h)
theorem zJl_nth {K : Nat → Bool} {v : zV} {l : List zV} {a : Nat} (h : zJl K l) (hv : znth a l = v) : zJ1 K v := by
  by_cases hu : v = zu
  · rw [hu]; trivial
  · exact h v (List.mem_of_getElem? (znth_get a l v hv hu))
theorem zJl_take {K : Nat → Bool} {l : List zV} (d : Nat) (h : zJl K l) : zJl K (l.take d) := fun v hv => h v (List.mem_of_mem_take hv)
theorem zJl_drop {K : Nat → Bool} {l : List zV} (d : Nat) (h : zJl K l) : zJl K (l.drop d) := fun v hv => h v (List.mem_of_mem_drop hv)
theorem zJl_rev {K : Nat → Bool} {l : List zV} (h : zJl K l) : zJl K l.reverse := fun v hv => h v (List.mem_reverse.mp hv)
theorem zJl_app {K : Nat → Bool} {a b : List zV} (h1 : zJl K a) (h2 : zJl K b) : zJl K (a ++ b) := fun v hv => (List.mem_append.mp hv).elim (h1 v) (h2 v)
theorem zJl_args {K : Nat → Bool} : ∀ {l : List zV}, zJl K l → zJl K (zargs l)
  | [], h => h
  | .inl x :: r, h => by
    rw [zJl_cons] at h
    exact zJl_cons.mpr ⟨h.1, zJl_args h.2⟩
  | .inr (.inl x) :: r, h => by
    rw [zJl_cons] at h
    exact zJl_cons.mpr ⟨h.1, zJl_cons.mpr ⟨trivial, zJl_args h.2⟩⟩
  | .inr (.inr (.inl x)) :: r, h => by
    rw [zJl_cons] at h
    exact zJl_cons.mpr ⟨h.1, zJl_args h.2⟩
  | .inr (.inr (.inr x)) :: r, h => by
    rw [zJl_cons] at h
    exact zJl_cons.mpr ⟨h.1, zJl_args h.2⟩
theorem zJl_pad {K : Nat → Bool} (n : Nat) {l : List zV} (h : zJl K l) : zJl K (zpad n l) := zJl_app h (fun v hv => by rw [(List.mem_replicate.mp hv).2]; trivial)
theorem zJl_push {K : Nat → Bool} {o : Option zV} {l : List zV} (ho : ∀ v, o = some v → zJ1 K v) (h : zJl K l) : zJl K (zpush o l) := by
  cases o with
  | none => exact h
  | some v => exact zJl_cons.mpr ⟨ho v rfl, h⟩
theorem zmg_I {K : Nat → Bool} {A B : zM} {k i s : Nat} (h : K k = true) : zgI (zmg K A B) k i s = zgI A k i s := if_pos h
theorem zmg_L {K : Nat → Bool} {A B : zM} {k i s : Nat} (h : K k = true) : zgL (zmg K A B) k i s = zgL A k i s := if_pos h
theorem zmg_R {K : Nat → Bool} {A B : zM} {k i s : Nat} (h : K k = true) : zgR (zmg K A B) k i s = zgR A k i s := if_pos h
theorem zmg_sI {K : Nat → Bool} {A B : zM} {k i s : Nat} {v : Int32} (h : K k = true) : zsI (zmg K A B) k i s v = zmg K (zsI A k i s v) B := by
  have e : (zsI (zmg K A B) k i s v).1 = (zmg K (zsI A k i s v) B).1 := by
    funext k' i' s'
    show (if k' = k ∧ i' = i ∧ s' = s then v else if K k' = true then A.1 k' i' s' else B.1 k' i' s') = if K k' = true then (if k' = k ∧ i' = i ∧ s' = s then v else A.1 k' i' s') else B.1 k' i' s'
    by_cases q : k' = k ∧ i' = i ∧ s' = s
    · rw [if_pos q, if_pos (by rw [q.1]; exact h), if_pos q]
    · rw [if_neg q, if_neg q]
  exact Prod.ext e rfl
theorem zmg_sL {K : Nat → Bool} {A B : zM} {k i s : Nat} {v : Int64} (h : K k = true) : zsL (zmg K A B) k i s v = zmg K (zsL A k i s v) B := by
  have e : (zsL (zmg K A B) k i s v).2.1 = (zmg K (zsL A k i s v) B).2.1 := by
    funext k' i' s'
    show (if k' = k ∧ i' = i ∧ s' = s then v else if K k' = true then A.2.1 k' i' s' else B.2.1 k' i' s') = if K k' = true then (if k' = k ∧ i' = i ∧ s' = s then v else A.2.1 k' i' s') else B.2.1 k' i' s'
    by_cases q : k' = k ∧ i' = i ∧ s' = s
    · rw [if_pos q, if_pos (by rw [q.1]; exact h), if_pos q]
    · rw [if_neg q, if_neg q]
  exact Prod.ext rfl (Prod.ext e rfl)
theorem zmg_sR {K : Nat → Bool} {A B : zM} {k i s : Nat} {v : Nat × Nat} (h : K k = true) : zsR (zmg K A B) k i s v = zmg K (zsR A k i s v) B := by
  have e : (zsR (zmg K A B) k i s v).2.2.1 = (zmg K (zsR A k i s v) B).2.2.1 := by
    funext k' i' s'
    show (if k' = k ∧ i' = i ∧ s' = s then v else if K k' = true then A.2.2.1 k' i' s' else B.2.2.1 k' i' s') = if K k' = true then (if k' = k ∧ i' = i ∧ s' = s then v else A.2.2.1 k' i' s') else B.2.2.1 k' i' s'
    by_cases q : k' = k ∧ i' = i ∧ s' = s
    · rw [if_pos q, if_pos (by rw [q.1]; exact h), if_pos q]
    · rw [if_neg q, if_neg q]
  exact Prod.ext rfl (Prod.ext rfl (Prod.ext e rfl))
theorem zmg_sc {K : Nat → Bool} {A B : zM} : zsc (zmg K A B) = zsc A := rfl
theorem zmg_len {K : Nat → Bool} {A B : zM} {k : Nat} : zlen (zmg K A B) k = zlen A k := rfl
theorem zmg_ld {K : Nat → Bool} {A B : zM} {k i j : Nat} (h : K k = true) : zld (zmg K A B) k i j = zld A k i j := by
  unfold zld
  rw [zmg_I h, zmg_sc]
theorem zmg_FI {K : Nat → Bool} {A B : zM} {k i s : Nat} (h : K k = true) : zgFI (zmg K A B) k i s = zgFI A k i s := by
  unfold zgFI
  rw [zmg_I h]
theorem zmg_F {K : Nat → Bool} {A B : zM} {k i s : Nat} (h : K k = true) : zgF false (zmg K A B) k i s = zgF false A k i s := by
  unfold zgF
  rw [zmg_R h]
theorem zgF_J {K : Nat → Bool} {A : zM} {k i s : Nat} (hc : zJc K) (hA : zJm K A) (h : K k = true) : zJ1 K (zp (zgF false A k i s)) := by
  unfold zgF
  cases hm : zmut k s with
  | true => exact hA k i s h hm
  | false => exact hc k i s h
theorem zJm_sI {K : Nat → Bool} {A : zM} {k i s : Nat} {v : Int32} (h : zJm K A) : zJm K (zsI A k i s v) := h
theorem zJm_sL {K : Nat → Bool} {A : zM} {k i s : Nat} {v : Int64} (h : zJm K A) : zJm K (zsL A k i s v) := h
theorem zJm_sR {K : Nat → Bool} {A : zM} {k i s : Nat} {v : Nat × Nat} (h : zJm K A) (hv : zJ1 K (zp v)) : zJm K (zsR A k i s v) := by
  intro k' i' s' h1 h2
  rw [zgR_sR]
  by_cases q : k' = k ∧ i' = i ∧ s' = s
  · rw [if_pos q]; exact hv
  · rw [if_neg q]; exact h k' i' s' h1 h2
/-- a reference that has cells is of the kinds -/
theorem zJ_of {K : Nat → Bool} {p : Nat × Nat} {k : Nat} (h : zJ1 K (zp p)) (hk : p.1 = k) (h0 : zneu k = false) : K k = true := by
  rcases h with h | h
  · rw [hk, h0] at h; cases h
  · rw [← hk]; exact h
theorem zJl_1 {K : Nat → Bool} {v : zV} {l : List zV} (h : zJl K (v :: l)) : zJl K l := (zJl_cons.mp h).2
theorem zneu_at {k : Nat} (n : Nat) (h : Nat.beq (zat k) n = true) (h0 : n ≠ 0) (h2 : n ≠ 2) : zneu k = false := by
  have e := zb_eq h
  cases hz : zneu k with
  | false => rfl
  | true =>
    exfalso
    unfold zneu at hz
    rw [Bool.or_eq_true, Bool.or_eq_true] at hz
    rcases hz with (hz | hz) | hz
    · rw [zb_eq hz] at e; exact h0 e.symm
    · rw [zb_eq hz] at e; exact h0 e.symm
    · rw [zb_eq hz] at e; exact h2 e.symm
theorem zneu_15 {k : Nat} (hz : zneu k = true) (h : (Nat.beq (zat k) 2 || Nat.beq (zat k) 4) = true) : k = 15 := by
  unfold zneu at hz
  rw [Bool.or_eq_true, Bool.or_eq_true] at hz
  rcases hz with (hz | hz) | hz
  · rw [zb_eq hz] at h; exact absurd h (by decide)
  · rw [zb_eq hz] at h; exact absurd h (by decide)
  · exact zb_eq hz
def zfok (E : zE) : Bool := match E.1 with
  | .getfield _ => !zneu E.2.2.1.1 || (Nat.beq E.2.2.1.1 14 && !Nat.beq E.2.2.1.2.2 2)
  | .putfield _ => !zneu E.2.2.1.1
  | _ => true
set_option maxHeartbeats 16000000 in
set_option maxRecDepth 100000 in
theorem zS_ind {K : Nat → Bool} (hc : zJc K) {pc : Nat} {ls st : List zV} {A B : zM} {E : zE} {q : zB} (hE : zfok E = true) (hl : zJl K ls) (hs : zJl K st) (hA : zJm K A) (h : zS false pc ls st A E = some q) : zS false pc ls st (zmg K A B) E = some (zqm K B q) ∧ zJq K q := by
  obtain ⟨I, n, ⟨a, d, g⟩, z, w, sw⟩ := E
  cases I
  case iconst =>
    · simp only [zS, zX, Option.some.injEq] at h; subst h; exact ⟨rfl, hl, zJl_cons.mpr ⟨trivial, hs⟩, hA⟩
  case bipush =>
    · simp only [zS, zX, Option.some.injEq] at h; subst h; exact ⟨rfl, hl, zJl_cons.mpr ⟨trivial, hs⟩, hA⟩
  case sipush =>
    · simp only [zS, zX, Option.some.injEq] at h; subst h; exact ⟨rfl, hl, zJl_cons.mpr ⟨trivial, hs⟩, hA⟩
  case ldc_w =>
    · simp only [zS, zX, Option.some.injEq] at h; subst h; exact ⟨rfl, hl, zJl_cons.mpr ⟨trivial, hs⟩, hA⟩
  case getstatic =>
    · simp only [zS, zX, Option.some.injEq] at h; subst h; exact ⟨rfl, hl, zJl_cons.mpr ⟨trivial, hs⟩, hA⟩
  case lconst =>
    · simp only [zS, zX, Option.some.injEq] at h; subst h; exact ⟨rfl, hl, zJl_cons.mpr ⟨trivial, hs⟩, hA⟩
  case ldc2_w =>
    · simp only [zS, zX, Option.some.injEq] at h; subst h; exact ⟨rfl, hl, zJl_cons.mpr ⟨trivial, hs⟩, hA⟩
  case ldc =>
    · cases hb : Nat.beq a 1 with
      | true => simp only [zS, zX, hb, cond_true, Option.some.injEq] at h; subst h; exact ⟨by simp only [zS, zX, hb, cond_true, zqm], hl, zJl_cons.mpr ⟨Or.inl rfl, hs⟩, hA⟩
      | false => simp only [zS, zX, hb, cond_false, Option.some.injEq] at h; subst h; exact ⟨by simp only [zS, zX, hb, cond_false, zqm], hl, zJl_cons.mpr ⟨trivial, hs⟩, hA⟩
  case aconst_null =>
    · simp only [zS, zX, Option.some.injEq] at h; subst h; exact ⟨rfl, hl, zJl_cons.mpr ⟨Or.inl rfl, hs⟩, hA⟩
  case iload =>
    cases hn : znth a ls with
    | inl x => first | (simp only [zS, zX, hn, reduceCtorEq] at h; done) | (simp only [zS, zX, hn, Option.some.injEq] at h; subst h; exact ⟨by simp only [zS, zX, hn, zqm], hl, zJl_cons.mpr ⟨trivial, hs⟩, hA⟩)
    | inr x => obtain x | x | x := x
               · first | (simp only [zS, zX, hn, reduceCtorEq] at h; done) | (simp only [zS, zX, hn, Option.some.injEq] at h; subst h; exact ⟨by simp only [zS, zX, hn, zqm], hl, zJl_cons.mpr ⟨trivial, hs⟩, hA⟩)
               · first | (simp only [zS, zX, hn, reduceCtorEq] at h; done) | (simp only [zS, zX, hn, Option.some.injEq] at h; subst h; exact ⟨by simp only [zS, zX, hn, zqm], hl, zJl_cons.mpr ⟨zJl_nth hl hn, hs⟩, hA⟩)
               · simp only [zS, zX, hn, reduceCtorEq] at h
  case iload_n =>
    cases hn : znth a ls with
    | inl x => first | (simp only [zS, zX, hn, reduceCtorEq] at h; done) | (simp only [zS, zX, hn, Option.some.injEq] at h; subst h; exact ⟨by simp only [zS, zX, hn, zqm], hl, zJl_cons.mpr ⟨trivial, hs⟩, hA⟩)
    | inr x => obtain x | x | x := x
               · first | (simp only [zS, zX, hn, reduceCtorEq] at h; done) | (simp only [zS, zX, hn, Option.some.injEq] at h; subst h; exact ⟨by simp only [zS, zX, hn, zqm], hl, zJl_cons.mpr ⟨trivial, hs⟩, hA⟩)
               · first | (simp only [zS, zX, hn, reduceCtorEq] at h; done) | (simp only [zS, zX, hn, Option.some.injEq] at h; subst h; exact ⟨by simp only [zS, zX, hn, zqm], hl, zJl_cons.mpr ⟨zJl_nth hl hn, hs⟩, hA⟩)
               · simp only [zS, zX, hn, reduceCtorEq] at h
  case lload =>
    cases hn : znth a ls with
    | inl x => first | (simp only [zS, zX, hn, reduceCtorEq] at h; done) | (simp only [zS, zX, hn, Option.some.injEq] at h; subst h; exact ⟨by simp only [zS, zX, hn, zqm], hl, zJl_cons.mpr ⟨trivial, hs⟩, hA⟩)
    | inr x => obtain x | x | x := x
               · first | (simp only [zS, zX, hn, reduceCtorEq] at h; done) | (simp only [zS, zX, hn, Option.some.injEq] at h; subst h; exact ⟨by simp only [zS, zX, hn, zqm], hl, zJl_cons.mpr ⟨trivial, hs⟩, hA⟩)
               · first | (simp only [zS, zX, hn, reduceCtorEq] at h; done) | (simp only [zS, zX, hn, Option.some.injEq] at h; subst h; exact ⟨by simp only [zS, zX, hn, zqm], hl, zJl_cons.mpr ⟨zJl_nth hl hn, hs⟩, hA⟩)
               · simp only [zS, zX, hn, reduceCtorEq] at h
  case lload_n =>
    cases hn : znth a ls with
    | inl x => first | (simp only [zS, zX, hn, reduceCtorEq] at h; done) | (simp only [zS, zX, hn, Option.some.injEq] at h; subst h; exact ⟨by simp only [zS, zX, hn, zqm], hl, zJl_cons.mpr ⟨trivial, hs⟩, hA⟩)
    | inr x => obtain x | x | x := x
               · first | (simp only [zS, zX, hn, reduceCtorEq] at h; done) | (simp only [zS, zX, hn, Option.some.injEq] at h; subst h; exact ⟨by simp only [zS, zX, hn, zqm], hl, zJl_cons.mpr ⟨trivial, hs⟩, hA⟩)
               · first | (simp only [zS, zX, hn, reduceCtorEq] at h; done) | (simp only [zS, zX, hn, Option.some.injEq] at h; subst h; exact ⟨by simp only [zS, zX, hn, zqm], hl, zJl_cons.mpr ⟨zJl_nth hl hn, hs⟩, hA⟩)
               · simp only [zS, zX, hn, reduceCtorEq] at h
  case aload =>
    cases hn : znth a ls with
    | inl x => first | (simp only [zS, zX, hn, reduceCtorEq] at h; done) | (simp only [zS, zX, hn, Option.some.injEq] at h; subst h; exact ⟨by simp only [zS, zX, hn, zqm], hl, zJl_cons.mpr ⟨trivial, hs⟩, hA⟩)
    | inr x => obtain x | x | x := x
               · first | (simp only [zS, zX, hn, reduceCtorEq] at h; done) | (simp only [zS, zX, hn, Option.some.injEq] at h; subst h; exact ⟨by simp only [zS, zX, hn, zqm], hl, zJl_cons.mpr ⟨trivial, hs⟩, hA⟩)
               · first | (simp only [zS, zX, hn, reduceCtorEq] at h; done) | (simp only [zS, zX, hn, Option.some.injEq] at h; subst h; exact ⟨by simp only [zS, zX, hn, zqm], hl, zJl_cons.mpr ⟨zJl_nth hl hn, hs⟩, hA⟩)
               · simp only [zS, zX, hn, reduceCtorEq] at h
  case aload_n =>
    cases hn : znth a ls with
    | inl x => first | (simp only [zS, zX, hn, reduceCtorEq] at h; done) | (simp only [zS, zX, hn, Option.some.injEq] at h; subst h; exact ⟨by simp only [zS, zX, hn, zqm], hl, zJl_cons.mpr ⟨trivial, hs⟩, hA⟩)
    | inr x => obtain x | x | x := x
               · first | (simp only [zS, zX, hn, reduceCtorEq] at h; done) | (simp only [zS, zX, hn, Option.some.injEq] at h; subst h; exact ⟨by simp only [zS, zX, hn, zqm], hl, zJl_cons.mpr ⟨trivial, hs⟩, hA⟩)
               · first | (simp only [zS, zX, hn, reduceCtorEq] at h; done) | (simp only [zS, zX, hn, Option.some.injEq] at h; subst h; exact ⟨by simp only [zS, zX, hn, zqm], hl, zJl_cons.mpr ⟨zJl_nth hl hn, hs⟩, hA⟩)
               · simp only [zS, zX, hn, reduceCtorEq] at h
  case istore =>
    obtain _ | ⟨(x | x | x | x), r⟩ := st
    all_goals first | (simp only [zS, zX, reduceCtorEq] at h; done) | skip
    · simp only [zS, zX, Option.some.injEq] at h; subst h; exact ⟨rfl, zJl_st (show zJ1 K (zi x) from trivial) a hl, zJl_1 hs, hA⟩
  case istore_n =>
    obtain _ | ⟨(x | x | x | x), r⟩ := st
    all_goals first | (simp only [zS, zX, reduceCtorEq] at h; done) | skip
    · simp only [zS, zX, Option.some.injEq] at h; subst h; exact ⟨rfl, zJl_st (show zJ1 K (zi x) from trivial) a hl, zJl_1 hs, hA⟩
  case lstore =>
    obtain _ | ⟨(x | x | x | x), r⟩ := st
    all_goals first | (simp only [zS, zX, reduceCtorEq] at h; done) | skip
    · simp only [zS, zX, Option.some.injEq] at h; subst h; exact ⟨rfl, zJl_st2 (show zJ1 K (zl x) from trivial) a hl, zJl_1 hs, hA⟩
  case lstore_n =>
    obtain _ | ⟨(x | x | x | x), r⟩ := st
    all_goals first | (simp only [zS, zX, reduceCtorEq] at h; done) | skip
    · simp only [zS, zX, Option.some.injEq] at h; subst h; exact ⟨rfl, zJl_st2 (show zJ1 K (zl x) from trivial) a hl, zJl_1 hs, hA⟩
  case astore =>
    obtain _ | ⟨(x | x | x | x), r⟩ := st
    all_goals first | (simp only [zS, zX, reduceCtorEq] at h; done) | skip
    · simp only [zS, zX, Option.some.injEq] at h; subst h; exact ⟨rfl, zJl_st (zJl_cons.mp hs).1 a hl, zJl_1 hs, hA⟩
  case astore_n =>
    obtain _ | ⟨(x | x | x | x), r⟩ := st
    all_goals first | (simp only [zS, zX, reduceCtorEq] at h; done) | skip
    · simp only [zS, zX, Option.some.injEq] at h; subst h; exact ⟨rfl, zJl_st (zJl_cons.mp hs).1 a hl, zJl_1 hs, hA⟩
  case iinc =>
    cases hn : znth a ls with
    | inl x => simp only [zS, zX, hn, Option.some.injEq] at h; subst h; exact ⟨by simp only [zS, zX, hn, zqm], zJl_st (show zJ1 K (zi (x + z)) from trivial) a hl, hs, hA⟩
    | inr x => obtain x | x | x := x <;> (simp only [zS, zX, hn, reduceCtorEq] at h; done)
  case iadd =>
    obtain _ | ⟨(y | y | y | y), _ | ⟨(x | x | x | x), r⟩⟩ := st
    all_goals first | (simp only [zS, zX, reduceCtorEq] at h; done) | skip
    · simp only [zS, zX, Option.some.injEq] at h; subst h; exact ⟨rfl, hl, zJl_cons.mpr ⟨trivial, zJl_1 (zJl_1 hs)⟩, hA⟩
  case isub =>
    obtain _ | ⟨(y | y | y | y), _ | ⟨(x | x | x | x), r⟩⟩ := st
    all_goals first | (simp only [zS, zX, reduceCtorEq] at h; done) | skip
    · simp only [zS, zX, Option.some.injEq] at h; subst h; exact ⟨rfl, hl, zJl_cons.mpr ⟨trivial, zJl_1 (zJl_1 hs)⟩, hA⟩
  case imul =>
    obtain _ | ⟨(y | y | y | y), _ | ⟨(x | x | x | x), r⟩⟩ := st
    all_goals first | (simp only [zS, zX, reduceCtorEq] at h; done) | skip
    · simp only [zS, zX, Option.some.injEq] at h; subst h; exact ⟨rfl, hl, zJl_cons.mpr ⟨trivial, zJl_1 (zJl_1 hs)⟩, hA⟩
  case iand =>
    obtain _ | ⟨(y | y | y | y), _ | ⟨(x | x | x | x), r⟩⟩ := st
    all_goals first | (simp only [zS, zX, reduceCtorEq] at h; done) | skip
    · simp only [zS, zX, Option.some.injEq] at h; subst h; exact ⟨rfl, hl, zJl_cons.mpr ⟨trivial, zJl_1 (zJl_1 hs)⟩, hA⟩
  case ixor =>
    obtain _ | ⟨(y | y | y | y), _ | ⟨(x | x | x | x), r⟩⟩ := st
    all_goals first | (simp only [zS, zX, reduceCtorEq] at h; done) | skip
    · simp only [zS, zX, Option.some.injEq] at h; subst h; exact ⟨rfl, hl, zJl_cons.mpr ⟨trivial, zJl_1 (zJl_1 hs)⟩, hA⟩
  case ior =>
    obtain _ | ⟨(y | y | y | y), _ | ⟨(x | x | x | x), r⟩⟩ := st
    all_goals first | (simp only [zS, zX, reduceCtorEq] at h; done) | skip
    · simp only [zS, zX, Option.some.injEq] at h; subst h; exact ⟨rfl, hl, zJl_cons.mpr ⟨trivial, zJl_1 (zJl_1 hs)⟩, hA⟩
  case ishl =>
    obtain _ | ⟨(y | y | y | y), _ | ⟨(x | x | x | x), r⟩⟩ := st
    all_goals first | (simp only [zS, zX, reduceCtorEq] at h; done) | skip
    · simp only [zS, zX, Option.some.injEq] at h; subst h; exact ⟨rfl, hl, zJl_cons.mpr ⟨trivial, zJl_1 (zJl_1 hs)⟩, hA⟩
  case ishr =>
    obtain _ | ⟨(y | y | y | y), _ | ⟨(x | x | x | x), r⟩⟩ := st
    all_goals first | (simp only [zS, zX, reduceCtorEq] at h; done) | skip
    · simp only [zS, zX, Option.some.injEq] at h; subst h; exact ⟨rfl, hl, zJl_cons.mpr ⟨trivial, zJl_1 (zJl_1 hs)⟩, hA⟩
  case iushr =>
    obtain _ | ⟨(y | y | y | y), _ | ⟨(x | x | x | x), r⟩⟩ := st
    all_goals first | (simp only [zS, zX, reduceCtorEq] at h; done) | skip
    · simp only [zS, zX, Option.some.injEq] at h; subst h; exact ⟨rfl, hl, zJl_cons.mpr ⟨trivial, zJl_1 (zJl_1 hs)⟩, hA⟩
  case ladd =>
    obtain _ | ⟨(y | y | y | y), _ | ⟨(x | x | x | x), r⟩⟩ := st
    all_goals first | (simp only [zS, zX, reduceCtorEq] at h; done) | skip
    · simp only [zS, zX, Option.some.injEq] at h; subst h; exact ⟨rfl, hl, zJl_cons.mpr ⟨trivial, zJl_1 (zJl_1 hs)⟩, hA⟩
  case lsub =>
    obtain _ | ⟨(y | y | y | y), _ | ⟨(x | x | x | x), r⟩⟩ := st
    all_goals first | (simp only [zS, zX, reduceCtorEq] at h; done) | skip
    · simp only [zS, zX, Option.some.injEq] at h; subst h; exact ⟨rfl, hl, zJl_cons.mpr ⟨trivial, zJl_1 (zJl_1 hs)⟩, hA⟩
  case lmul =>
    obtain _ | ⟨(y | y | y | y), _ | ⟨(x | x | x | x), r⟩⟩ := st
    all_goals first | (simp only [zS, zX, reduceCtorEq] at h; done) | skip
    · simp only [zS, zX, Option.some.injEq] at h; subst h; exact ⟨rfl, hl, zJl_cons.mpr ⟨trivial, zJl_1 (zJl_1 hs)⟩, hA⟩
  case land =>
    obtain _ | ⟨(y | y | y | y), _ | ⟨(x | x | x | x), r⟩⟩ := st
    all_goals first | (simp only [zS, zX, reduceCtorEq] at h; done) | skip
    · simp only [zS, zX, Option.some.injEq] at h; subst h; exact ⟨rfl, hl, zJl_cons.mpr ⟨trivial, zJl_1 (zJl_1 hs)⟩, hA⟩
  case lor =>
    obtain _ | ⟨(y | y | y | y), _ | ⟨(x | x | x | x), r⟩⟩ := st
    all_goals first | (simp only [zS, zX, reduceCtorEq] at h; done) | skip
    · simp only [zS, zX, Option.some.injEq] at h; subst h; exact ⟨rfl, hl, zJl_cons.mpr ⟨trivial, zJl_1 (zJl_1 hs)⟩, hA⟩
  case lshl =>
    obtain _ | ⟨(y | y | y | y), _ | ⟨(x | x | x | x), r⟩⟩ := st
    all_goals first | (simp only [zS, zX, reduceCtorEq] at h; done) | skip
    · simp only [zS, zX, Option.some.injEq] at h; subst h; exact ⟨rfl, hl, zJl_cons.mpr ⟨trivial, zJl_1 (zJl_1 hs)⟩, hA⟩
  case lcmp =>
    obtain _ | ⟨(y | y | y | y), _ | ⟨(x | x | x | x), r⟩⟩ := st
    all_goals first | (simp only [zS, zX, reduceCtorEq] at h; done) | skip
    · simp only [zS, zX, Option.some.injEq] at h; subst h; exact ⟨rfl, hl, zJl_cons.mpr ⟨trivial, zJl_1 (zJl_1 hs)⟩, hA⟩
  case idiv =>
    obtain _ | ⟨(y | y | y | y), _ | ⟨(x | x | x | x), r⟩⟩ := st
    all_goals first | (simp only [zS, zX, reduceCtorEq] at h; done) | skip
    · by_cases e : y = 0
      · simp only [zS, zX, if_pos e, reduceCtorEq] at h
      · simp only [zS, zX, if_neg e, Option.some.injEq] at h; subst h; exact ⟨by simp only [zS, zX, if_neg e, zqm], hl, zJl_cons.mpr ⟨trivial, zJl_1 (zJl_1 hs)⟩, hA⟩
  case irem =>
    obtain _ | ⟨(y | y | y | y), _ | ⟨(x | x | x | x), r⟩⟩ := st
    all_goals first | (simp only [zS, zX, reduceCtorEq] at h; done) | skip
    · by_cases e : y = 0
      · simp only [zS, zX, if_pos e, reduceCtorEq] at h
      · simp only [zS, zX, if_neg e, Option.some.injEq] at h; subst h; exact ⟨by simp only [zS, zX, if_neg e, zqm], hl, zJl_cons.mpr ⟨trivial, zJl_1 (zJl_1 hs)⟩, hA⟩
  case ldiv =>
    obtain _ | ⟨(y | y | y | y), _ | ⟨(x | x | x | x), r⟩⟩ := st
    all_goals first | (simp only [zS, zX, reduceCtorEq] at h; done) | skip
    · by_cases e : y = 0
      · simp only [zS, zX, if_pos e, reduceCtorEq] at h
      · simp only [zS, zX, if_neg e, Option.some.injEq] at h; subst h; exact ⟨by simp only [zS, zX, if_neg e, zqm], hl, zJl_cons.mpr ⟨trivial, zJl_1 (zJl_1 hs)⟩, hA⟩
  case ineg =>
    obtain _ | ⟨(x | x | x | x), r⟩ := st
    all_goals first | (simp only [zS, zX, reduceCtorEq] at h; done) | skip
    · simp only [zS, zX, Option.some.injEq] at h; subst h; exact ⟨rfl, hl, zJl_cons.mpr ⟨trivial, zJl_1 hs⟩, hA⟩
  case lneg =>
    obtain _ | ⟨(x | x | x | x), r⟩ := st
    all_goals first | (simp only [zS, zX, reduceCtorEq] at h; done) | skip
    · simp only [zS, zX, Option.some.injEq] at h; subst h; exact ⟨rfl, hl, zJl_cons.mpr ⟨trivial, zJl_1 hs⟩, hA⟩
  case i2b =>
    obtain _ | ⟨(x | x | x | x), r⟩ := st
    all_goals first | (simp only [zS, zX, reduceCtorEq] at h; done) | skip
    · simp only [zS, zX, Option.some.injEq] at h; subst h; exact ⟨rfl, hl, zJl_cons.mpr ⟨trivial, zJl_1 hs⟩, hA⟩
  case i2s =>
    obtain _ | ⟨(x | x | x | x), r⟩ := st
    all_goals first | (simp only [zS, zX, reduceCtorEq] at h; done) | skip
    · simp only [zS, zX, Option.some.injEq] at h; subst h; exact ⟨rfl, hl, zJl_cons.mpr ⟨trivial, zJl_1 hs⟩, hA⟩
  case i2c =>
    obtain _ | ⟨(x | x | x | x), r⟩ := st
    all_goals first | (simp only [zS, zX, reduceCtorEq] at h; done) | skip
    · simp only [zS, zX, Option.some.injEq] at h; subst h; exact ⟨rfl, hl, zJl_cons.mpr ⟨trivial, zJl_1 hs⟩, hA⟩
  case i2l =>
    obtain _ | ⟨(x | x | x | x), r⟩ := st
    all_goals first | (simp only [zS, zX, reduceCtorEq] at h; done) | skip
    · simp only [zS, zX, Option.some.injEq] at h; subst h; exact ⟨rfl, hl, zJl_cons.mpr ⟨trivial, zJl_1 hs⟩, hA⟩
  case l2i =>
    obtain _ | ⟨(x | x | x | x), r⟩ := st
    all_goals first | (simp only [zS, zX, reduceCtorEq] at h; done) | skip
    · simp only [zS, zX, Option.some.injEq] at h; subst h; exact ⟨rfl, hl, zJl_cons.mpr ⟨trivial, zJl_1 hs⟩, hA⟩
  case ifCond c _ =>
    obtain _ | ⟨(x | x | x | x), r⟩ := st
    all_goals first | (simp only [zS, zX, reduceCtorEq] at h; done) | skip
    · cases c <;> (simp only [zS, zX] at h ⊢; split at h <;> (rename_i e; simp only [Option.some.injEq] at h; subst h; first | exact ⟨if_pos e, hl, zJl_1 hs, hA⟩ | exact ⟨if_neg e, hl, zJl_1 hs, hA⟩))
  case if_icmp c _ =>
    obtain _ | ⟨(y | y | y | y), _ | ⟨(x | x | x | x), r⟩⟩ := st
    all_goals first | (simp only [zS, zX, reduceCtorEq] at h; done) | skip
    · cases c <;> (simp only [zS, zX] at h ⊢; split at h <;> (rename_i e; simp only [Option.some.injEq] at h; subst h; first | exact ⟨if_pos e, hl, zJl_1 (zJl_1 hs), hA⟩ | exact ⟨if_neg e, hl, zJl_1 (zJl_1 hs), hA⟩))
  case goto =>
    · simp only [zS, zX, Option.some.injEq] at h; subst h; exact ⟨rfl, hl, hs, hA⟩
  case ifnull =>
    obtain _ | ⟨(x | x | x | x), r⟩ := st
    all_goals first | (simp only [zS, zX, reduceCtorEq] at h; done) | skip
    · cases hb : Nat.beq x.1 0 with
      | true => simp only [zS, zX, hb, cond_true, Option.some.injEq] at h; subst h; exact ⟨by simp only [zS, zX, hb, cond_true, zqm], hl, zJl_1 hs, hA⟩
      | false => simp only [zS, zX, hb, cond_false, Option.some.injEq] at h; subst h; exact ⟨by simp only [zS, zX, hb, cond_false, zqm], hl, zJl_1 hs, hA⟩
  case ifnonnull =>
    obtain _ | ⟨(x | x | x | x), r⟩ := st
    all_goals first | (simp only [zS, zX, reduceCtorEq] at h; done) | skip
    · cases hb : Nat.beq x.1 0 with
      | true => simp only [zS, zX, hb, cond_true, Option.some.injEq] at h; subst h; exact ⟨by simp only [zS, zX, hb, cond_true, zqm], hl, zJl_1 hs, hA⟩
      | false => simp only [zS, zX, hb, cond_false, Option.some.injEq] at h; subst h; exact ⟨by simp only [zS, zX, hb, cond_false, zqm], hl, zJl_1 hs, hA⟩
  case tableswitch =>
    obtain _ | ⟨(x | x | x | x), r⟩ := st
    all_goals first | (simp only [zS, zX, reduceCtorEq] at h; done) | skip
    · simp only [zS, zX] at h ⊢
      refine ⟨(zsw_ap (Option.map (zqm K B)) _ _ _ _).symm.trans (congrArg _ h), ?_⟩
      obtain ⟨t, ht⟩ := zsw_some _ _ _ _ h
      simp only [Option.some.injEq] at ht; subst ht; exact ⟨hl, zJl_1 hs, hA⟩
  case lookupswitch =>
    obtain _ | ⟨(x | x | x | x), r⟩ := st
    all_goals first | (simp only [zS, zX, reduceCtorEq] at h; done) | skip
    · simp only [zS, zX] at h ⊢
      refine ⟨(zsw_ap (Option.map (zqm K B)) _ _ _ _).symm.trans (congrArg _ h), ?_⟩
      obtain ⟨t, ht⟩ := zsw_some _ _ _ _ h
      simp only [Option.some.injEq] at ht; subst ht; exact ⟨hl, zJl_1 hs, hA⟩
  case getfield =>
    obtain _ | ⟨(x | x | x | x), r⟩ := st
    all_goals first | (simp only [zS, zX, reduceCtorEq] at h; done) | skip
    · cases hb : Nat.beq x.1 a with
      | false => simp only [zS, zX, hb, cond_false, reduceCtorEq] at h
      | true =>
        have hx := (zJl_cons.mp hs).1
        have he := zb_eq hb
        cases hn : zneu a with
        | false =>
          have hK : K a = true := zJ_of hx he hn
          have h14 : Nat.beq a 14 = false := by cases h14 : Nat.beq a 14 with
            | false => rfl
            | true => rw [zb_eq h14] at hn; cases hn
          simp only [zS, zX, hb, cond_true] at h ⊢
          split at h
          · simp only [Option.some.injEq] at h; subst h
            exact ⟨by rw [zmg_L hK]; rfl, hl, zJl_cons.mpr ⟨trivial, zJl_1 hs⟩, hA⟩
          · simp only [h14, cond_false, Option.some.injEq] at h ⊢; subst h
            exact ⟨by rw [zmg_F hK]; rfl, hl, zJl_cons.mpr ⟨zgF_J hc hA hK, zJl_1 hs⟩, hA⟩
          · simp only [Option.some.injEq] at h; subst h
            exact ⟨by rw [zmg_FI hK]; rfl, hl, zJl_cons.mpr ⟨trivial, zJl_1 hs⟩, hA⟩
        | true =>
          have hE : (!zneu a || (Nat.beq a 14 && !Nat.beq g 2)) = true := hE
          rw [hn] at hE
          simp only [Bool.not_true, Bool.false_or, Bool.and_eq_true, Bool.not_eq_true'] at hE
          have h14 := hE.1
          simp only [zS, zX, hb, cond_true] at h ⊢
          split at h
          · exact absurd hE.2 (by decide)
          · simp only [h14, cond_true, Option.some.injEq] at h ⊢; subst h
            exact ⟨rfl, hl, zJl_cons.mpr ⟨Or.inl rfl, zJl_1 hs⟩, hA⟩
          · simp only [zgFI, h14, cond_true, Option.some.injEq] at h ⊢; subst h
            exact ⟨rfl, hl, zJl_cons.mpr ⟨trivial, zJl_1 hs⟩, hA⟩
  case putfield =>
    obtain _ | ⟨v, _ | ⟨(x | x | x | x), r⟩⟩ := st
    all_goals first | (simp only [zS, zX, reduceCtorEq] at h; done) | skip
    cases hb : Nat.beq x.1 a with
    | false => simp only [zS, zX, hb, cond_false, reduceCtorEq] at h
    | true =>
      have hx := (zJl_cons.mp (zJl_1 hs)).1
      have hv := (zJl_cons.mp hs).1
      have hn : zneu a = false := by
        have hE : (!zneu a) = true := hE
        simpa using hE
      have hK : K a = true := zJ_of hx (zb_eq hb) hn
      simp only [zS, zX, hb, cond_true] at h ⊢
      split at h
      · obtain v | v | v | v := v
        all_goals first | (simp only [reduceCtorEq] at h; done) | skip
        simp only [Option.some.injEq] at h; subst h
        exact ⟨(show some (Sum.inl (n, ls, r, zsI (zmg K A B) a x.2 d v)) = some (Sum.inl (n, ls, r, zmg K (zsI A a x.2 d v) B)) by rw [zmg_sI hK]), hl, zJl_1 (zJl_1 hs), hA⟩
      · obtain v | v | v | v := v
        all_goals first | (simp only [reduceCtorEq] at h; done) | skip
        cases hz : zib v with
        | false => simp only [hz, cond_false, reduceCtorEq] at h
        | true =>
          simp only [hz, cond_true, Option.some.injEq] at h ⊢; subst h
          exact ⟨(show Sum.inl (n, ls, r, zsI (zmg K A B) a x.2 d v) = Sum.inl (n, ls, r, zmg K (zsI A a x.2 d v) B) by rw [zmg_sI hK]), hl, zJl_1 (zJl_1 hs), hA⟩
      · obtain v | v | v | v := v
        all_goals first | (simp only [reduceCtorEq] at h; done) | skip
        cases hz : (false || zmut a d) with
        | false => simp only [hz, cond_false, reduceCtorEq] at h
        | true =>
          simp only [hz, cond_true, Option.some.injEq] at h ⊢; subst h
          exact ⟨(show Sum.inl (n, ls, r, zsR (zmg K A B) a x.2 d v) = Sum.inl (n, ls, r, zmg K (zsR A a x.2 d v) B) by rw [zmg_sR hK]), hl, zJl_1 (zJl_1 hs), zJm_sR hA hv⟩
      · simp only [reduceCtorEq] at h
  case iaload =>
    obtain _ | ⟨(y | y | y | y), _ | ⟨(x | x | x | x), r⟩⟩ := st
    all_goals first | (simp only [zS, zX, reduceCtorEq] at h; done) | skip
    · have hx := (zJl_cons.mp (zJl_1 hs)).1
      cases hb : Nat.beq (zat x.1) 1 with
      | false => simp only [zS, zX, hb, cond_false, reduceCtorEq] at h
      | true =>
        have hK : K x.1 = true := zJ_of hx rfl (zneu_at 1 hb (by decide) (by decide))
        by_cases e : zin y (zlen A x.1) = true
        · simp only [zS, zX, hb, cond_true, if_pos e, Option.some.injEq] at h; subst h
          refine ⟨?_, hl, zJl_cons.mpr ⟨trivial, zJl_1 (zJl_1 hs)⟩, hA⟩
          simp only [zS, zX, hb, cond_true, if_pos (show zin y (zlen (zmg K A B) x.1) = true from e), zqm]
          rw [zmg_ld hK]
        · simp only [zS, zX, hb, cond_true, if_neg e, reduceCtorEq] at h
  case saload =>
    obtain _ | ⟨(y | y | y | y), _ | ⟨(x | x | x | x), r⟩⟩ := st
    all_goals first | (simp only [zS, zX, reduceCtorEq] at h; done) | skip
    · have hx := (zJl_cons.mp (zJl_1 hs)).1
      cases hb : Nat.beq (zat x.1) 3 with
      | false => simp only [zS, zX, hb, cond_false, reduceCtorEq] at h
      | true =>
        have hK : K x.1 = true := zJ_of hx rfl (zneu_at 3 hb (by decide) (by decide))
        by_cases e : zin y (zlen A x.1) = true
        · simp only [zS, zX, hb, cond_true, if_pos e, Option.some.injEq] at h; subst h
          refine ⟨?_, hl, zJl_cons.mpr ⟨trivial, zJl_1 (zJl_1 hs)⟩, hA⟩
          simp only [zS, zX, hb, cond_true, if_pos (show zin y (zlen (zmg K A B) x.1) = true from e), zqm]
          rw [zmg_ld hK]
        · simp only [zS, zX, hb, cond_true, if_neg e, reduceCtorEq] at h
  case laload =>
    obtain _ | ⟨(y | y | y | y), _ | ⟨(x | x | x | x), r⟩⟩ := st
    all_goals first | (simp only [zS, zX, reduceCtorEq] at h; done) | skip
    · have hx := (zJl_cons.mp (zJl_1 hs)).1
      cases hb : Nat.beq (zat x.1) 5 with
      | false => simp only [zS, zX, hb, cond_false, reduceCtorEq] at h
      | true =>
        have hK : K x.1 = true := zJ_of hx rfl (zneu_at 5 hb (by decide) (by decide))
        by_cases e : zin y (zlen A x.1) = true
        · simp only [zS, zX, hb, cond_true, if_pos e, Option.some.injEq] at h; subst h
          refine ⟨?_, hl, zJl_cons.mpr ⟨trivial, zJl_1 (zJl_1 hs)⟩, hA⟩
          simp only [zS, zX, hb, cond_true, if_pos (show zin y (zlen (zmg K A B) x.1) = true from e), zqm]
          rw [zmg_L hK]
        · simp only [zS, zX, hb, cond_true, if_neg e, reduceCtorEq] at h
  case aaload =>
    obtain _ | ⟨(y | y | y | y), _ | ⟨(x | x | x | x), r⟩⟩ := st
    all_goals first | (simp only [zS, zX, reduceCtorEq] at h; done) | skip
    · have hx := (zJl_cons.mp (zJl_1 hs)).1
      cases hb : Nat.beq (zat x.1) 6 with
      | false => simp only [zS, zX, hb, cond_false, reduceCtorEq] at h
      | true =>
        have hK : K x.1 = true := zJ_of hx rfl (zneu_at 6 hb (by decide) (by decide))
        by_cases e : zin y (zlen A x.1) = true
        · simp only [zS, zX, hb, cond_true, if_pos e, Option.some.injEq] at h; subst h
          refine ⟨?_, hl, zJl_cons.mpr ⟨zgF_J hc hA hK, zJl_1 (zJl_1 hs)⟩, hA⟩
          simp only [zS, zX, hb, cond_true, if_pos (show zin y (zlen (zmg K A B) x.1) = true from e), zqm]
          rw [zmg_F hK]
        · simp only [zS, zX, hb, cond_true, if_neg e, reduceCtorEq] at h
  case baload =>
    obtain _ | ⟨(y | y | y | y), _ | ⟨(x | x | x | x), r⟩⟩ := st
    all_goals first | (simp only [zS, zX, reduceCtorEq] at h; done) | skip
    · have hx := (zJl_cons.mp (zJl_1 hs)).1
      cases hb : (Nat.beq (zat x.1) 2 || Nat.beq (zat x.1) 4) with
      | false => simp only [zS, zX, hb, cond_false, reduceCtorEq] at h
      | true =>
        have hd : zld (zmg K A B) x.1 x.2 y.toNatClampNeg = zld A x.1 x.2 y.toNatClampNeg := by
          rcases hx with hx | hx
          · have h15 := zneu_15 hx hb
            unfold zld
            rw [h15]
            rfl
          · exact zmg_ld hx
        by_cases e : zin y (zlen A x.1) = true
        · simp only [zS, zX, hb, cond_true, if_pos e, Option.some.injEq] at h; subst h
          refine ⟨?_, hl, zJl_cons.mpr ⟨trivial, zJl_1 (zJl_1 hs)⟩, hA⟩
          simp only [zS, zX, hb, cond_true, if_pos (show zin y (zlen (zmg K A B) x.1) = true from e), zqm]
          rw [hd]
        · simp only [zS, zX, hb, cond_true, if_neg e, reduceCtorEq] at h
  case iastore =>
    obtain _ | ⟨(v | v | v | v), _ | ⟨(y | y | y | y), _ | ⟨(x | x | x | x), r⟩⟩⟩ := st
    all_goals first | (simp only [zS, zX, reduceCtorEq] at h; done) | skip
    · have hx := (zJl_cons.mp (zJl_1 (zJl_1 hs))).1
      cases hb : (Nat.beq (zat x.1) 1 && Nat.ble 17 x.1) with
      | false => simp only [zS, zX, hb, cond_false, reduceCtorEq] at h
      | true =>
        have hb1 : Nat.beq (zat x.1) 1 = true := (Bool.and_eq_true_iff.mp hb).1
        have hK : K x.1 = true := zJ_of hx rfl (zneu_at 1 hb1 (by decide) (by decide))
        by_cases e : zin y (zlen A x.1) = true
        · simp only [zS, zX, hb, cond_true, if_pos e, Option.some.injEq] at h; subst h
          refine ⟨?_, hl, zJl_1 (zJl_1 (zJl_1 hs)), hA⟩
          simp only [zS, zX, hb, cond_true, if_pos (show zin y (zlen (zmg K A B) x.1) = true from e), zqm]
          rw [zmg_sI hK]
        · simp only [zS, zX, hb, cond_true, if_neg e, reduceCtorEq] at h
  case sastore =>
    obtain _ | ⟨(v | v | v | v), _ | ⟨(y | y | y | y), _ | ⟨(x | x | x | x), r⟩⟩⟩ := st
    all_goals first | (simp only [zS, zX, reduceCtorEq] at h; done) | skip
    · have hx := (zJl_cons.mp (zJl_1 (zJl_1 hs))).1
      cases hb : (Nat.beq (zat x.1) 3) with
      | false => simp only [zS, zX, hb, cond_false, reduceCtorEq] at h
      | true =>
        have hb1 : Nat.beq (zat x.1) 3 = true := hb
        have hK : K x.1 = true := zJ_of hx rfl (zneu_at 3 hb1 (by decide) (by decide))
        by_cases e : zin y (zlen A x.1) = true
        · simp only [zS, zX, hb, cond_true, if_pos e, Option.some.injEq] at h; subst h
          refine ⟨?_, hl, zJl_1 (zJl_1 (zJl_1 hs)), hA⟩
          simp only [zS, zX, hb, cond_true, if_pos (show zin y (zlen (zmg K A B) x.1) = true from e), zqm]
          rw [zmg_sI hK]
        · simp only [zS, zX, hb, cond_true, if_neg e, reduceCtorEq] at h
  case lastore =>
    obtain _ | ⟨(v | v | v | v), _ | ⟨(y | y | y | y), _ | ⟨(x | x | x | x), r⟩⟩⟩ := st
    all_goals first | (simp only [zS, zX, reduceCtorEq] at h; done) | skip
    · have hx := (zJl_cons.mp (zJl_1 (zJl_1 hs))).1
      cases hb : (Nat.beq (zat x.1) 5) with
      | false => simp only [zS, zX, hb, cond_false, reduceCtorEq] at h
      | true =>
        have hb1 : Nat.beq (zat x.1) 5 = true := hb
        have hK : K x.1 = true := zJ_of hx rfl (zneu_at 5 hb1 (by decide) (by decide))
        by_cases e : zin y (zlen A x.1) = true
        · simp only [zS, zX, hb, cond_true, if_pos e, Option.some.injEq] at h; subst h
          refine ⟨?_, hl, zJl_1 (zJl_1 (zJl_1 hs)), hA⟩
          simp only [zS, zX, hb, cond_true, if_pos (show zin y (zlen (zmg K A B) x.1) = true from e), zqm]
          rw [zmg_sL hK]
        · simp only [zS, zX, hb, cond_true, if_neg e, reduceCtorEq] at h
  case bastore =>
    obtain _ | ⟨(v | v | v | v), _ | ⟨(y | y | y | y), _ | ⟨(x | x | x | x), r⟩⟩⟩ := st
    all_goals first | (simp only [zS, zX, reduceCtorEq] at h; done) | skip
    · have hx := (zJl_cons.mp (zJl_1 (zJl_1 hs))).1
      cases hb : (Nat.beq (zat x.1) 2 && Nat.ble 17 x.1) with
      | true =>
        have hK : K x.1 = true := by
          rcases hx with hx | hx
          · have h15 := zneu_15 hx (show (Nat.beq (zat x.1) 2 || Nat.beq (zat x.1) 4) = true by rw [(Bool.and_eq_true_iff.mp hb).1]; rfl)
            rw [h15] at hb
            exact absurd hb (by decide)
          · exact hx
        by_cases e : zin y (zlen A x.1) = true
        · simp only [zS, zX, hb, cond_true, if_pos e, Option.some.injEq] at h; subst h
          refine ⟨?_, hl, zJl_1 (zJl_1 (zJl_1 hs)), hA⟩
          simp only [zS, zX, hb, cond_true, if_pos (show zin y (zlen (zmg K A B) x.1) = true from e), zqm]
          rw [zmg_sI hK]
        · simp only [zS, zX, hb, cond_true, if_neg e, reduceCtorEq] at h
      | false =>
        cases hb4 : Nat.beq (zat x.1) 4 with
        | false => simp only [zS, zX, hb, hb4, cond_false, reduceCtorEq] at h
        | true =>
          have hK : K x.1 = true := zJ_of hx rfl (zneu_at 4 hb4 (by decide) (by decide))
          by_cases e : zin y (zlen A x.1) = true
          · simp only [zS, zX, hb, hb4, cond_false, cond_true, if_pos e, Option.some.injEq] at h; subst h
            refine ⟨?_, hl, zJl_1 (zJl_1 (zJl_1 hs)), hA⟩
            simp only [zS, zX, hb, hb4, cond_false, cond_true, if_pos (show zin y (zlen (zmg K A B) x.1) = true from e), zqm]
            rw [zmg_sI hK]
          · simp only [zS, zX, hb, hb4, cond_false, cond_true, if_neg e, reduceCtorEq] at h
  case aastore =>
    obtain _ | ⟨(v | v | v | v), _ | ⟨(y | y | y | y), _ | ⟨(x | x | x | x), r⟩⟩⟩ := st <;> (simp only [zS, zX, Bool.false_and, cond_false, reduceCtorEq] at h; done)
  case arraylength =>
    obtain _ | ⟨(x | x | x | x), r⟩ := st
    all_goals first | (simp only [zS, zX, reduceCtorEq] at h; done) | skip
    · cases hb : Nat.blt 0 (zat x.1) with
      | false => simp only [zS, zX, hb, cond_false, reduceCtorEq] at h
      | true => simp only [zS, zX, hb, cond_true, Option.some.injEq] at h; subst h; exact ⟨by simp only [zS, zX, hb, cond_true, zqm, zmg_len], hl, zJl_cons.mpr ⟨trivial, zJl_1 hs⟩, hA⟩
  case dup =>
    obtain _ | ⟨(x | x | x | x), r⟩ := st
    all_goals first | (simp only [zS, zX, reduceCtorEq] at h; done) | skip
    · simp only [zS, zX, Option.some.injEq] at h; subst h; exact ⟨rfl, hl, zJl_cons.mpr ⟨trivial, hs⟩, hA⟩
    · simp only [zS, zX, Option.some.injEq] at h; subst h; exact ⟨rfl, hl, zJl_cons.mpr ⟨(zJl_cons.mp hs).1, hs⟩, hA⟩
  case dup2 =>
    obtain _ | ⟨(y | y | y | y), _ | ⟨(x | x | x | x), r⟩⟩ := st
    all_goals first | (simp only [zS, zX, reduceCtorEq] at h; done) | skip
    · simp only [zS, zX, Option.some.injEq] at h; subst h; exact ⟨rfl, hl, zJl_cons.mpr ⟨trivial, zJl_cons.mpr ⟨(zJl_cons.mp (zJl_1 hs)).1, hs⟩⟩, hA⟩
  case pop =>
    obtain _ | ⟨(x | x | x | x), r⟩ := st
    all_goals first | (simp only [zS, zX, reduceCtorEq] at h; done) | skip
    · simp only [zS, zX, Option.some.injEq] at h; subst h; exact ⟨rfl, hl, zJl_1 hs, hA⟩
  case ireturn =>
    obtain _ | ⟨(x | x | x | x), _ | ⟨y, r⟩⟩ := st
    all_goals first | (simp only [zS, zX, reduceCtorEq] at h; done) | skip
    cases h0 : Nat.beq g 0 with
    | true => simp only [zS, zX, h0, cond_true, Option.some.injEq] at h; subst h; exact ⟨by simp only [zS, zX, h0, cond_true, zqm], fun v hv => (by cases hv; trivial), hA⟩
    | false =>
      cases h1 : Nat.beq g 1 with
      | true =>
        cases hz : zib x with
        | true => simp only [zS, zX, h0, h1, hz, cond_false, cond_true, Option.some.injEq] at h; subst h; exact ⟨by simp only [zS, zX, h0, h1, hz, cond_false, cond_true, zqm], fun v hv => (by cases hv; trivial), hA⟩
        | false => simp only [zS, zX, h0, h1, hz, cond_false, cond_true, reduceCtorEq] at h
      | false =>
        cases hz : (x.toInt8.toInt32 == x) with
        | true => simp only [zS, zX, h0, h1, hz, cond_false, cond_true, Option.some.injEq] at h; subst h; exact ⟨by simp only [zS, zX, h0, h1, hz, cond_false, cond_true, zqm], fun v hv => (by cases hv; trivial), hA⟩
        | false => simp only [zS, zX, h0, h1, hz, cond_false, cond_true, reduceCtorEq] at h
  case lreturn =>
    obtain _ | ⟨(x | x | x | x), _ | ⟨y, r⟩⟩ := st
    all_goals first | (simp only [zS, zX, reduceCtorEq] at h; done) | skip
    simp only [zS, zX, Option.some.injEq] at h; subst h; exact ⟨rfl, fun v hv => (by cases hv; exact (zJl_cons.mp hs).1), hA⟩
  case areturn =>
    obtain _ | ⟨(x | x | x | x), _ | ⟨y, r⟩⟩ := st
    all_goals first | (simp only [zS, zX, reduceCtorEq] at h; done) | skip
    simp only [zS, zX, Option.some.injEq] at h; subst h; exact ⟨rfl, fun v hv => (by cases hv; exact (zJl_cons.mp hs).1), hA⟩
  case return_ =>
    obtain _ | ⟨y, r⟩ := st
    all_goals first | (simp only [zS, zX, reduceCtorEq] at h; done) | skip
    simp only [zS, zX, Option.some.injEq] at h; subst h; exact ⟨rfl, fun v hv => (by cases hv), hA⟩
  case invokevirtual =>
    cases hb : (Nat.ble (zwt (st.drop d)) 8 && (Nat.ble d st.length && (zok st && (zrk g (st.take d).reverse && Nat.ble (zwt (st.take d)) (zml a))))) with
    | false => simp only [zS, zX, hb, cond_false, reduceCtorEq] at h
    | true => simp only [zS, zX, hb, cond_false, cond_true, Option.some.injEq] at h; subst h; exact ⟨by simp only [zS, zX, hb, cond_false, cond_true, zqm], zJl_rev (zJl_take d hs), hl, zJl_drop d hs, hA⟩
  case invokestatic =>
    cases h0 : Nat.beq a 0 with
    | false =>
      cases hb : (Nat.ble (zwt (st.drop d)) 8 && (Nat.ble d st.length && (zok st && (zrk g (st.take d).reverse && Nat.ble (zwt (st.take d)) (zml a))))) with
      | false => simp only [zS, zX, h0, hb, cond_false, reduceCtorEq] at h
      | true => simp only [zS, zX, h0, hb, cond_false, cond_true, Option.some.injEq] at h; subst h; exact ⟨by simp only [zS, zX, h0, hb, cond_false, cond_true, zqm], zJl_rev (zJl_take d hs), hl, zJl_drop d hs, hA⟩
    | true =>
      obtain _ | ⟨(y | y | y | y), _ | ⟨(x | x | x | x), r⟩⟩ := st
      all_goals first | (simp only [zS, zX, h0, cond_true, reduceCtorEq] at h; done) | skip
      cases hb : (Nat.ble (zwt r) 8 && zok r) with
      | false => simp only [zS, zX, h0, hb, cond_true, cond_false, reduceCtorEq] at h
      | true =>
        cases h1 : Nat.beq d 1 with
        | true => simp only [zS, zX, h0, hb, h1, cond_true, Option.some.injEq] at h; subst h; exact ⟨by simp only [zS, zX, h0, hb, h1, cond_true, zqm], hl, zJl_cons.mpr ⟨trivial, zJl_1 (zJl_1 hs)⟩, hA⟩
        | false => simp only [zS, zX, h0, hb, h1, cond_true, cond_false, Option.some.injEq] at h; subst h; exact ⟨by simp only [zS, zX, h0, hb, h1, cond_true, cond_false, zqm], hl, zJl_cons.mpr ⟨trivial, zJl_1 (zJl_1 hs)⟩, hA⟩
  case invokespecial =>
    cases h0 : Nat.beq a 0 with
    | false =>
      cases hb : (Nat.ble (zwt (st.drop d)) 8 && (Nat.ble d st.length && (zok st && (zrk g (st.take d).reverse && Nat.ble (zwt (st.take d)) (zml a))))) with
      | false => simp only [zS, zX, h0, hb, cond_false, reduceCtorEq] at h
      | true => simp only [zS, zX, h0, hb, cond_false, cond_true, Option.some.injEq] at h; subst h; exact ⟨by simp only [zS, zX, h0, hb, cond_false, cond_true, zqm], zJl_rev (zJl_take d hs), hl, zJl_drop d hs, hA⟩
    | true =>
      obtain _ | ⟨(x | x | x | x), r⟩ := st
      all_goals first | (simp only [zS, zX, h0, cond_true, reduceCtorEq] at h; done) | skip
      cases hb : (Nat.ble (zwt r) 8 && (zok r && Nat.blt 0 x.1)) with
      | false => simp only [zS, zX, h0, hb, cond_true, cond_false, reduceCtorEq] at h
      | true => simp only [zS, zX, h0, hb, cond_true, Option.some.injEq] at h; subst h; exact ⟨by simp only [zS, zX, h0, hb, cond_true, zqm], hl, zJl_1 hs, hA⟩
  case new => simp only [zS, zX, Bool.false_and, cond_false, reduceCtorEq] at h
  case newarray =>
    obtain _ | ⟨(x | x | x | x), r⟩ := st <;> (simp only [zS, zX, Bool.false_and, cond_false, reduceCtorEq] at h; done)
  case anewarray =>
    obtain _ | ⟨(x | x | x | x), r⟩ := st <;> (simp only [zS, zX, Bool.false_and, cond_false, reduceCtorEq] at h; done)
  all_goals (simp only [zS, zX, reduceCtorEq] at h; done)
def zfok1 (o : Option (zE × Bool)) : Bool := match o with
  | none => true
  | some E => zfok E.1
set_option maxRecDepth 100000 in
theorem zfok_cs : (zcs.all fun a => a.all fun b => b.all fun c => c.all zfok1) = true := by decide +kernel
theorem zat2_all {α : Type} (p : α → Bool) (x : α) (hx : p x = true) (n : Nat) (l : List α) (h : l.all p = true) : p (zat2 x n l) = true := by
  induction l generalizing n with
  | nil => cases n <;> exact hx
  | cons y r ih =>
    rw [List.all_cons, Bool.and_eq_true] at h
    cases n with
    | zero => exact h.1
    | succ n => exact ih n h.2
theorem zfok_ins {m pc : Nat} {E : zE × Bool} (h : zins m pc = some E) : zfok E.1 = true := by
  have h1 := zat2_all zfok1 none rfl (pc % 24) _ (zat2_all (fun c : List (Option (zE × Bool)) => c.all zfok1) [] rfl (pc / 24) _ (zat2_all (fun b : List (List (Option (zE × Bool))) => b.all fun c => c.all zfok1) [] rfl (m % 18) _ (zat2_all (fun a : List (List (List (Option (zE × Bool)))) => a.all fun b => b.all fun c => c.all zfok1) [] rfl (m / 18) zcs zfok_cs)))
  have h2 : zfok1 (zins m pc) = true := h1
  rw [h] at h2
  exact h2
theorem zrun_ind {K : Nat → Bool} (hc : zJc K) (B : zM) : ∀ (n d m pc : Nat) (ls st : List zV) (A : zM) (r : Option zV × zM), zJl K ls → zJl K st → zJm K A → zrun false n d m pc ls st A = some r → zrun false n d m pc ls st (zmg K A B) = some (r.1, zmg K r.2 B) ∧ (∀ v, r.1 = some v → zJ1 K v) ∧ zJm K r.2
  | 0, d, m, pc, ls, st, A, r, _, _, _, h => by cases h
  | n + 1, d, m, pc, ls, st, A, r, hl, hs, hA, h => by
    rw [zrun_succ] at h ⊢
    cases hz : zins m pc with
    | none => rw [hz] at h; cases h
    | some E =>
      rw [hz] at h
      simp only [Option.bind_some] at h ⊢
      rw [zX_eq] at h ⊢
      cases hS : zS false pc ls st A E.1 with
      | none => rw [hS] at h; cases h
      | some q =>
        rw [hS] at h
        obtain ⟨e, hq⟩ := zS_ind (B := B) hc (zfok_ins hz) hl hs hA hS
        rw [e]
        simp only [Option.bind_some] at h ⊢
        obtain q | q | q := q
        · exact zrun_ind hc B n _ _ _ _ _ _ _ hq.1 hq.2.1 hq.2.2 h
        · have h' : (some (q.1, q.2) : Option (Option zV × zM)) = some r := h
          cases h'
          exact ⟨rfl, hq.1, hq.2⟩
        · obtain ⟨k1, k2, k3, k4⟩ := hq
          simp only [zel, zca, zqm] at h ⊢
          cases d with
          | zero => cases h
          | succ d' =>
            simp only at h ⊢
            cases hcl : zrun false n d' q.1 0 (zpad (zml q.1) (zargs q.2.1)) [] q.2.2.2.2.2 with
            | none => rw [hcl] at h; cases h
            | some w =>
              rw [hcl] at h
              obtain ⟨e1, e2, e3⟩ := zrun_ind hc B n _ _ _ _ _ _ _ (zJl_pad _ (zJl_args k1)) (zJl_nil K) k4 hcl
              rw [e1]
              exact zrun_ind hc B n _ _ _ _ _ _ _ k2 (zJl_push e2 k3) e3 h
theorem zgo_ind {K : Nat → Bool} (hc : zJc K) (B : zM) {d m pc : Nat} {ls st : List zV} {A : zM} {r : Option zV × zM} (hl : zJl K ls) (hs : zJl K st) (hA : zJm K A) (h : zgo false d m pc ls st A = some r) : zgo false d m pc ls st (zmg K A B) = some (r.1, zmg K r.2 B) := by
  obtain ⟨n, h⟩ := zgo_iff.mp h
  exact zgo_iff.mpr ⟨n, (zrun_ind hc B n _ _ _ _ _ _ _ hl hs hA h).1⟩
/-! the class's kinds, and the model's -/
def zcl (k : Nat) : Bool := (Nat.blt 0 k && Nat.blt k 55) && !(Nat.beq k 13)
def zmd (k : Nat) : Bool := Nat.beq k 13 || !(Nat.blt k 55)
