/-! ===== what a run comes to, whatever its steps: equations for it ===== -/
theorem zc_ap {α β : Type} (φ : α → β) (c : Bool) (x y : α) : φ (bif c then x else y) = bif c then φ x else φ y := by cases c <;> rfl
theorem zsw_ap {β γ : Type} (φ : Option β → Option γ) (f : Nat → Option β) (x : Int32) (d : Nat) : ∀ l : List (Int32 × Nat), φ (zsw f x d l) = zsw (fun t => φ (f t)) x d l
  | [] => rfl
  | q :: r => by
    simp only [zsw]
    split
    · rfl
    · exact zsw_ap φ f x d r
set_option maxHeartbeats 8000000 in
set_option maxRecDepth 100000 in
theorem zX_map {β γ : Type} (φ : Option β → Option γ) (h0 : φ none = none) (kN : Nat → List zV → List zV → zM → Option β) (kR : Option zV → zM → Option β) (kC : Nat → List zV → Nat → List zV → List zV → zM → Option β) (b : Bool) (pc : Nat) (ls st : List zV) (M : zM) (E : zE) :
    φ (zX kN kR kC b pc ls st M E) = zX (fun a1 a2 a3 a4 => φ (kN a1 a2 a3 a4)) (fun a1 a2 => φ (kR a1 a2)) (fun a1 a2 a3 a4 a5 a6 => φ (kC a1 a2 a3 a4 a5 a6)) b pc ls st M E := by
  obtain ⟨I, n, ⟨a, d, g⟩, z, w, sw⟩ := E
  cases I <;> simp only [zX, h0] <;> (repeat' (first | rfl | (simp only [h0, zc_ap φ, apply_ite φ, zsw_ap φ]; done) | split | simp only [h0, zc_ap φ, apply_ite φ, zsw_ap φ]))
/-- one instruction's outcome as a datum -/
abbrev zB : Type := (Nat × List zV × List zV × zM) ⊕ ((Option zV × zM) ⊕ (Nat × List zV × Nat × List zV × List zV × zM))
def zS (b : Bool) (pc : Nat) (ls st : List zV) (M : zM) (E : zE) : Option zB := zX (fun a1 a2 a3 a4 => some (.inl (a1, a2, a3, a4))) (fun a1 a2 => some (.inr (.inl (a1, a2)))) (fun a1 a2 a3 a4 a5 a6 => some (.inr (.inr (a1, a2, a3, a4, a5, a6)))) b pc ls st M E
def zel {β : Type} (kN : Nat → List zV → List zV → zM → Option β) (kR : Option zV → zM → Option β) (kC : Nat → List zV → Nat → List zV → List zV → zM → Option β) : zB → Option β
  | .inl q => kN q.1 q.2.1 q.2.2.1 q.2.2.2
  | .inr (.inl q) => kR q.1 q.2
  | .inr (.inr q) => kC q.1 q.2.1 q.2.2.1 q.2.2.2.1 q.2.2.2.2.1 q.2.2.2.2.2
theorem zX_eq {β : Type} (kN : Nat → List zV → List zV → zM → Option β) (kR : Option zV → zM → Option β) (kC : Nat → List zV → Nat → List zV → List zV → zM → Option β) (b : Bool) (pc : Nat) (ls st : List zV) (M : zM) (E : zE) :
    zX kN kR kC b pc ls st M E = (zS b pc ls st M E).bind (zel kN kR kC) :=
  (zX_map (fun o : Option zB => o.bind (zel kN kR kC)) rfl (fun a1 a2 a3 a4 => some (.inl (a1, a2, a3, a4))) (fun a1 a2 => some (.inr (.inl (a1, a2)))) (fun a1 a2 a3 a4 a5 a6 => some (.inr (.inr (a1, a2, a3, a4, a5, a6)))) b pc ls st M E).symm
/-- what a call does, when k says what runs come to -/
def zca (k : Nat → Nat → Nat → List zV → List zV → zM → Option (Option zV × zM)) (d m : Nat) (y : Nat) (as : List zV) (pc : Nat) (ls st : List zV) (M : zM) : Option (Option zV × zM) :=
  match d with
  | 0 => none
  | d' + 1 => (k d' y 0 (zpad (zml y) (zargs as)) [] M).bind fun q => k d m pc ls (zpush q.1 st) q.2
def zre (v : Option zV) (M : zM) : Option (Option zV × zM) := some (v, M)
theorem zrun_succ (b : Bool) (n d m pc : Nat) (ls st : List zV) (M : zM) : zrun b (n + 1) d m pc ls st M = (zins m pc).bind fun E => zX (zrun b n d m) zre (zca (zrun b n) d m) b pc ls st M E.1 := by
  show (match zins m pc with
    | none => none
    | some E => _) = _
  cases zins m pc with
  | none => rfl
  | some E => rfl
theorem zrun_mono (b : Bool) : ∀ (n d m pc : Nat) (ls st : List zV) (M : zM) (r : Option zV × zM), zrun b n d m pc ls st M = some r → zrun b (n + 1) d m pc ls st M = some r
  | 0, d, m, pc, ls, st, M, r, h => by cases h
  | n + 1, d, m, pc, ls, st, M, r, h => by
    rw [zrun_succ] at h ⊢
    cases hz : zins m pc with
    | none => rw [hz] at h; cases h
    | some E =>
      rw [hz] at h
      simp only [Option.bind_some] at h ⊢
      rw [zX_eq] at h ⊢
      cases hs : zS b pc ls st M E.1 with
      | none => rw [hs] at h; cases h
      | some q =>
        rw [hs] at h
        simp only [Option.bind_some] at h ⊢
        obtain q | q | q := q
        · exact zrun_mono b n _ _ _ _ _ _ _ h
        · exact h
        · simp only [zel, zca] at h ⊢
          cases d with
          | zero => cases h
          | succ d' =>
            simp only at h ⊢
            cases hc : zrun b n d' q.1 0 (zpad (zml q.1) (zargs q.2.1)) [] q.2.2.2.2.2 with
            | none => rw [hc] at h; cases h
            | some w =>
              rw [hc] at h
              rw [zrun_mono b n _ _ _ _ _ _ _ hc]
              exact zrun_mono b n _ _ _ _ _ _ _ h
theorem zrun_le (b : Bool) {n n' d m pc : Nat} {ls st : List zV} {M : zM} {r : Option zV × zM} (hn : n ≤ n') (h : zrun b n d m pc ls st M = some r) : zrun b n' d m pc ls st M = some r := by
  induction hn with
  | refl => exact h
  | step _ ih => exact zrun_mono b _ _ _ _ _ _ _ _ ih
/-- what the run comes to -/
noncomputable def zgo (b : Bool) (d m pc : Nat) (ls st : List zV) (M : zM) : Option (Option zV × zM) :=
  @dite _ (∃ r, ∃ n, zrun b n d m pc ls st M = some r) (Classical.propDecidable _) (fun h => some h.choose) (fun _ => none)
theorem zgo_iff {b : Bool} {d m pc : Nat} {ls st : List zV} {M : zM} {r : Option zV × zM} : zgo b d m pc ls st M = some r ↔ ∃ n, zrun b n d m pc ls st M = some r := by
  constructor
  · intro h
    unfold zgo at h
    split at h
    · rename_i hx
      rw [← Option.some.inj h]
      exact hx.choose_spec
    · cases h
  · rintro ⟨n, h⟩
    have hx : ∃ r, ∃ n, zrun b n d m pc ls st M = some r := ⟨r, n, h⟩
    unfold zgo
    rw [dif_pos hx]
    obtain ⟨n', h'⟩ := hx.choose_spec
    have h1 := zrun_le b (Nat.le_max_left n n') h
    have h2 := zrun_le b (Nat.le_max_right n n') h'
    rw [h1] at h2
    exact congrArg some (Option.some.inj h2).symm
theorem zgo_eq (b : Bool) (d m pc : Nat) (ls st : List zV) (M : zM) : zgo b d m pc ls st M = (zins m pc).bind fun E => zX (zgo b d m) zre (zca (zgo b) d m) b pc ls st M E.1 := by
  refine Option.ext fun r => ?_
  rw [zgo_iff]
  constructor
  · rintro ⟨n, h⟩
    cases n with
    | zero => cases h
    | succ n =>
      rw [zrun_succ] at h
      cases hz : zins m pc with
      | none => rw [hz] at h; cases h
      | some E =>
        rw [hz] at h
        simp only [Option.bind_some] at h ⊢
        rw [zX_eq] at h ⊢
        cases hs : zS b pc ls st M E.1 with
        | none => rw [hs] at h; cases h
        | some q =>
          rw [hs] at h
          simp only [Option.bind_some] at h ⊢
          obtain q | q | q := q
          · exact zgo_iff.mpr ⟨n, h⟩
          · exact h
          · simp only [zel, zca] at h ⊢
            cases d with
            | zero => cases h
            | succ d' =>
              simp only at h ⊢
              cases hc : zrun b n d' q.1 0 (zpad (zml q.1) (zargs q.2.1)) [] q.2.2.2.2.2 with
              | none => rw [hc] at h; cases h
              | some w =>
                rw [hc] at h
                rw [zgo_iff.mpr ⟨n, hc⟩]
                exact zgo_iff.mpr ⟨n, h⟩
  · intro h
    cases hz : zins m pc with
    | none => rw [hz] at h; cases h
    | some E =>
      rw [hz] at h
      simp only [Option.bind_some] at h
      rw [zX_eq] at h
      cases hs : zS b pc ls st M E.1 with
      | none => rw [hs] at h; cases h
      | some q =>
        rw [hs] at h
        simp only [Option.bind_some] at h
        have fin : ∀ n, (zel (zrun b n d m) zre (zca (zrun b n) d m)) q = some r → ∃ n, zrun b n d m pc ls st M = some r := by
          intro n hn
          refine ⟨n + 1, ?_⟩
          rw [zrun_succ, hz]
          simp only [Option.bind_some]
          rw [zX_eq, hs]
          exact hn
        obtain q | q | q := q
        · obtain ⟨n, hn⟩ := zgo_iff.mp h
          exact fin n hn
        · exact fin 0 h
        · simp only [zel, zca] at h
          cases d with
          | zero => cases h
          | succ d' =>
            simp only at h
            cases hc : zgo b d' q.1 0 (zpad (zml q.1) (zargs q.2.1)) [] q.2.2.2.2.2 with
            | none => rw [hc] at h; cases h
            | some w =>
              rw [hc] at h
              simp only [Option.bind_some] at h
              obtain ⟨n1, h1⟩ := zgo_iff.mp hc
              obtain ⟨n2, h2⟩ := zgo_iff.mp h
              refine fin (max n1 n2) ?_
              simp only [zel, zca]
              rw [zrun_le b (Nat.le_max_left n1 n2) h1]
              exact zrun_le b (Nat.le_max_right n1 n2) h2
/-- a stretch: instruction by instruction up to the next place where a block begins -/
noncomputable def zseg (b : Bool) : Nat → Nat → Nat → Nat → List zV → List zV → zM → Option (Option zV × zM)
  | 0, d, m, pc, ls, st, M => zgo b d m pc ls st M
  | n + 1, d, m, pc, ls, st, M => match zins m pc with
    | none => none
    | some E => zX (fun pc' ls' st' M' => match zins m pc' with
        | some (_, true) => zgo b d m pc' ls' st' M'
        | _ => zseg b n d m pc' ls' st' M') zre (fun y as pc' ls' st' M' => match d with
          | 0 => none
          | d' + 1 => (zgo b d' y 0 (zpad (zml y) (zargs as)) [] M').bind fun q => zgo b d m pc' ls' (zpush q.1 st') q.2) b pc ls st M E.1
theorem zgo_seg (n : Nat) (b : Bool) (d m pc : Nat) (ls st : List zV) (M : zM) : zgo b d m pc ls st M = zseg b n d m pc ls st M := by
  induction n generalizing pc ls st M with
  | zero => rfl
  | succ n ih =>
    rw [zgo_eq]
    simp only [zseg]
    cases hz : zins m pc with
    | none => rfl
    | some E =>
      simp only [Option.bind_some]
      rw [zX_eq, zX_eq]
      cases zS b pc ls st M E.1 with
      | none => rfl
      | some q =>
        obtain q | q | q := q
        · simp only [Option.bind_some, zel]
          split
          · rfl
          · exact ih _ _ _ _
        · rfl
        · simp only [Option.bind_some, zel, zca]
