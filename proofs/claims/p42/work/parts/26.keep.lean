/-! ===== the script and the number of cells stay as they are, once all is built ===== -/
def zSkp (M : zM) : zB → Prop
  | .inl q => zsc q.2.2.2 = zsc M ∧ znx q.2.2.2 = znx M
  | .inr (.inl q) => q.2 = M
  | .inr (.inr q) => q.2.2.2.2.2 = M
set_option maxHeartbeats 8000000 in
set_option maxRecDepth 100000 in
theorem zX_keep {β : Type} (kN : Nat → List zV → List zV → zM → Option β) (kR : Option zV → zM → Option β) (kC : Nat → List zV → Nat → List zV → List zV → zM → Option β) (pc : Nat) (ls st : List zV) (M : zM) (E : zE) :
    zX kN kR kC false pc ls st M E = zX (fun a1 a2 a3 a4 => @ite _ (zsc a4 = zsc M ∧ znx a4 = znx M) (Classical.propDecidable _) (kN a1 a2 a3 a4) none) (fun a1 a2 => @ite _ (a2 = M) (Classical.propDecidable _) (kR a1 a2) none) (fun y as pc1 ls1 st1 a => @ite _ (a = M) (Classical.propDecidable _) (kC y as pc1 ls1 st1 a) none) false pc ls st M E := by
  obtain ⟨I, n, ⟨a, d, g⟩, z, w, sw⟩ := E
  cases I <;> simp only [zX, znx_sI, znx_sL, znx_sR, zsc_sI, zsc_sL, zsc_sR, and_self, if_true, Bool.false_and, cond_false]
theorem zS_keep {pc : Nat} {ls st : List zV} {M : zM} {E : zE} {q : zB} (h : zS false pc ls st M E = some q) : zSkp M q := by
  have hg := zX_keep (fun a1 a2 a3 a4 => some (Sum.inl (a1, a2, a3, a4))) (fun a1 a2 => some (Sum.inr (Sum.inl (a1, a2)))) (fun a1 a2 a3 a4 a5 a6 => some (Sum.inr (Sum.inr (a1, a2, a3, a4, a5, a6)))) pc ls st M E
  rw [zX_eq (fun a1 a2 a3 a4 => @ite _ (zsc a4 = zsc M ∧ znx a4 = znx M) (Classical.propDecidable _) _ none)] at hg
  have h2 : zS false pc ls st M E = (zS false pc ls st M E).bind _ := hg
  rw [h] at h2
  rw [Option.bind_some] at h2
  obtain q | q | q := q
  · have h4 : some _ = @ite _ (zsc q.2.2.2 = zsc M ∧ znx q.2.2.2 = znx M) (Classical.propDecidable _) _ none := h2
    by_cases hc : zsc q.2.2.2 = zsc M ∧ znx q.2.2.2 = znx M
    · exact hc
    · rw [if_neg hc] at h4; cases h4
  · have h4 : some _ = @ite _ (q.2 = M) (Classical.propDecidable _) _ none := h2
    by_cases hc : q.2 = M
    · exact hc
    · rw [if_neg hc] at h4; cases h4
  · have h4 : some _ = @ite _ (q.2.2.2.2.2 = M) (Classical.propDecidable _) _ none := h2
    by_cases hc : q.2.2.2.2.2 = M
    · exact hc
    · rw [if_neg hc] at h4; cases h4
theorem zrun_keep : ∀ (n d m pc : Nat) (ls st : List zV) (M : zM) (r : Option zV × zM), zrun false n d m pc ls st M = some r → zsc r.2 = zsc M ∧ znx r.2 = znx M
  | 0, d, m, pc, ls, st, M, r, h => by cases h
  | n + 1, d, m, pc, ls, st, M, r, h => by
    rw [zrun_succ] at h
    cases hz : zins m pc with
    | none => rw [hz] at h; cases h
    | some E =>
      rw [hz] at h
      simp only [Option.bind_some] at h
      rw [zX_eq] at h
      cases hs : zS false pc ls st M E.1 with
      | none => rw [hs] at h; cases h
      | some q =>
        rw [hs] at h
        have hk := zS_keep hs
        simp only [Option.bind_some] at h
        obtain q | q | q := q
        · have hk' : zsc q.2.2.2 = zsc M ∧ znx q.2.2.2 = znx M := hk
          have h1 := zrun_keep n _ _ _ _ _ _ _ h
          exact ⟨h1.1.trans hk'.1, h1.2.trans hk'.2⟩
        · have hk' : q.2 = M := hk
          have h' : (some (q.1, q.2) : Option (Option zV × zM)) = some r := h
          cases h'
          rw [hk']
          exact ⟨rfl, rfl⟩
        · have hk' : q.2.2.2.2.2 = M := hk
          simp only [zel, zca] at h
          cases d with
          | zero => cases h
          | succ d' =>
            simp only at h
            rw [hk'] at h
            cases hc : zrun false n d' q.1 0 (zpad (zml q.1) (zargs q.2.1)) [] M with
            | none => rw [hc] at h; cases h
            | some w =>
              rw [hc] at h
              have h1 := zrun_keep n _ _ _ _ _ _ _ hc
              have h2 := zrun_keep n _ _ _ _ _ _ _ h
              exact ⟨h2.1.trans h1.1, h2.2.trans h1.2⟩
theorem zgo_keep {d m pc : Nat} {ls st : List zV} {M : zM} {r : Option zV × zM} (h : zgo false d m pc ls st M = some r) : zsc r.2 = zsc M ∧ znx r.2 = znx M := by
  obtain ⟨n, h⟩ := zgo_iff.mp h
  exact zrun_keep n _ _ _ _ _ _ _ h
