/-! ===== the two bits of the model's shoe stay bits ===== -/
def Zb (M : zM) : Prop := zib (zgI M 13 0 5) = true ∧ zib (zgI M 13 0 59) = true
theorem Zb_sI {M : zM} {k i s : Nat} {v : Int32} (hM : Zb M) (h : ¬ (k = 13 ∧ (s = 5 ∨ s = 59)) ∨ zib v = true) : Zb (zsI M k i s v) := by
  refine ⟨?_, ?_⟩
  · rw [zgI_sI]
    by_cases c : 13 = k ∧ 0 = i ∧ 5 = s
    · rw [if_pos c]
      rcases h with h | h
      · exact absurd ⟨c.1.symm, Or.inl c.2.2.symm⟩ h
      · exact h
    · rw [if_neg c]; exact hM.1
  · rw [zgI_sI]
    by_cases c : 13 = k ∧ 0 = i ∧ 59 = s
    · rw [if_pos c]
      rcases h with h | h
      · exact absurd ⟨c.1.symm, Or.inr c.2.2.symm⟩ h
      · exact h
    · rw [if_neg c]; exact hM.2
theorem Zb_sL {M : zM} {k i s : Nat} {v : Int64} : Zb (zsL M k i s v) = Zb M := rfl
theorem Zb_sR {M : zM} {k i s : Nat} {v : Nat × Nat} : Zb (zsR M k i s v) = Zb M := rfl
theorem zat_13 {k n : Nat} (h : Nat.beq (zat k) n = true) (hn : ¬ n = zat 13) : ¬ k = 13 := fun e => by
  subst e
  exact hn (Nat.eq_of_beq_eq_true h).symm
def zfb (E : zE) : Bool := match E.1 with
  | .putfield _ => !(Nat.beq E.2.2.1.1 13 && (Nat.beq E.2.2.1.2.1 5 || Nat.beq E.2.2.1.2.1 59)) || Nat.beq E.2.2.1.2.2 1
  | _ => true
def zfb1 (o : Option (zE × Bool)) : Bool := match o with
  | none => true
  | some E => zfb E.1
set_option maxRecDepth 100000 in
theorem zfb_cs : (zcs.all fun a => a.all fun b => b.all fun c => c.all zfb1) = true := by decide +kernel
theorem zfb_ins {m pc : Nat} {E : zE × Bool} (h : zins m pc = some E) : zfb E.1 = true := by
  have h1 := zat2_all zfb1 none rfl (pc % 24) _ (zat2_all (fun c : List (Option (zE × Bool)) => c.all zfb1) [] rfl (pc / 24) _ (zat2_all (fun b : List (List (Option (zE × Bool))) => b.all fun c => c.all zfb1) [] rfl (m % 18) _ (zat2_all (fun a : List (List (List (Option (zE × Bool)))) => a.all fun b => b.all fun c => c.all zfb1) [] rfl (m / 18) zcs zfb_cs)))
  have h2 : zfb1 (zins m pc) = true := h1
  rw [h] at h2
  exact h2
def zSb (M : zM) : zB → Prop
  | .inl q => Zb q.2.2.2
  | .inr (.inl q) => q.2 = M
  | .inr (.inr q) => q.2.2.2.2.2 = M
set_option maxHeartbeats 8000000 in
set_option maxRecDepth 100000 in
theorem zX_b {β : Type} (kN : Nat → List zV → List zV → zM → Option β) (kR : Option zV → zM → Option β) (kC : Nat → List zV → Nat → List zV → List zV → zM → Option β) (pc : Nat) (ls st : List zV) (M : zM) (hM : Zb M) (E : zE) (hE : zfb E = true) :
    zX kN kR kC false pc ls st M E = zX (fun a1 a2 a3 a4 => @ite _ (Zb a4) (Classical.propDecidable _) (kN a1 a2 a3 a4) none) (fun a1 a2 => @ite _ (a2 = M) (Classical.propDecidable _) (kR a1 a2) none) (fun y as pc1 ls1 st1 a => @ite _ (a = M) (Classical.propDecidable _) (kC y as pc1 ls1 st1 a) none) false pc ls st M E := by
  obtain ⟨I, n, ⟨a, d, g⟩, z, w, sw⟩ := E
  cases I
  case putfield =>
    have hE : (!(Nat.beq a 13 && (Nat.beq d 5 || Nat.beq d 59)) || Nat.beq g 1) = true := hE
    obtain _ | ⟨v, _ | ⟨(x | x | x | x), r⟩⟩ := st
    all_goals first | rfl | skip
    simp only [zX]
    cases hb : Nat.beq x.1 a with
    | false => rfl
    | true =>
      simp only [cond_true]
      match g, hE with
      | 0, hE =>
        obtain v | v | v | v := v
        all_goals first | rfl | skip
        have hc : ¬ (a = 13 ∧ (d = 5 ∨ d = 59)) := fun e => by
          rcases e with ⟨rfl, rfl | rfl⟩ <;> exact absurd hE (by decide)
        exact (if_pos (Zb_sI hM (Or.inl hc))).symm
      | 1, _ =>
        obtain v | v | v | v := v
        all_goals first | rfl | skip
        cases hz : zib v with
        | false => simp only [hz, cond_false]
        | true =>
          simp only [hz, cond_true]
          exact (if_pos (Zb_sI hM (Or.inr hz))).symm
      | 2, _ => rfl
      | 3, _ =>
        obtain v | v | v | v := v
        all_goals first | rfl | skip
        cases hz : (false || zmut a d) with
        | false => simp only [hz, cond_false]
        | true =>
          simp only [hz, cond_true]
          exact (if_pos (show Zb (zsR M a x.2 d v) from hM)).symm
      | n + 4, _ => rfl
  case iastore =>
    obtain _ | ⟨(v | v | v | v), _ | ⟨(y | y | y | y), _ | ⟨(x | x | x | x), r⟩⟩⟩ := st
    all_goals first | rfl | skip
    simp only [zX]
    cases hb : (Nat.beq (zat x.1) 1 && Nat.ble 17 x.1) with
    | false => rfl
    | true =>
      have hk : ¬ x.1 = 13 := zat_13 (Bool.and_eq_true_iff.mp hb).1 (by decide)
      simp only [cond_true]
      by_cases e : zin y (zlen M x.1) = true
      · rw [if_pos e, if_pos e]
        exact (if_pos (Zb_sI hM (Or.inl (fun q => hk q.1)))).symm
      · rw [if_neg e, if_neg e]
  case bastore =>
    obtain _ | ⟨(v | v | v | v), _ | ⟨(y | y | y | y), _ | ⟨(x | x | x | x), r⟩⟩⟩ := st
    all_goals first | rfl | skip
    simp only [zX]
    cases hb : (Nat.beq (zat x.1) 2 && Nat.ble 17 x.1) with
    | false =>
      simp only [cond_false]
      cases hb4 : Nat.beq (zat x.1) 4 with
      | false => rfl
      | true =>
        have hk : ¬ x.1 = 13 := zat_13 hb4 (by decide)
        simp only [cond_true]
        by_cases e : zin y (zlen M x.1) = true
        · rw [if_pos e, if_pos e]
          exact (if_pos (Zb_sI hM (Or.inl (fun q => hk q.1)))).symm
        · rw [if_neg e, if_neg e]
    | true =>
      have hk : ¬ x.1 = 13 := zat_13 (Bool.and_eq_true_iff.mp hb).1 (by decide)
      simp only [cond_true]
      by_cases e : zin y (zlen M x.1) = true
      · rw [if_pos e, if_pos e]
        exact (if_pos (Zb_sI hM (Or.inl (fun q => hk q.1)))).symm
      · rw [if_neg e, if_neg e]
  case sastore =>
    obtain _ | ⟨(v | v | v | v), _ | ⟨(y | y | y | y), _ | ⟨(x | x | x | x), r⟩⟩⟩ := st
    all_goals first | rfl | skip
    simp only [zX]
    cases hb : Nat.beq (zat x.1) 3 with
    | false => rfl
    | true =>
      have hk : ¬ x.1 = 13 := zat_13 hb (by decide)
      simp only [cond_true]
      by_cases e : zin y (zlen M x.1) = true
      · rw [if_pos e, if_pos e]
        exact (if_pos (Zb_sI hM (Or.inl (fun q => hk q.1)))).symm
      · rw [if_neg e, if_neg e]
  all_goals simp only [zX, hM, Zb_sL, Zb_sR, if_true, Bool.false_and, cond_false]
theorem zS_b {pc : Nat} {ls st : List zV} {M : zM} (hM : Zb M) {E : zE} (hE : zfb E = true) {q : zB} (h : zS false pc ls st M E = some q) : zSb M q := by
  have hg := zX_b (fun a1 a2 a3 a4 => some (Sum.inl (a1, a2, a3, a4))) (fun a1 a2 => some (Sum.inr (Sum.inl (a1, a2)))) (fun a1 a2 a3 a4 a5 a6 => some (Sum.inr (Sum.inr (a1, a2, a3, a4, a5, a6)))) pc ls st M hM E hE
  rw [zX_eq (fun a1 a2 a3 a4 => @ite _ (Zb a4) (Classical.propDecidable _) _ none)] at hg
  have h2 : zS false pc ls st M E = (zS false pc ls st M E).bind _ := hg
  rw [h] at h2
  rw [Option.bind_some] at h2
  obtain q | q | q := q
  · have h4 : some _ = @ite _ (Zb q.2.2.2) (Classical.propDecidable _) _ none := h2
    by_cases hc : Zb q.2.2.2
    · exact hc
    · rw [if_neg hc] at h4; cases h4
  · have h4 : some _ = @ite _ (q.2 = M) (Classical.propDecidable _) _ none := h2
    by_cases hc : q.2 = M
    · exact hc
    · rw [if_neg hc] at h4; cases h4
  · have h4 : some _ = @ite _ (q.2.2.2.2.2 = M) (Classical.propDecidable _) _ none := h2
    by_cases hc : q.2.2.2.2.2 = M
    · exact hc
    · rw [if_neg hc] at h4; cases h4
theorem zrun_b : ∀ (n d m pc : Nat) (ls st : List zV) (M : zM) (r : Option zV × zM), Zb M → zrun false n d m pc ls st M = some r → Zb r.2
  | 0, d, m, pc, ls, st, M, r, _, h => by cases h
  | n + 1, d, m, pc, ls, st, M, r, hM, h => by
    rw [zrun_succ] at h
    cases hz : zins m pc with
    | none => rw [hz] at h; cases h
    | some E =>
      rw [hz] at h
      simp only [Option.bind_some] at h
      rw [zX_eq] at h
      cases hs : zS false pc ls st M E.1 with
      | none => rw [hs] at h; cases h
      | some q =>
        rw [hs] at h
        have hk := zS_b hM (zfb_ins hz) hs
        simp only [Option.bind_some] at h
        obtain q | q | q := q
        · exact zrun_b n _ _ _ _ _ _ _ hk h
        · have hk' : q.2 = M := hk
          have h' : (some (q.1, q.2) : Option (Option zV × zM)) = some r := h
          cases h'
          rw [hk']
          exact hM
        · have hk' : q.2.2.2.2.2 = M := hk
          simp only [zel, zca] at h
          cases d with
          | zero => cases h
          | succ d' =>
            simp only at h
            rw [hk'] at h
            cases hc : zrun false n d' q.1 0 (zpad (zml q.1) (zargs q.2.1)) [] M with
            | none => rw [hc] at h; cases h
            | some w =>
              rw [hc] at h
              exact zrun_b n _ _ _ _ _ _ _ (zrun_b n _ _ _ _ _ _ _ hM hc) h
theorem zgo_b {d m pc : Nat} {ls st : List zV} {M : zM} {r : Option zV × zM} (hM : Zb M) (h : zgo false d m pc ls st M = some r) : Zb r.2 := by
  obtain ⟨n, h⟩ := zgo_iff.mp h
  exact zrun_b n _ _ _ _ _ _ _ hM h
