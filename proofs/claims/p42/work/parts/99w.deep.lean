/-! ===== a run that ends, ends with more calls allowed too ===== -/
theorem zrun_deep (b : Bool) : ∀ (n d m pc : Nat) (ls st : List zV) (M : zM) (r : Option zV × zM), zrun b n d m pc ls st M = some r → zrun b n (d + 1) m pc ls st M = some r
  | 0, d, m, pc, ls, st, M, r, h => by cases h
  | n + 1, d, m, pc, ls, st, M, r, h => by
    rw [zrun_succ] at h ⊢
    cases hz : zins m pc with
    | none => rw [hz] at h; cases h
    | some E =>
      rw [hz] at h
      simp only [Option.bind_some] at h ⊢
      rw [zX_eq] at h ⊢
      cases hs : zS b pc ls st M E.1 with
      | none => rw [hs] at h; cases h
      | some q =>
        rw [hs] at h
        simp only [Option.bind_some] at h ⊢
        obtain q | q | q := q
        · exact zrun_deep b n _ _ _ _ _ _ _ h
        · exact h
        · simp only [zel, zca] at h ⊢
          cases d with
          | zero => cases h
          | succ d' =>
            simp only at h ⊢
            cases hc : zrun b n d' q.1 0 (zpad (zml q.1) (zargs q.2.1)) [] q.2.2.2.2.2 with
            | none => rw [hc] at h; cases h
            | some w =>
              rw [hc] at h
              rw [zrun_deep b n _ _ _ _ _ _ _ hc]
              exact zrun_deep b n _ _ _ _ _ _ _ h
theorem zgo_deep {b : Bool} {d m pc : Nat} {ls st : List zV} {M : zM} {r : Option zV × zM} (h : zgo b d m pc ls st M = some r) : zgo b (d + 1) m pc ls st M = some r := by
  obtain ⟨n, hn⟩ := zgo_iff.mp h
  exact zgo_iff.mpr ⟨n, zrun_deep b n _ _ _ _ _ _ _ hn⟩
theorem zgo_deepk {b : Bool} {d m pc : Nat} {ls st : List zV} {M : zM} {r : Option zV × zM} (h : zgo b d m pc ls st M = some r) : ∀ k, zgo b (d + k) m pc ls st M = some r
  | 0 => h
  | k + 1 => zgo_deep (zgo_deepk h k)
/-! ===== two memories laid together ===== -/
theorem mg_m {k : Nat} (hk : k = 13 ∨ 55 ≤ k) (A B : zM) (i s : Nat) : zgI (zmg zmd B A) k i s = zgI B k i s ∧ zgL (zmg zmd B A) k i s = zgL B k i s ∧ zgR (zmg zmd B A) k i s = zgR B k i s := by
  have hz : zmd k = true := by
    unfold zmd
    rcases hk with rfl | hk
    · rfl
    · rw [show Nat.blt k 55 = false from by
        cases hb : Nat.blt k 55 with
        | false => rfl
        | true => exact absurd (Nat.le_of_ble_eq_true hb) (by omega)]
      rw [Bool.or_eq_true]
      exact Or.inr rfl
  exact ⟨if_pos hz, if_pos hz, if_pos hz⟩
theorem mg_c {k : Nat} (hk : ¬ (k = 13 ∨ 55 ≤ k)) (A B : zM) (i s : Nat) : zgI (zmg zmd B A) k i s = zgI A k i s ∧ zgL (zmg zmd B A) k i s = zgL A k i s ∧ zgR (zmg zmd B A) k i s = zgR A k i s := by
  have hz : ¬ zmd k = true := by
    unfold zmd
    intro h
    rw [Bool.or_eq_true] at h
    rcases h with h | h
    · exact hk (Or.inl (zb_eq h))
    · cases hb : Nat.blt k 55 with
      | false =>
        refine hk (Or.inr ?_)
        rcases Nat.lt_or_ge k 55 with w | w
        · rw [Nat.ble_eq_true_of_le (show k + 1 ≤ 55 from w) |> fun e => (show Nat.blt k 55 = true from e)] at hb
          cases hb
        · exact w
      | true => rw [hb] at h; cases h
  exact ⟨if_neg hz, if_neg hz, if_neg hz⟩
/-- what neither changed, their putting together leaves as it was -/
theorem mg_fr {m : Nat → Bool} {M A B : zM} {Q Q' : Nat → Nat → Nat → Prop} (f : zFo Q M A) (g : zFo Q' M B) (h1 : ∀ k i s, ¬ (k = 13 ∨ 55 ≤ k) → Q k i s → m (zown k i s) = true) (h2 : ∀ k i s, k = 13 ∨ 55 ≤ k → Q' k i s → m (zown k i s) = true) : zFr m M (zmg zmd B A) := by
  intro k i s hm
  by_cases hk : k = 13 ∨ 55 ≤ k
  · obtain ⟨e1, e2, e3⟩ := mg_m hk A B i s
    obtain ⟨g1, g2, g3⟩ := g k i s (fun y => by rw [h2 k i s hk y] at hm; cases hm)
    exact ⟨e1.trans g1, e2.trans g2, e3.trans g3⟩
  · obtain ⟨e1, e2, e3⟩ := mg_c hk A B i s
    obtain ⟨g1, g2, g3⟩ := f k i s (fun y => by rw [h1 k i s hk y] at hm; cases hm)
    exact ⟨e1.trans g1, e2.trans g2, e3.trans g3⟩
/-! ===== hands led stay while others come ===== -/
theorem yDl_one {p g h i bi di : Nat} {A B A' B' : zM} (hd : yDl g g A B) (hne : ¬ g = h) (hdi : ¬ di = g) (f : zFo (oneA i bi di) A A') (k : zFo (oneB p h) B B') (hg : g < 60) : yDl g g A' B' := by
  obtain ⟨⟨a1, a2, a3, a4, a5, a6, a7, a8⟩, b1, b2, ⟨m, m1, m2, m3, m4⟩, ⟨t, t1, t2, t3, t4⟩, lf, l1, l2, l3⟩ := hd
  have hA : ∀ k s, k = 4 ∨ k = 24 ∨ k = 25 ∨ k = 28 → zgI A' k g s = zgI A k g s := fun k s hk => (f k g s (by
    intro y
    rcases y with y | y | y | y | y
    · omega
    · exact hdi y.1.symm
    · omega
    · omega
    · omega)).1
  have hB : ∀ k, 83 ≤ k → k ≤ 94 → ¬ (k = 91 ∨ k = 93) → zgI B' k 0 g = zgI B k 0 g := fun k k1 k2 k3 => (‹zFo (oneB p h) B B'› k 0 g (by
    rintro ⟨-, y⟩
    rcases y with y | y | y | y | y | y | y | y | y | y | y <;> omega)).1
  have hC : ∀ k s, k = 91 ∨ k = 93 → s < 20 → zgI B' k 0 (24 * g + s) = zgI B k 0 (24 * g + s) := fun k s k1 k2 => (‹zFo (oneB p h) B B'› k 0 _ (by
    rintro ⟨-, y⟩
    rcases y with y | y | y | y | y | y | y | y | y | y | y <;> omega)).1
  have hL : ∀ v, v ≤ 10 → zgI B' 95 0 (11 * g + v) = zgI B 95 0 (11 * g + v) := fun v v1 => (‹zFo (oneB p h) B B'› 95 0 _ (by
    rintro ⟨-, y⟩
    rcases y with y | y | y | y | y | y | y | y | y | y | y <;> omega)).1
  refine ⟨⟨?_, ?_, ?_, ?_, ?_, ?_, ?_, ?_⟩, ?_, ?_, ⟨m, ?_, ?_, m3, fun s hs => ?_⟩, ⟨t, ?_, ?_, t3, fun s hs => ?_⟩, lf, fun v v1 v2 => ⟨?_, ?_⟩, ?_, l3⟩
  · rw [hA 4 9 (by omega), hB 83 (by omega) (by omega) (by omega)]; exact a1
  · rw [hA 4 10 (by omega), hB 84 (by omega) (by omega) (by omega)]; exact a2
  · rw [hA 4 11 (by omega), hB 85 (by omega) (by omega) (by omega)]; exact a3
  · rw [hA 4 15 (by omega), hB 86 (by omega) (by omega) (by omega)]; exact a4
  · rw [hA 4 12 (by omega), hB 87 (by omega) (by omega) (by omega)]; exact a5
  · rw [hA 4 13 (by omega), hB 88 (by omega) (by omega) (by omega)]; exact a6
  · rw [hA 4 18 (by omega), hB 89 (by omega) (by omega) (by omega)]; exact a7
  · rw [hA 4 19 (by omega), hB 90 (by omega) (by omega) (by omega)]; exact a8
  · rw [hB 89 (by omega) (by omega) (by omega)]; exact b1
  · rw [hB 90 (by omega) (by omega) (by omega)]; exact b2
  · rw [hA 4 5 (by omega)]; exact m1
  · rw [hB 92 (by omega) (by omega) (by omega)]; exact m2
  · rw [hA 24 s (by omega), hC 91 s (by omega) (by omega)]; exact m4 s hs
  · rw [hA 4 6 (by omega)]; exact t1
  · rw [hB 94 (by omega) (by omega) (by omega)]; exact t2
  · rw [hA 25 s (by omega), hC 93 s (by omega) (by omega)]; exact t4 s hs
  · rw [hA 28 v (by omega)]; exact (l1 v v1 v2).1
  · rw [hL v v2]; exact (l1 v v1 v2).2
  · have e := hL 0 (by omega)
    rw [Nat.add_zero] at e
    rw [e]; exact l2
