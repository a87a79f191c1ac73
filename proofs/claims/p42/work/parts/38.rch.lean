/-! ===== changes: what stands between the two ===== -/
/-- a rule's value -/
def zrl (w : Nat) (x : Int32) : Prop := (w = 0 → 0 ≤ x.toInt ∧ x.toInt ≤ 1) ∧ (w = 1 → 100 ≤ x.toInt ∧ x.toInt ≤ 200) ∧ (w = 2 → 0 ≤ x.toInt ∧ x.toInt ≤ 1) ∧ (w = 3 → 15 ≤ x.toInt ∧ x.toInt ≤ 19)
def zentv (pl e21 e22 e23 e58 e59 e60 e61 : Int32) : Prop := e22 = e60 ∧ e23 = e61 ∧ ((e58 = 0 ∧ ∃ w, w < 4 ∧ e59 = nI w ∧ e21 = nI w ∧ zrl w e60 ∧ zrl w e61) ∨ (e58 = 1 ∧ e59 = 0 ∧ e21 = 4 ∧ (1 ≤ e60.toInt ∧ e60.toInt ≤ 9999) ∧ (1 ≤ e61.toInt ∧ e61.toInt ≤ 9999)) ∨ (e58 = 2 ∧ ∃ p : Nat, (p : Int) < pl.toInt ∧ e59 = nI p ∧ e21 = nI (10 + p) ∧ (0 ≤ e60.toInt ∧ e60.toInt ≤ 9999900) ∧ (0 ≤ e61.toInt ∧ e61.toInt ≤ 9999900)))
def zent (M : zM) (s : Nat) : Prop := zentv (zgI M 13 0 31) (zgI M 21 0 s) (zgI M 22 0 s) (zgI M 23 0 s) (zgI M 58 0 s) (zgI M 59 0 s) (zgI M 60 0 s) (zgI M 61 0 s)
def Rch (M : zM) : Prop := ∃ n u : Nat, n + u ≤ 40 ∧ zgI M 3 0 3 = nI n ∧ zgI M 13 0 12 = nI n ∧ zgI M 3 0 4 = nI (n + u) ∧ zgI M 13 0 13 = nI u ∧ ∀ s, s < n + u → zent M s
theorem zentv_le {p q e21 e22 e23 e58 e59 e60 e61 : Int32} (h : p.toInt ≤ q.toInt) : zentv p e21 e22 e23 e58 e59 e60 e61 → zentv q e21 e22 e23 e58 e59 e60 e61 := by
  rintro ⟨a, b, c | c | ⟨c, k, d, e⟩⟩
  · exact ⟨a, b, Or.inl c⟩
  · exact ⟨a, b, Or.inr (Or.inl c)⟩
  · exact ⟨a, b, Or.inr (Or.inr ⟨c, k, Int.lt_of_lt_of_le d h, e⟩)⟩
/-- the changes stay as they are where their cells do, and no player goes -/
theorem Rch_fr {m : Nat → Bool} {M M' : zM} (h : zFr m M M') (hm : m 3 = false) (hm' : m 23 = false) (hp : (zgI M 13 0 31).toInt ≤ (zgI M' 13 0 31).toInt) (hR : Rch M) : Rch M' := by
  obtain ⟨n, u, h1, h2, h3, h4, h5, h6⟩ := hR
  refine ⟨n, u, h1, by rw [(h 3 0 3 hm).1]; exact h2, by rw [(h 13 0 12 hm').1]; exact h3, by rw [(h 3 0 4 hm).1]; exact h4, by rw [(h 13 0 13 hm').1]; exact h5, fun s hs => ?_⟩
  unfold zent
  rw [(h 21 0 s hm).1, (h 22 0 s hm).1, (h 23 0 s hm).1, (h 58 0 s hm').1, (h 59 0 s hm').1, (h 60 0 s hm').1, (h 61 0 s hm').1]
  exact zentv_le hp (h6 s hs)
/-- one change more -/
theorem Rch_new {M M2 : zM} {n u : Nat} {e21 e22 e23 e58 e59 e60 e61 : Int32} (hn : n + u ≤ 40) (h6 : ∀ s, s < n + u → zent M s) (hp : zgI M2 13 0 31 = zgI M 13 0 31) (a1 : zgI M2 3 0 3 = nI (znn n + 1)) (a2 : zgI M2 13 0 12 = nI (znn n + 1)) (a3 : zgI M2 3 0 4 = nI (znn n + 1)) (a4 : zgI M2 13 0 13 = 0)
    (b21 : ∀ s, zgI M2 21 0 s = if s = znn n then e21 else zsh n (zgI M 21 0) s) (b22 : ∀ s, zgI M2 22 0 s = if s = znn n then e22 else zsh n (zgI M 22 0) s) (b23 : ∀ s, zgI M2 23 0 s = if s = znn n then e23 else zsh n (zgI M 23 0) s)
    (b58 : ∀ s, zgI M2 58 0 s = if s = znn n then e58 else zsh n (zgI M 58 0) s) (b59 : ∀ s, zgI M2 59 0 s = if s = znn n then e59 else zsh n (zgI M 59 0) s) (b60 : ∀ s, zgI M2 60 0 s = if s = znn n then e60 else zsh n (zgI M 60 0) s) (b61 : ∀ s, zgI M2 61 0 s = if s = znn n then e61 else zsh n (zgI M 61 0) s)
    (he : zentv (zgI M 13 0 31) e21 e22 e23 e58 e59 e60 e61) : Rch M2 := by
  have hz := znn_le (n := n) (by omega)
  refine ⟨znn n + 1, 0, by omega, a1, a2, a3, a4.trans rfl, fun s hs => ?_⟩
  unfold zent
  rw [b21, b22, b23, b58, b59, b60, b61, hp]
  by_cases q : s = znn n
  · simp only [if_pos q]
    exact he
  · simp only [if_neg q]
    have hs : s < znn n := by omega
    unfold zsh
    by_cases t : n = 40 ∧ s < 39
    · simp only [if_pos t]
      exact h6 (s + 1) (by omega)
    · simp only [if_neg t]
      refine h6 s ?_
      unfold znn at hs
      by_cases v : n = 40
      · rw [if_pos v] at hs
        omega
      · rw [if_neg v] at hs
        omega
