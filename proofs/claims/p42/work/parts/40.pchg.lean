/-! ===== a change of both, whatever it is of ===== -/
theorem zput_I (M : zM) (x1 x2 v : Int32) (k i s : Nat) (h : k ≠ 57 ∧ k ≠ 71 ∧ ¬ (k = 13 ∧ s = 11)) : zgI (zput M x1 x2 v) k i s = zgI M k i s := by
  unfold zput
  by_cases a : x1 = 0
  · rw [if_pos a, zgI_sI, if_neg (fun q => h.1 q.1)]
  rw [if_neg a]
  by_cases b : x1 = 1
  · rw [if_pos b, zgI_sI, if_neg (fun q => h.2.2 ⟨q.1, q.2.2⟩)]
  rw [if_neg b, zgI_sI, if_neg (fun q => h.2.1 q.1)]
theorem zFr_put {m : Nat → Bool} {M M' : zM} (h : zFr m M M') (x1 x2 v : Int32) : zFr m (zput M x1 x2 v) (zput M' x1 x2 v) := by
  unfold zput
  by_cases a : x1 = 0
  · rw [if_pos a, if_pos a]
    exact zFr_st h _ _ _ _
  rw [if_neg a, if_neg a]
  by_cases b : x1 = 1
  · rw [if_pos b, if_pos b]
    exact zFr_st h _ _ _ _
  rw [if_neg b, if_neg b]
  exact zFr_st h _ _ _ _
theorem zo_l {a n : Nat} (h : zo a n = false) : Nat.beq a n = false ∧ Nat.beq (a + 20) n = false := by
  have := zo2_l (a := a) (b := a) (n := n) (by unfold zo2; rw [h]; rfl)
  exact ⟨this.1, this.2.1⟩
theorem zow_ge {k i s : Nat} (h : k = 13 ∨ 55 ≤ k) : Nat.beq 3 (zown k i s) = false := by
  unfold zown
  rw [if_pos h]
  cases hb : Nat.beq 3 (zow0 k i s + 20) with
  | false => rfl
  | true =>
    have := zb_eq hb
    omega
theorem P_chg (d n u k i s : Nat) (x1 x2 w v : Int32) (M : zM) (hk : k ≠ 13 ∧ k < 55) (hk3 : k ≠ 3 ∧ k ≠ 21 ∧ k ≠ 22 ∧ k ≠ 23) (h1 : n + u ≤ 40) (h2 : zgI M 3 0 3 = nI n) (h3 : zgI M 13 0 12 = nI n) (h6 : ∀ s, s < n + u → zent M s) (hT : zokT x1 x2) (hne : zcur M x1 x2 ≠ v) (hent : zentv (zgI M 13 0 31) w (zcur M x1 x2) v x1 x2 (zcur M x1 x2) v) :
    ∃ M1 M2, zgo false (d + 2) 15 0 [zr 3 0, zi w, zi (zcur M x1 x2), zi v] [] M = some (none, M1) ∧ zgo false (d + 2) 204 0 [zr 13 0, zi x1, zi x2, zi v, zu, zu] [] (zsI M1 k i s v) = some (some (zi (zcur M x1 x2)), M2) ∧ Rch M2 ∧ zFr (zo 3) (zput (zsI M k i s v) x1 x2 v) M2 ∧ zFr (Nat.beq 3) M M1 := by
  obtain ⟨M1, r1, f1, p1, p2, p3, p4, p5⟩ := S_come15 d n w (zcur M x1 x2) v M h2 (by omega)
  have g : ∀ k' i' s', k' = 13 ∨ 55 ≤ k' → zgI (zsI M1 k i s v) k' i' s' = zgI M k' i' s' := fun k' i' s' hk' => by
    rw [zgI_sI, if_neg (by omega)]
    exact (f1 k' i' s' (zow_ge hk')).1
  have hcur : zcur (zsI M1 k i s v) x1 x2 = zcur M x1 x2 := by
    unfold zcur
    rw [g 57 0 _ (Or.inr (by omega)), g 13 0 11 (Or.inl rfl), g 71 0 _ (Or.inr (by omega))]
  obtain ⟨M2, r2, f2, q1, q2, q3, q4, q5, q6⟩ := S_chg_ne (d + 1) n x1 x2 v zu zu (zsI M1 k i s v) hT (by rw [hcur]; exact hne) (by rw [g 13 0 12 (Or.inl rfl)]; exact h3) (by omega)
  rw [hcur] at r2 q5
  rw [show zgI (zsI M1 k i s v) 58 0 = zgI M 58 0 from funext fun s => g 58 0 s (Or.inr (by omega))] at q3
  rw [show zgI (zsI M1 k i s v) 59 0 = zgI M 59 0 from funext fun s => g 59 0 s (Or.inr (by omega))] at q4
  rw [show zgI (zsI M1 k i s v) 60 0 = zgI M 60 0 from funext fun s => g 60 0 s (Or.inr (by omega))] at q5
  rw [show zgI (zsI M1 k i s v) 61 0 = zgI M 61 0 from funext fun s => g 61 0 s (Or.inr (by omega))] at q6
  have e : ∀ k' s', k' = 3 ∨ k' = 21 ∨ k' = 22 ∨ k' = 23 → zgI (zput M2 x1 x2 v) k' 0 s' = zgI M1 k' 0 s' := fun k' s' hk' => by
    rw [zput_I _ _ _ _ _ _ _ (by omega), (f2 k' 0 s' (by rcases hk' with rfl | rfl | rfl | rfl <;> rfl)).1, zgI_sI, if_neg (by omega)]
  refine ⟨M1, zput M2 x1 x2 v, r1, r2, ?_, ?_, f1⟩
  · refine Rch_new (M := M) (e21 := w) (e22 := zcur M x1 x2) (e23 := v) (e58 := x1) (e59 := x2) (e60 := zcur M x1 x2) (e61 := v) h1 h6 ?_ ?_ ?_ ?_ ?_ (fun s => ?_) (fun s => ?_) (fun s => ?_) (fun s => ?_) (fun s => ?_) (fun s => ?_) (fun s => ?_) hent
    · rw [zput_I _ _ _ _ _ _ _ (by omega), (f2 13 0 31 rfl).1]
      exact g 13 0 31 (Or.inl rfl)
    · rw [e 3 3 (by omega)]; exact p1
    · rw [zput_I _ _ _ _ _ _ _ (by omega)]; exact q1
    · rw [e 3 4 (by omega)]; exact p2
    · rw [zput_I _ _ _ _ _ _ _ (by omega)]; exact q2
    · rw [e 21 s (by omega)]; exact p3 s
    · rw [e 22 s (by omega)]; exact p4 s
    · rw [e 23 s (by omega)]; exact p5 s
    · rw [zput_I _ _ _ _ _ _ _ (by omega)]; exact q3 s
    · rw [zput_I _ _ _ _ _ _ _ (by omega)]; exact q4 s
    · rw [zput_I _ _ _ _ _ _ _ (by omega)]; exact q5 s
    · rw [zput_I _ _ _ _ _ _ _ (by omega)]; exact q6 s
  · exact zFr_put (zFr_trans (zFr_st (zFr_mono f1 (fun n q => (zo_l q).1)) k i s v) (zFr_mono f2 (fun n q => (zo_l q).2))) x1 x2 v
