/-! ===== 'limit' ===== -/
def zo2 (a b n : Nat) : Bool := zo a n || zo b n
theorem zo2_l {a b n : Nat} (h : zo2 a b n = false) : Nat.beq a n = false ∧ Nat.beq (a + 20) n = false ∧ Nat.beq b n = false ∧ Nat.beq (b + 20) n = false := by
  unfold zo2 zo at h
  rw [Bool.or_eq_false_iff, Bool.or_eq_false_iff, Bool.or_eq_false_iff] at h
  have k : ∀ x : Nat, Nat.beq n x = false → Nat.beq x n = false := fun x q => by
    cases hb : Nat.beq x n with
    | false => rfl
    | true =>
      have := zb_eq hb
      subst this
      rw [Nat.beq_refl] at q
      cases q
  exact ⟨k _ h.1.1, k _ h.1.2, k _ h.2.1, k _ h.2.2⟩
theorem zT1 : zokT 1 0 := ⟨fun h => absurd h (by decide), fun _ h => absurd rfl h⟩
theorem Q9 (d : Nat) (x : Int32) (u : zV) (M : zM) (hc : Rch M) (hl : Rlim M) : ∃ (y : Int32) (M1 M2 : zM), zgo false (d + 3) 139 0 [zr 12 0, zi x, u] [] M = some (some (zi y), M1) ∧ zgo false (d + 3) 209 0 [zr 13 0, zi x] [] M1 = some (some (zi y), M2) ∧ zFr (zo2 2 3) M M2 ∧ Rch M2 ∧ Rlim M2 := by
  have e1 : (1 : Int32).toInt = 1 := rfl
  have e9 : (9999 : Int32).toInt = 9999 := rfl
  have bad : ¬ ((1 : Int32) ≤ x ∧ x ≤ 9999) → zgo false (d + 3) 209 0 [zr 13 0, zi x] [] M = some (some (zi (-1)), M) := fun h => by
    rw [B209_0]
    refine zbind_of (S_in false (d + 2) x 1 9999 M) ?_
    rw [if_neg h]
    refine (B209_8 (d + 2) x 0 M).trans ?_
    rw [if_pos rfl, B209_22]
  by_cases a : x < 1
  · refine ⟨-1, M, M, ?_, bad (fun q => ?_), zFr_refl _ M, hc, hl⟩
    · rw [B139_0, if_pos a, B139_12]
    · have := q.1
      rw [zI_le] at this
      rw [zI_lt] at a
      omega
  by_cases b : ¬ x ≤ 9999
  · refine ⟨-1, M, M, ?_, bad (fun q => b q.2), zFr_refl _ M, hc, hl⟩
    rw [B139_0, if_neg a, if_neg b, B139_12]
  have b := Decidable.of_not_not b
  have ok : (1 : Int32) ≤ x ∧ x ≤ 9999 := ⟨by rw [zI_lt] at a; rw [zI_le]; omega, b⟩
  have rg : 1 ≤ x.toInt ∧ x.toInt ≤ 9999 := by
    rw [zI_le, zI_le] at ok
    omega
  obtain ⟨l1, l2⟩ := hl
  obtain ⟨n, w, h1, h2, h3, h4, h5, h6⟩ := hc
  have mod : ∀ (M1 : zM) (r : Option zV × zM), zgo false (d + 2) 204 0 [zr 13 0, zi 1, zi 0, zi x, zu, zu] [] M1 = some (some (zi (zgI M 13 0 11)), r.2) → zgo false (d + 3) 209 0 [zr 13 0, zi x] [] M1 = some (some (zi (zgI M 13 0 11)), r.2) := fun M1 r h => by
    rw [B209_0]
    refine zbind_of (S_in false (d + 2) x 1 9999 M1) ?_
    rw [if_pos ok]
    refine (B209_8 (d + 2) x 1 M1).trans ?_
    rw [if_neg (by decide)]
    refine zbind_of h ?_
    refine (B209_18 (d + 3) x _ _).trans ?_
    rw [B209_22]
  by_cases c : zgI M 13 0 11 = x
  · refine ⟨x, zsI M 12 0 15 x, zsI M 12 0 15 x, ?_, ?_, zFr_sI (zFr_refl _ M) rfl, ?_, ?_⟩
    · rw [B139_0, if_neg a, if_pos b, l1, if_pos c, B139_34, c]
    · have h := S_chg_eq (d + 2) 1 0 x zu zu (zsI M 12 0 15 x) zT1 (show zgI M 13 0 11 = x from c)
      have h' := mod (zsI M 12 0 15 x) (none, zsI M 12 0 15 x) (by rw [c]; exact h)
      rw [c] at h'
      exact h'
    · exact Rch_fr (m := Nat.beq 2) (zFr_sI (zFr_refl _ M) rfl) rfl rfl (Int.le_refl _) ⟨n, w, h1, h2, h3, h4, h5, h6⟩
    · exact ⟨show x = zgI M 13 0 11 from c.symm, l2⟩
  · obtain ⟨M1, r1, f1, p1, p2, p3, p4, p5⟩ := S_come15 d n 4 (zgI M 13 0 11) x M h2 (by omega)
    have g : ∀ k i s, k = 13 ∨ 55 ≤ k → zgI (zsI M1 12 0 15 x) k i s = zgI M k i s := fun k i s hk => by
      rw [zgI_sI, if_neg (by omega)]
      refine (f1 k i s ?_).1
      unfold zown
      rw [if_pos hk]
      cases hb : Nat.beq 3 (zow0 k i s + 20) with
      | false => rfl
      | true =>
        have := zb_eq hb
        omega
    have hcur : zcur (zsI M1 12 0 15 x) 1 0 = zgI M 13 0 11 := g 13 0 11 (Or.inl rfl)
    obtain ⟨M2, r2, f2, q1, q2, q3, q4, q5, q6⟩ := S_chg_ne (d + 1) n 1 0 x zu zu (zsI M1 12 0 15 x) zT1 (by rw [hcur]; exact c) (by rw [g 13 0 12 (Or.inl rfl)]; exact h3) (by omega)
    rw [hcur] at r2 q5
    have e58 : zgI (zsI M1 12 0 15 x) 58 0 = zgI M 58 0 := funext fun s => g 58 0 s (Or.inr (by omega))
    have e59 : zgI (zsI M1 12 0 15 x) 59 0 = zgI M 59 0 := funext fun s => g 59 0 s (Or.inr (by omega))
    have e60 : zgI (zsI M1 12 0 15 x) 60 0 = zgI M 60 0 := funext fun s => g 60 0 s (Or.inr (by omega))
    have e61 : zgI (zsI M1 12 0 15 x) 61 0 = zgI M 61 0 := funext fun s => g 61 0 s (Or.inr (by omega))
    rw [e58] at q3
    rw [e59] at q4
    rw [e60] at q5
    rw [e61] at q6
    refine ⟨zgI M 13 0 11, zsI M1 12 0 15 x, zsI M2 13 0 11 x, ?_, ?_, ?_, ?_, ?_⟩
    · rw [B139_0, if_neg a, if_pos b, l1, if_neg c]
      refine zbind_of r1 ?_
      exact B139_34 (d + 3) x _ M1
    · exact mod (zsI M1 12 0 15 x) (none, zsI M2 13 0 11 x) r2
    · have t1 : zFr (zo2 2 3) M M1 := zFr_mono f1 (fun n q => (zo2_l q).2.2.1)
      have t2 : zFr (zo2 2 3) M (zsI M1 12 0 15 x) := zFr_sI t1 rfl
      exact zFr_sI (zFr_trans t2 (zFr_mono f2 (fun n q => (zo2_l q).2.2.2))) rfl
    · refine Rch_new (M := M) (e21 := 4) (e22 := zgI M 13 0 11) (e23 := x) (e58 := 1) (e59 := 0) (e60 := zgI M 13 0 11) (e61 := x) h1 h6 ?_ ?_ q1 ?_ q2 (fun s => ?_) (fun s => ?_) (fun s => ?_) q3 q4 q5 q6 ⟨rfl, rfl, Or.inr (Or.inl ⟨rfl, rfl, rfl, l2, rg⟩)⟩
      · exact ((f2 13 0 31 rfl).1).trans (g 13 0 31 (Or.inl rfl))
      · exact ((f2 3 0 3 rfl).1).trans p1
      · exact ((f2 3 0 4 rfl).1).trans p2
      · exact ((f2 21 0 s rfl).1).trans (p3 s)
      · exact ((f2 22 0 s rfl).1).trans (p4 s)
      · exact ((f2 23 0 s rfl).1).trans (p5 s)
    · exact ⟨(f2 12 0 15 rfl).1, rg⟩
