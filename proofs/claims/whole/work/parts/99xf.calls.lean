/-! ===== every call keeps what stands between them; by program (wip/whole/src/gen15.py) ===== -/
theorem CC0 (L : Nat × (Nat → Int32)) (t : Nat) (ht : t < 512) : zC0 (RA L t) (RA L (t + 1)) 100 := by
  intro x0 x1 M H
  have H0 := H
  obtain ⟨hsc, hJ, hZ, hB⟩ := H
  have hB0 := hB
  obtain ⟨h8, h9, h10, h3, h2, hl, h6, hz, h4, h5, hS, h7, hby, h11, hn, hA, hAJ⟩ := hB
  obtain ⟨y, M1, M2, c, m, f, r⟩ := Q0 97 x0 x1 zu M hS
  exact ⟨y, M1, M2, c, m, RA_step H0 c m rfl rfl (RB_fr f hB0 rfl (Or.inl ⟨rfl, rfl⟩) (Or.inl ⟨rfl, rfl⟩) (Or.inl ⟨rfl, rfl⟩) (Or.inl rfl) (Or.inl ⟨rfl, rfl⟩) (Or.inl ⟨rfl, rfl⟩) (Or.inl ⟨rfl, rfl⟩) (Or.inl ⟨rfl, rfl⟩) (Or.inl ⟨rfl, rfl⟩) (Or.inr r) (Or.inl ⟨rfl, rfl⟩) (Or.inl ⟨rfl, rfl⟩))⟩
theorem CC1 (L : Nat × (Nat → Int32)) (t : Nat) (ht : t < 512) : zC1 (RA L t) (RA L (t + 1)) 100 := by
  intro x0 M H
  have H0 := H
  obtain ⟨hsc, hJ, hZ, hB⟩ := H
  have hB0 := hB
  obtain ⟨h8, h9, h10, h3, h2, hl, h6, hz, h4, h5, hS, h7, hby, h11, hn, hA, hAJ⟩ := hB
  obtain ⟨y, c, m⟩ := Q1 97 x0 M hS
  exact ⟨y, M, M, c, m, RA_step H0 c m rfl rfl (RB_fr (zFr_refl (fun _ => false) M) hB0 rfl (Or.inl ⟨rfl, rfl⟩) (Or.inl ⟨rfl, rfl⟩) (Or.inl ⟨rfl, rfl⟩) (Or.inl rfl) (Or.inl ⟨rfl, rfl⟩) (Or.inl ⟨rfl, rfl⟩) (Or.inl ⟨rfl, rfl⟩) (Or.inl ⟨rfl, rfl⟩) (Or.inl ⟨rfl, rfl⟩) (Or.inl ⟨rfl, rfl⟩) (Or.inl ⟨rfl, rfl⟩) (Or.inl ⟨rfl, rfl⟩))⟩
theorem CC2 (L : Nat × (Nat → Int32)) (t : Nat) (ht : t < 512) : zC2 (RA L t) (RA L (t + 1)) 100 := by
  intro x0 x1 M H
  have H0 := H
  obtain ⟨hsc, hJ, hZ, hB⟩ := H
  have hB0 := hB
  obtain ⟨h8, h9, h10, h3, h2, hl, h6, hz, h4, h5, hS, h7, hby, h11, hn, hA, hAJ⟩ := hB
  obtain ⟨y, M1, M2, c, m, f, r1, r2, e1, e2⟩ := Q2b 97 x0 x1 zu M h3 h2
  exact ⟨y, M1, M2, c, m, RA_step H0 c m rfl rfl (RB_fr f hB0 rfl (Or.inl ⟨rfl, rfl⟩) (Or.inl ⟨rfl, rfl⟩) (Or.inl ⟨rfl, rfl⟩) (Or.inl rfl) (Or.inr r1) (Or.inr ⟨r2, by unfold Rlim at hl ⊢; rw [e1, e2]; exact hl⟩) (Or.inl ⟨rfl, rfl⟩) (Or.inl ⟨rfl, rfl⟩) (Or.inl ⟨rfl, rfl⟩) (Or.inl ⟨rfl, rfl⟩) (Or.inl ⟨rfl, rfl⟩) (Or.inl ⟨rfl, rfl⟩))⟩
theorem CC3 (L : Nat × (Nat → Int32)) (t : Nat) (ht : t < 512) : zC3 (RA L t) (RA L (t + 1)) 100 := by
  intro x0 x1 M H
  have H0 := H
  obtain ⟨hsc, hJ, hZ, hB⟩ := H
  have hB0 := hB
  obtain ⟨h8, h9, h10, h3, h2, hl, h6, hz, h4, h5, hS, h7, hby, h11, hn, hA, hAJ⟩ := hB
  obtain ⟨y, M1, M2, c, m, f, r⟩ := Q3 97 x0 x1 zu M h4
  exact ⟨y, M1, M2, c, m, RA_step H0 c m rfl rfl (RB_fr f hB0 rfl (Or.inl ⟨rfl, rfl⟩) (Or.inl ⟨rfl, rfl⟩) (Or.inl ⟨rfl, rfl⟩) (Or.inl rfl) (Or.inl ⟨rfl, rfl⟩) (Or.inl ⟨rfl, rfl⟩) (Or.inl ⟨rfl, rfl⟩) (Or.inr r) (Or.inl ⟨rfl, rfl⟩) (Or.inl ⟨rfl, rfl⟩) (Or.inl ⟨rfl, rfl⟩) (Or.inl ⟨rfl, rfl⟩))⟩
theorem CC4 (L : Nat × (Nat → Int32)) (t : Nat) (ht : t < 512) : zC4 (RA L t) (RA L (t + 1)) 100 := by
  intro x0 M H
  have H0 := H
  obtain ⟨hsc, hJ, hZ, hB⟩ := H
  have hB0 := hB
  obtain ⟨h8, h9, h10, h3, h2, hl, h6, hz, h4, h5, hS, h7, hby, h11, hn, hA, hAJ⟩ := hB
  obtain ⟨y, M1, M2, c, m, f, r1, r2⟩ := Q4 36 x0 zu zu zu M h4 h5
  exact ⟨y, M1, M2, c, m, RA_step H0 c m rfl rfl (RB_fr f hB0 rfl (Or.inl ⟨rfl, rfl⟩) (Or.inl ⟨rfl, rfl⟩) (Or.inl ⟨rfl, rfl⟩) (Or.inl rfl) (Or.inl ⟨rfl, rfl⟩) (Or.inl ⟨rfl, rfl⟩) (Or.inl ⟨rfl, rfl⟩) (Or.inr r1) (Or.inr r2) (Or.inl ⟨rfl, rfl⟩) (Or.inl ⟨rfl, rfl⟩) (Or.inl ⟨rfl, rfl⟩))⟩
theorem CC5 (L : Nat × (Nat → Int32)) (t : Nat) (ht : t < 512) : zC5 (RA L t) (RA L (t + 1)) 100 := by
  intro x0 M H
  have H0 := H
  obtain ⟨hsc, hJ, hZ, hB⟩ := H
  have hB0 := hB
  obtain ⟨h8, h9, h10, h3, h2, hl, h6, hz, h4, h5, hS, h7, hby, h11, hn, hA, hAJ⟩ := hB
  obtain ⟨y, M2, c, m, f⟩ := Q5 96 x0 M h5
  exact ⟨y, M, M2, c, m, RA_step H0 c m rfl rfl (RB_fr f hB0 rfl (Or.inl ⟨rfl, rfl⟩) (Or.inl ⟨rfl, rfl⟩) (Or.inl ⟨rfl, rfl⟩) (Or.inl rfl) (Or.inl ⟨rfl, rfl⟩) (Or.inl ⟨rfl, rfl⟩) (Or.inl ⟨rfl, rfl⟩) (Or.inl ⟨rfl, rfl⟩) (Or.inl ⟨rfl, rfl⟩) (Or.inl ⟨rfl, rfl⟩) (Or.inl ⟨rfl, rfl⟩) (Or.inl ⟨rfl, rfl⟩))⟩
theorem CC6 (L : Nat × (Nat → Int32)) (t : Nat) (ht : t < 512) : zC6 (RA L t) (RA L (t + 1)) 100 := by
  intro x0 x1 x2 M H
  have H0 := H
  obtain ⟨hsc, hJ, hZ, hB⟩ := H
  have hB0 := hB
  obtain ⟨h8, h9, h10, h3, h2, hl, h6, hz, h4, h5, hS, h7, hby, h11, hn, hA, hAJ⟩ := hB
  obtain ⟨y, M1, M2, c, m, f, r1, r2, le, e74⟩ := Q6 99 x0 x1 x2 zu M h6 hz
  exact ⟨y, M1, M2, c, m, RA_step H0 c m rfl rfl (RB_fr f hB0 rfl (Or.inl ⟨rfl, rfl⟩) (Or.inl ⟨rfl, rfl⟩) (Or.inl ⟨rfl, rfl⟩) (Or.inr le) (Or.inl ⟨rfl, rfl⟩) (Or.inl ⟨rfl, rfl⟩) (Or.inr ⟨r1, r2, Rhn_up (fun s hs => by rw [e74]; exact hn s hs)⟩) (Or.inl ⟨rfl, rfl⟩) (Or.inl ⟨rfl, rfl⟩) (Or.inl ⟨rfl, rfl⟩) (Or.inl ⟨rfl, rfl⟩) (Or.inl ⟨rfl, rfl⟩))⟩
theorem CC7 (L : Nat × (Nat → Int32)) (t : Nat) (ht : t < 512) : zC7 (RA L t) (RA L (t + 1)) 100 := by
  intro x0 x1 M H
  have H0 := H
  obtain ⟨hsc, hJ, hZ, hB⟩ := H
  have hB0 := hB
  obtain ⟨h8, h9, h10, h3, h2, hl, h6, hz, h4, h5, hS, h7, hby, h11, hn, hA, hAJ⟩ := hB
  obtain ⟨y, c, m⟩ := Q7 98 x0 x1 zu M h6 hl
  exact ⟨y, M, M, c, m, RA_step H0 c m rfl rfl (RB_fr (zFr_refl (fun _ => false) M) hB0 rfl (Or.inl ⟨rfl, rfl⟩) (Or.inl ⟨rfl, rfl⟩) (Or.inl ⟨rfl, rfl⟩) (Or.inl rfl) (Or.inl ⟨rfl, rfl⟩) (Or.inl ⟨rfl, rfl⟩) (Or.inl ⟨rfl, rfl⟩) (Or.inl ⟨rfl, rfl⟩) (Or.inl ⟨rfl, rfl⟩) (Or.inl ⟨rfl, rfl⟩) (Or.inl ⟨rfl, rfl⟩) (Or.inl ⟨rfl, rfl⟩))⟩
theorem CC8 (L : Nat × (Nat → Int32)) (t : Nat) (ht : t < 512) : zC8 (RA L t) (RA L (t + 1)) 100 := by
  intro x0 x1 M H
  have H0 := H
  obtain ⟨hsc, hJ, hZ, hB⟩ := H
  have hB0 := hB
  obtain ⟨h8, h9, h10, h3, h2, hl, h6, hz, h4, h5, hS, h7, hby, h11, hn, hA, hAJ⟩ := hB
  obtain ⟨y, M1, M2, c, m, f, r1, r2, kp⟩ := Q8b 97 x0 x1 zu zu M h3 h6
  exact ⟨y, M1, M2, c, m, RA_step H0 c m rfl rfl (RB_fr f hB0 rfl (Or.inl ⟨rfl, rfl⟩) (Or.inl ⟨rfl, rfl⟩) (Or.inl ⟨rfl, rfl⟩) (Or.inr (by rw [kp.2.2]; exact Int32.le_refl _)) (Or.inr r1) (Or.inl ⟨rfl, rfl⟩) (Or.inr ⟨r2, yKp_Rpz kp hz, Rhn_up (yKp_Rhn kp hn)⟩) (Or.inl ⟨rfl, rfl⟩) (Or.inl ⟨rfl, rfl⟩) (Or.inl ⟨rfl, rfl⟩) (Or.inl ⟨rfl, rfl⟩) (Or.inl ⟨rfl, rfl⟩))⟩
theorem CC9 (L : Nat × (Nat → Int32)) (t : Nat) (ht : t < 512) : zC9 (RA L t) (RA L (t + 1)) 100 := by
  intro x0 M H
  have H0 := H
  obtain ⟨hsc, hJ, hZ, hB⟩ := H
  have hB0 := hB
  obtain ⟨h8, h9, h10, h3, h2, hl, h6, hz, h4, h5, hS, h7, hby, h11, hn, hA, hAJ⟩ := hB
  obtain ⟨y, M1, M2, c, m, f, r1, r2, r3⟩ := Q9b 97 x0 zu M h3 hl h2
  exact ⟨y, M1, M2, c, m, RA_step H0 c m rfl rfl (RB_fr f hB0 rfl (Or.inl ⟨rfl, rfl⟩) (Or.inl ⟨rfl, rfl⟩) (Or.inl ⟨rfl, rfl⟩) (Or.inl rfl) (Or.inr r1) (Or.inr ⟨r3, r2⟩) (Or.inl ⟨rfl, rfl⟩) (Or.inl ⟨rfl, rfl⟩) (Or.inl ⟨rfl, rfl⟩) (Or.inl ⟨rfl, rfl⟩) (Or.inl ⟨rfl, rfl⟩) (Or.inl ⟨rfl, rfl⟩))⟩
theorem CC10 (L : Nat × (Nat → Int32)) (t : Nat) (ht : t < 512) : zC10 (RA L t) (RA L (t + 1)) 100 := by
  intro x0 x1 M H
  have H0 := H
  obtain ⟨hsc, hJ, hZ, hB⟩ := H
  have hB0 := hB
  obtain ⟨h8, h9, h10, h3, h2, hl, h6, hz, h4, h5, hS, h7, hby, h11, hn, hA, hAJ⟩ := hB
  obtain ⟨y, M1, M2, c, m, f, s1, p1, p2, n1, l1, b1, e31⟩ := Q10 65 t x0 x1 M hS h2 hA h5 h6 hz hn hl h7 hby hJ (by omega)
  exact ⟨y, M1, M2, c, m, RA_step H0 c m rfl rfl (RB_fr f hB0 rfl (Or.inl ⟨rfl, rfl⟩) (Or.inl ⟨rfl, rfl⟩) (Or.inl ⟨rfl, rfl⟩) (Or.inr (by rw [e31]; exact Int32.le_refl _)) (Or.inl ⟨rfl, rfl⟩) (Or.inl ⟨rfl, rfl⟩) (Or.inr ⟨p1, p2, n1⟩) (Or.inl ⟨rfl, rfl⟩) (Or.inl ⟨rfl, rfl⟩) (Or.inr s1) (Or.inr ⟨l1, b1⟩) (Or.inl ⟨rfl, rfl⟩))⟩
theorem CC11 (L : Nat × (Nat → Int32)) (t : Nat) (ht : t < 512) : zC11 (RA L t) (RA L (t + 1)) 100 := by
  intro x0 x1 M H
  have H0 := H
  obtain ⟨hsc, hJ, hZ, hB⟩ := H
  have hB0 := hB
  obtain ⟨h8, h9, h10, h3, h2, hl, h6, hz, h4, h5, hS, h7, hby, h11, hn, hA, hAJ⟩ := hB
  obtain ⟨y, c, m⟩ := Q11 97 x0 x1 zu M h7
  exact ⟨y, M, M, c, m, RA_step H0 c m rfl rfl (RB_fr (zFr_refl (fun _ => false) M) hB0 rfl (Or.inl ⟨rfl, rfl⟩) (Or.inl ⟨rfl, rfl⟩) (Or.inl ⟨rfl, rfl⟩) (Or.inl rfl) (Or.inl ⟨rfl, rfl⟩) (Or.inl ⟨rfl, rfl⟩) (Or.inl ⟨rfl, rfl⟩) (Or.inl ⟨rfl, rfl⟩) (Or.inl ⟨rfl, rfl⟩) (Or.inl ⟨rfl, rfl⟩) (Or.inl ⟨rfl, rfl⟩) (Or.inl ⟨rfl, rfl⟩))⟩
theorem CC12 (L : Nat × (Nat → Int32)) (t : Nat) (ht : t < 512) : zC12 (RA L t) (RA L (t + 1)) 100 := by
  intro x0 x1 x2 M H
  have H0 := H
  obtain ⟨hsc, hJ, hZ, hB⟩ := H
  have hB0 := hB
  obtain ⟨h8, h9, h10, h3, h2, hl, h6, hz, h4, h5, hS, h7, hby, h11, hn, hA, hAJ⟩ := hB
  obtain ⟨y, M1, M2, c, m, f⟩ := Q12 67 t x0 x1 x2 M hS h2 hA h5 h6 hn h11 hJ
  exact ⟨y, M1, M2, c, m, RA_step H0 c m rfl rfl (RB_fr f hB0 rfl (Or.inl ⟨rfl, rfl⟩) (Or.inl ⟨rfl, rfl⟩) (Or.inl ⟨rfl, rfl⟩) (Or.inl rfl) (Or.inl ⟨rfl, rfl⟩) (Or.inl ⟨rfl, rfl⟩) (Or.inl ⟨rfl, rfl⟩) (Or.inl ⟨rfl, rfl⟩) (Or.inl ⟨rfl, rfl⟩) (Or.inl ⟨rfl, rfl⟩) (Or.inl ⟨rfl, rfl⟩) (Or.inl ⟨rfl, rfl⟩))⟩
theorem CC13 (L : Nat × (Nat → Int32)) (t : Nat) (ht : t < 512) : zC13 (RA L t) (RA L (t + 1)) 100 := by
  intro x0 x1 M H
  have H0 := H
  obtain ⟨hsc, hJ, hZ, hB⟩ := H
  have hB0 := hB
  obtain ⟨h8, h9, h10, h3, h2, hl, h6, hz, h4, h5, hS, h7, hby, h11, hn, hA, hAJ⟩ := hB
  obtain ⟨y, M1, M2, c, m, f⟩ := Q13 72 x0 x1 M hS h2 hAJ
  exact ⟨y, M1, M2, c, m, RA_step H0 c m rfl rfl (RB_fr f hB0 rfl (Or.inl ⟨rfl, rfl⟩) (Or.inl ⟨rfl, rfl⟩) (Or.inl ⟨rfl, rfl⟩) (Or.inl rfl) (Or.inl ⟨rfl, rfl⟩) (Or.inl ⟨rfl, rfl⟩) (Or.inl ⟨rfl, rfl⟩) (Or.inl ⟨rfl, rfl⟩) (Or.inl ⟨rfl, rfl⟩) (Or.inl ⟨rfl, rfl⟩) (Or.inl ⟨rfl, rfl⟩) (Or.inl ⟨rfl, rfl⟩))⟩
theorem CC14 (L : Nat × (Nat → Int32)) (t : Nat) (ht : t < 512) : zC14 (RA L t) (RA L (t + 1)) 100 := by
  intro x0 x1 x2 M H
  have H0 := H
  obtain ⟨hsc, hJ, hZ, hB⟩ := H
  have hB0 := hB
  obtain ⟨h8, h9, h10, h3, h2, hl, h6, hz, h4, h5, hS, h7, hby, h11, hn, hA, hAJ⟩ := hB
  obtain ⟨y, M1, M2, c, m, f⟩ := Q14 72 x0 x1 x2 M hS h2 hAJ
  exact ⟨y, M1, M2, c, m, RA_step H0 c m rfl rfl (RB_fr f hB0 rfl (Or.inl ⟨rfl, rfl⟩) (Or.inl ⟨rfl, rfl⟩) (Or.inl ⟨rfl, rfl⟩) (Or.inl rfl) (Or.inl ⟨rfl, rfl⟩) (Or.inl ⟨rfl, rfl⟩) (Or.inl ⟨rfl, rfl⟩) (Or.inl ⟨rfl, rfl⟩) (Or.inl ⟨rfl, rfl⟩) (Or.inl ⟨rfl, rfl⟩) (Or.inl ⟨rfl, rfl⟩) (Or.inl ⟨rfl, rfl⟩))⟩
theorem CC15 (L : Nat × (Nat → Int32)) (t : Nat) (ht : t < 512) : zC15 (RA L t) (RA L (t + 1)) 100 := by
  intro x0 x1 x2 M H
  have H0 := H
  obtain ⟨hsc, hJ, hZ, hB⟩ := H
  have hB0 := hB
  obtain ⟨h8, h9, h10, h3, h2, hl, h6, hz, h4, h5, hS, h7, hby, h11, hn, hA, hAJ⟩ := hB
  obtain ⟨y, M1, M2, c, m, f⟩ := Q15 72 x0 x1 x2 M hS h2 hAJ
  exact ⟨y, M1, M2, c, m, RA_step H0 c m rfl rfl (RB_fr f hB0 rfl (Or.inl ⟨rfl, rfl⟩) (Or.inl ⟨rfl, rfl⟩) (Or.inl ⟨rfl, rfl⟩) (Or.inl rfl) (Or.inl ⟨rfl, rfl⟩) (Or.inl ⟨rfl, rfl⟩) (Or.inl ⟨rfl, rfl⟩) (Or.inl ⟨rfl, rfl⟩) (Or.inl ⟨rfl, rfl⟩) (Or.inl ⟨rfl, rfl⟩) (Or.inl ⟨rfl, rfl⟩) (Or.inl ⟨rfl, rfl⟩))⟩
theorem CC16 (L : Nat × (Nat → Int32)) (t : Nat) (ht : t < 512) : zC16 (RA L t) (RA L (t + 1)) 100 := by
  intro  M H
  have H0 := H
  obtain ⟨hsc, hJ, hZ, hB⟩ := H
  have hB0 := hB
  obtain ⟨h8, h9, h10, h3, h2, hl, h6, hz, h4, h5, hS, h7, hby, h11, hn, hA, hAJ⟩ := hB
  obtain ⟨y, M1, M2, c, m, f⟩ := Q16 72 M hS h2 hAJ
  exact ⟨y, M1, M2, c, m, RA_step H0 c m rfl rfl (RB_fr f hB0 rfl (Or.inl ⟨rfl, rfl⟩) (Or.inl ⟨rfl, rfl⟩) (Or.inl ⟨rfl, rfl⟩) (Or.inl rfl) (Or.inl ⟨rfl, rfl⟩) (Or.inl ⟨rfl, rfl⟩) (Or.inl ⟨rfl, rfl⟩) (Or.inl ⟨rfl, rfl⟩) (Or.inl ⟨rfl, rfl⟩) (Or.inl ⟨rfl, rfl⟩) (Or.inl ⟨rfl, rfl⟩) (Or.inl ⟨rfl, rfl⟩))⟩
theorem CC17 (L : Nat × (Nat → Int32)) (t : Nat) (ht : t < 512) : zC17 (RA L t) (RA L (t + 1)) 100 := by
  intro x0 x1 x2 M H
  have H0 := H
  obtain ⟨hsc, hJ, hZ, hB⟩ := H
  have hB0 := hB
  obtain ⟨h8, h9, h10, h3, h2, hl, h6, hz, h4, h5, hS, h7, hby, h11, hn, hA, hAJ⟩ := hB
  obtain ⟨y, M1, M2, c, m, f⟩ := Q17 72 x0 x1 x2 M hS h2 hAJ
  exact ⟨y, M1, M2, c, m, RA_step H0 c m rfl rfl (RB_fr f hB0 rfl (Or.inl ⟨rfl, rfl⟩) (Or.inl ⟨rfl, rfl⟩) (Or.inl ⟨rfl, rfl⟩) (Or.inl rfl) (Or.inl ⟨rfl, rfl⟩) (Or.inl ⟨rfl, rfl⟩) (Or.inl ⟨rfl, rfl⟩) (Or.inl ⟨rfl, rfl⟩) (Or.inl ⟨rfl, rfl⟩) (Or.inl ⟨rfl, rfl⟩) (Or.inl ⟨rfl, rfl⟩) (Or.inl ⟨rfl, rfl⟩))⟩
theorem CC18 (L : Nat × (Nat → Int32)) (t : Nat) (ht : t < 512) : zC18 (RA L t) (RA L (t + 1)) 100 := by
  intro x0 M H
  have H0 := H
  obtain ⟨hsc, hJ, hZ, hB⟩ := H
  have hB0 := hB
  obtain ⟨h8, h9, h10, h3, h2, hl, h6, hz, h4, h5, hS, h7, hby, h11, hn, hA, hAJ⟩ := hB
  obtain ⟨y, M1, M2, c, m, f⟩ := Q18 72 x0 M hS h2 hAJ
  exact ⟨y, M1, M2, c, m, RA_step H0 c m rfl rfl (RB_fr f hB0 rfl (Or.inl ⟨rfl, rfl⟩) (Or.inl ⟨rfl, rfl⟩) (Or.inl ⟨rfl, rfl⟩) (Or.inl rfl) (Or.inl ⟨rfl, rfl⟩) (Or.inl ⟨rfl, rfl⟩) (Or.inl ⟨rfl, rfl⟩) (Or.inl ⟨rfl, rfl⟩) (Or.inl ⟨rfl, rfl⟩) (Or.inl ⟨rfl, rfl⟩) (Or.inl ⟨rfl, rfl⟩) (Or.inl ⟨rfl, rfl⟩))⟩
theorem CC19 (L : Nat × (Nat → Int32)) (t : Nat) (ht : t < 512) : zC19 (RA L t) (RA L (t + 1)) 100 := by
  intro  M H
  have H0 := H
  obtain ⟨hsc, hJ, hZ, hB⟩ := H
  have hB0 := hB
  obtain ⟨h8, h9, h10, h3, h2, hl, h6, hz, h4, h5, hS, h7, hby, h11, hn, hA, hAJ⟩ := hB
  obtain ⟨y, M1, M2, c, m, f⟩ := Q19 72 M h2 hAJ h7
  exact ⟨y, M1, M2, c, m, RA_step H0 c m rfl rfl (RB_fr f hB0 rfl (Or.inl ⟨rfl, rfl⟩) (Or.inl ⟨rfl, rfl⟩) (Or.inl ⟨rfl, rfl⟩) (Or.inl rfl) (Or.inl ⟨rfl, rfl⟩) (Or.inl ⟨rfl, rfl⟩) (Or.inl ⟨rfl, rfl⟩) (Or.inl ⟨rfl, rfl⟩) (Or.inl ⟨rfl, rfl⟩) (Or.inl ⟨rfl, rfl⟩) (Or.inl ⟨rfl, rfl⟩) (Or.inl ⟨rfl, rfl⟩))⟩
theorem CC20 (L : Nat × (Nat → Int32)) (t : Nat) (ht : t < 512) : zC20 (RA L t) (RA L (t + 1)) 100 := by
  intro x0 x1 x2 x3 M H
  have H0 := H
  obtain ⟨hsc, hJ, hZ, hB⟩ := H
  have hB0 := hB
  obtain ⟨h8, h9, h10, h3, h2, hl, h6, hz, h4, h5, hS, h7, hby, h11, hn, hA, hAJ⟩ := hB
  obtain ⟨y, M1, M2, c, m, f, s1, p1, p2, n1, l1, b1, e31⟩ := Q20 65 t x0 x1 x2 x3 M hS h2 hA h5 h6 hz hn hl h7 hby hJ (by omega) hZ.1 hZ.2
  exact ⟨y, M1, M2, c, m, RA_step H0 c m rfl rfl (RB_fr f hB0 rfl (Or.inl ⟨rfl, rfl⟩) (Or.inl ⟨rfl, rfl⟩) (Or.inl ⟨rfl, rfl⟩) (Or.inr (by rw [e31]; exact Int32.le_refl _)) (Or.inl ⟨rfl, rfl⟩) (Or.inl ⟨rfl, rfl⟩) (Or.inr ⟨p1, p2, Rhn_up n1⟩) (Or.inl ⟨rfl, rfl⟩) (Or.inl ⟨rfl, rfl⟩) (Or.inr s1) (Or.inr ⟨l1, b1⟩) (Or.inl ⟨rfl, rfl⟩))⟩
theorem CC21 (L : Nat × (Nat → Int32)) (t : Nat) (ht : t < 512) : zC21 (RA L t) (RA L (t + 1)) 100 := by
  intro x0 M H
  have H0 := H
  obtain ⟨hsc, hJ, hZ, hB⟩ := H
  have hB0 := hB
  obtain ⟨h8, h9, h10, h3, h2, hl, h6, hz, h4, h5, hS, h7, hby, h11, hn, hA, hAJ⟩ := hB
  obtain ⟨y, M1, M2, c, m, f, r⟩ := Q21 98 x0 M h8
  exact ⟨y, M1, M2, c, m, RA_step H0 c m rfl rfl (RB_fr f hB0 rfl (Or.inr r) (Or.inl ⟨rfl, rfl⟩) (Or.inl ⟨rfl, rfl⟩) (Or.inl rfl) (Or.inl ⟨rfl, rfl⟩) (Or.inl ⟨rfl, rfl⟩) (Or.inl ⟨rfl, rfl⟩) (Or.inl ⟨rfl, rfl⟩) (Or.inl ⟨rfl, rfl⟩) (Or.inl ⟨rfl, rfl⟩) (Or.inl ⟨rfl, rfl⟩) (Or.inl ⟨rfl, rfl⟩))⟩
theorem CC22 (L : Nat × (Nat → Int32)) (t : Nat) (ht : t < 512) : zC22 (RA L t) (RA L (t + 1)) 100 := by
  intro  M H
  have H0 := H
  obtain ⟨hsc, hJ, hZ, hB⟩ := H
  have hB0 := hB
  obtain ⟨h8, h9, h10, h3, h2, hl, h6, hz, h4, h5, hS, h7, hby, h11, hn, hA, hAJ⟩ := hB
  obtain ⟨y, M1, M2, c, m, f, r⟩ := Q22 100 zu zu M h8
  exact ⟨y, M1, M2, c, m, RA_step H0 c m rfl rfl (RB_fr f hB0 rfl (Or.inr r) (Or.inl ⟨rfl, rfl⟩) (Or.inl ⟨rfl, rfl⟩) (Or.inl rfl) (Or.inl ⟨rfl, rfl⟩) (Or.inl ⟨rfl, rfl⟩) (Or.inl ⟨rfl, rfl⟩) (Or.inl ⟨rfl, rfl⟩) (Or.inl ⟨rfl, rfl⟩) (Or.inl ⟨rfl, rfl⟩) (Or.inl ⟨rfl, rfl⟩) (Or.inl ⟨rfl, rfl⟩))⟩
theorem CC23 (L : Nat × (Nat → Int32)) (t : Nat) (ht : t < 512) : zC23 (RA L t) (RA L (t + 1)) 100 := by
  intro x0 x1 M H
  have H0 := H
  obtain ⟨hsc, hJ, hZ, hB⟩ := H
  have hB0 := hB
  obtain ⟨h8, h9, h10, h3, h2, hl, h6, hz, h4, h5, hS, h7, hby, h11, hn, hA, hAJ⟩ := hB
  obtain ⟨y, M2, c, m, f⟩ := Q23 97 x0 x1 zu M h8
  exact ⟨y, M, M2, c, m, RA_step H0 c m rfl rfl (RB_fr f hB0 rfl (Or.inl ⟨rfl, rfl⟩) (Or.inl ⟨rfl, rfl⟩) (Or.inl ⟨rfl, rfl⟩) (Or.inl rfl) (Or.inl ⟨rfl, rfl⟩) (Or.inl ⟨rfl, rfl⟩) (Or.inl ⟨rfl, rfl⟩) (Or.inl ⟨rfl, rfl⟩) (Or.inl ⟨rfl, rfl⟩) (Or.inl ⟨rfl, rfl⟩) (Or.inl ⟨rfl, rfl⟩) (Or.inl ⟨rfl, rfl⟩))⟩
theorem CC24 (L : Nat × (Nat → Int32)) (t : Nat) (ht : t < 512) : zC24 (RA L t) (RA L (t + 1)) 100 := by
  intro x0 x1 M H
  have H0 := H
  obtain ⟨hsc, hJ, hZ, hB⟩ := H
  have hB0 := hB
  obtain ⟨h8, h9, h10, h3, h2, hl, h6, hz, h4, h5, hS, h7, hby, h11, hn, hA, hAJ⟩ := hB
  obtain ⟨y, M2, c, m, f⟩ := Q24 97 x0 x1 zu zu zu zu zu M h8
  exact ⟨y, M, M2, c, m, RA_step H0 c m rfl rfl (RB_fr f hB0 rfl (Or.inl ⟨rfl, rfl⟩) (Or.inl ⟨rfl, rfl⟩) (Or.inl ⟨rfl, rfl⟩) (Or.inl rfl) (Or.inl ⟨rfl, rfl⟩) (Or.inl ⟨rfl, rfl⟩) (Or.inl ⟨rfl, rfl⟩) (Or.inl ⟨rfl, rfl⟩) (Or.inl ⟨rfl, rfl⟩) (Or.inl ⟨rfl, rfl⟩) (Or.inl ⟨rfl, rfl⟩) (Or.inl ⟨rfl, rfl⟩))⟩
theorem CC25 (L : Nat × (Nat → Int32)) (t : Nat) (ht : t < 512) : zC25 (RA L t) (RA L (t + 1)) 100 := by
  intro x0 M H
  have H0 := H
  obtain ⟨hsc, hJ, hZ, hB⟩ := H
  have hB0 := hB
  obtain ⟨h8, h9, h10, h3, h2, hl, h6, hz, h4, h5, hS, h7, hby, h11, hn, hA, hAJ⟩ := hB
  obtain ⟨y, M1, M2, c, m, f, r⟩ := Q25 98 x0 M h9
  exact ⟨y, M1, M2, c, m, RA_step H0 c m rfl rfl (RB_fr f hB0 rfl (Or.inl ⟨rfl, rfl⟩) (Or.inr r) (Or.inl ⟨rfl, rfl⟩) (Or.inl rfl) (Or.inl ⟨rfl, rfl⟩) (Or.inl ⟨rfl, rfl⟩) (Or.inl ⟨rfl, rfl⟩) (Or.inl ⟨rfl, rfl⟩) (Or.inl ⟨rfl, rfl⟩) (Or.inl ⟨rfl, rfl⟩) (Or.inl ⟨rfl, rfl⟩) (Or.inl ⟨rfl, rfl⟩))⟩
theorem CC26 (L : Nat × (Nat → Int32)) (t : Nat) (ht : t < 512) : zC26 (RA L t) (RA L (t + 1)) 100 := by
  intro x0 M H
  have H0 := H
  obtain ⟨hsc, hJ, hZ, hB⟩ := H
  have hB0 := hB
  obtain ⟨h8, h9, h10, h3, h2, hl, h6, hz, h4, h5, hS, h7, hby, h11, hn, hA, hAJ⟩ := hB
  obtain ⟨y, c, m⟩ := Q26 98 x0 zu zu zu zu zu zu zu M h7 h9
  exact ⟨y, M, M, c, m, RA_step H0 c m rfl rfl (RB_fr (zFr_refl (fun _ => false) M) hB0 rfl (Or.inl ⟨rfl, rfl⟩) (Or.inl ⟨rfl, rfl⟩) (Or.inl ⟨rfl, rfl⟩) (Or.inl rfl) (Or.inl ⟨rfl, rfl⟩) (Or.inl ⟨rfl, rfl⟩) (Or.inl ⟨rfl, rfl⟩) (Or.inl ⟨rfl, rfl⟩) (Or.inl ⟨rfl, rfl⟩) (Or.inl ⟨rfl, rfl⟩) (Or.inl ⟨rfl, rfl⟩) (Or.inl ⟨rfl, rfl⟩))⟩
theorem CC27 (L : Nat × (Nat → Int32)) (t : Nat) (ht : t < 512) : zC27 (RA L t) (RA L (t + 1)) 100 := by
  intro  M H
  have H0 := H
  obtain ⟨hsc, hJ, hZ, hB⟩ := H
  have hB0 := hB
  obtain ⟨h8, h9, h10, h3, h2, hl, h6, hz, h4, h5, hS, h7, hby, h11, hn, hA, hAJ⟩ := hB
  obtain ⟨y, c, m⟩ := Q27 99 zu zu zu zu zu M h7
  exact ⟨y, M, M, c, m, RA_step H0 c m rfl rfl (RB_fr (zFr_refl (fun _ => false) M) hB0 rfl (Or.inl ⟨rfl, rfl⟩) (Or.inl ⟨rfl, rfl⟩) (Or.inl ⟨rfl, rfl⟩) (Or.inl rfl) (Or.inl ⟨rfl, rfl⟩) (Or.inl ⟨rfl, rfl⟩) (Or.inl ⟨rfl, rfl⟩) (Or.inl ⟨rfl, rfl⟩) (Or.inl ⟨rfl, rfl⟩) (Or.inl ⟨rfl, rfl⟩) (Or.inl ⟨rfl, rfl⟩) (Or.inl ⟨rfl, rfl⟩))⟩
theorem CC28 (L : Nat × (Nat → Int32)) (t : Nat) (ht : t < 512) : zC28 (RA L t) (RA L (t + 1)) 100 := by
  intro  M H
  have H0 := H
  obtain ⟨hsc, hJ, hZ, hB⟩ := H
  have hB0 := hB
  obtain ⟨h8, h9, h10, h3, h2, hl, h6, hz, h4, h5, hS, h7, hby, h11, hn, hA, hAJ⟩ := hB
  obtain ⟨y, M1, M2, c, m, f, r1, r2, kp⟩ := Q28b 97 M h3 ⟨h2, hl, h6⟩
  exact ⟨y, M1, M2, c, m, RA_step H0 c m rfl rfl (RB_fr f hB0 rfl (Or.inl ⟨rfl, rfl⟩) (Or.inl ⟨rfl, rfl⟩) (Or.inl ⟨rfl, rfl⟩) (Or.inr (by rw [kp.2.2]; exact Int32.le_refl _)) (Or.inr r1) (Or.inr ⟨r2.1, r2.2.1⟩) (Or.inr ⟨r2.2.2, yKp_Rpz kp hz, Rhn_up (yKp_Rhn kp hn)⟩) (Or.inl ⟨rfl, rfl⟩) (Or.inl ⟨rfl, rfl⟩) (Or.inl ⟨rfl, rfl⟩) (Or.inl ⟨rfl, rfl⟩) (Or.inl ⟨rfl, rfl⟩))⟩
theorem CC29 (L : Nat × (Nat → Int32)) (t : Nat) (ht : t < 512) : zC29 (RA L t) (RA L (t + 1)) 100 := by
  intro  M H
  have H0 := H
  obtain ⟨hsc, hJ, hZ, hB⟩ := H
  have hB0 := hB
  obtain ⟨h8, h9, h10, h3, h2, hl, h6, hz, h4, h5, hS, h7, hby, h11, hn, hA, hAJ⟩ := hB
  obtain ⟨y, M1, M2, c, m, f, r1, r2, kp⟩ := Q29b 97 M h3 ⟨h2, hl, h6⟩
  exact ⟨y, M1, M2, c, m, RA_step H0 c m rfl rfl (RB_fr f hB0 rfl (Or.inl ⟨rfl, rfl⟩) (Or.inl ⟨rfl, rfl⟩) (Or.inl ⟨rfl, rfl⟩) (Or.inr (by rw [kp.2.2]; exact Int32.le_refl _)) (Or.inr r1) (Or.inr ⟨r2.1, r2.2.1⟩) (Or.inr ⟨r2.2.2, yKp_Rpz kp hz, Rhn_up (yKp_Rhn kp hn)⟩) (Or.inl ⟨rfl, rfl⟩) (Or.inl ⟨rfl, rfl⟩) (Or.inl ⟨rfl, rfl⟩) (Or.inl ⟨rfl, rfl⟩) (Or.inl ⟨rfl, rfl⟩))⟩
theorem CC30 (L : Nat × (Nat → Int32)) (t : Nat) (ht : t < 512) : zC30 (RA L t) (RA L (t + 1)) 100 := by
  intro x0 x1 x2 M H
  have H0 := H
  obtain ⟨hsc, hJ, hZ, hB⟩ := H
  have hB0 := hB
  obtain ⟨h8, h9, h10, h3, h2, hl, h6, hz, h4, h5, hS, h7, hby, h11, hn, hA, hAJ⟩ := hB
  obtain ⟨y, M1, M2, c, m, f, r⟩ := Q30 79 x0 x1 x2 zu M h6
  exact ⟨y, M1, M2, c, m, RA_step H0 c m rfl rfl (RB_fr f hB0 rfl (Or.inl ⟨rfl, rfl⟩) (Or.inl ⟨rfl, rfl⟩) (Or.inr r) (Or.inl rfl) (Or.inl ⟨rfl, rfl⟩) (Or.inl ⟨rfl, rfl⟩) (Or.inl ⟨rfl, rfl⟩) (Or.inl ⟨rfl, rfl⟩) (Or.inl ⟨rfl, rfl⟩) (Or.inl ⟨rfl, rfl⟩) (Or.inl ⟨rfl, rfl⟩) (Or.inl ⟨rfl, rfl⟩))⟩
theorem CC31 (L : Nat × (Nat → Int32)) (t : Nat) (ht : t < 512) : zC31 (RA L t) (RA L (t + 1)) 100 := by
  intro x0 M H
  have H0 := H
  obtain ⟨hsc, hJ, hZ, hB⟩ := H
  have hB0 := hB
  obtain ⟨h8, h9, h10, h3, h2, hl, h6, hz, h4, h5, hS, h7, hby, h11, hn, hA, hAJ⟩ := hB
  obtain ⟨y, M1, M2, c, m, e⟩ := Q31 99 x0 M h10
  have m := zgo_deep m
  subst e
  exact ⟨y, M1, _, c, m, RA_step H0 c m rfl rfl (RB_fr (zFr_refl (fun _ => false) _) hB0 rfl (Or.inl ⟨rfl, rfl⟩) (Or.inl ⟨rfl, rfl⟩) (Or.inl ⟨rfl, rfl⟩) (Or.inl rfl) (Or.inl ⟨rfl, rfl⟩) (Or.inl ⟨rfl, rfl⟩) (Or.inl ⟨rfl, rfl⟩) (Or.inl ⟨rfl, rfl⟩) (Or.inl ⟨rfl, rfl⟩) (Or.inl ⟨rfl, rfl⟩) (Or.inl ⟨rfl, rfl⟩) (Or.inl ⟨rfl, rfl⟩))⟩
theorem CC32 (L : Nat × (Nat → Int32)) (t : Nat) (ht : t < 512) : zC32 (RA L t) (RA L (t + 1)) 100 := by
  intro x0 x1 M H
  have H0 := H
  obtain ⟨hsc, hJ, hZ, hB⟩ := H
  have hB0 := hB
  obtain ⟨h8, h9, h10, h3, h2, hl, h6, hz, h4, h5, hS, h7, hby, h11, hn, hA, hAJ⟩ := hB
  obtain ⟨y, M1, M2, c, m, f, r⟩ := Q32 98 x0 x1 zu M h11 h6
  exact ⟨y, M1, M2, c, m, RA_step H0 c m rfl rfl (RB_fr f hB0 rfl (Or.inl ⟨rfl, rfl⟩) (Or.inl ⟨rfl, rfl⟩) (Or.inl ⟨rfl, rfl⟩) (Or.inl rfl) (Or.inl ⟨rfl, rfl⟩) (Or.inl ⟨rfl, rfl⟩) (Or.inl ⟨rfl, rfl⟩) (Or.inl ⟨rfl, rfl⟩) (Or.inl ⟨rfl, rfl⟩) (Or.inl ⟨rfl, rfl⟩) (Or.inl ⟨rfl, rfl⟩) (Or.inr r))⟩
theorem CC33 (L : Nat × (Nat → Int32)) (t : Nat) (ht : t < 512) : zC33 (RA L t) (RA L (t + 1)) 100 := by
  intro x0 x1 x2 M H
  have H0 := H
  obtain ⟨hsc, hJ, hZ, hB⟩ := H
  have hB0 := hB
  obtain ⟨h8, h9, h10, h3, h2, hl, h6, hz, h4, h5, hS, h7, hby, h11, hn, hA, hAJ⟩ := hB
  obtain ⟨y, M1, M2, c, m, f, r⟩ := Q33 98 x0 x1 x2 zu zu M h11
  exact ⟨y, M1, M2, c, m, RA_step H0 c m rfl rfl (RB_fr f hB0 rfl (Or.inl ⟨rfl, rfl⟩) (Or.inl ⟨rfl, rfl⟩) (Or.inl ⟨rfl, rfl⟩) (Or.inl rfl) (Or.inl ⟨rfl, rfl⟩) (Or.inl ⟨rfl, rfl⟩) (Or.inl ⟨rfl, rfl⟩) (Or.inl ⟨rfl, rfl⟩) (Or.inl ⟨rfl, rfl⟩) (Or.inl ⟨rfl, rfl⟩) (Or.inl ⟨rfl, rfl⟩) (Or.inr r))⟩
theorem CC34 (L : Nat × (Nat → Int32)) (t : Nat) (ht : t < 512) : zC34 (RA L t) (RA L (t + 1)) 100 := by
  intro x0 x1 x2 M H
  have H0 := H
  obtain ⟨hsc, hJ, hZ, hB⟩ := H
  have hB0 := hB
  obtain ⟨h8, h9, h10, h3, h2, hl, h6, hz, h4, h5, hS, h7, hby, h11, hn, hA, hAJ⟩ := hB
  obtain ⟨y, M1, M2, c, m, f, r⟩ := Q34 97 x0 x1 x2 zu zu zu zu zu zu M h11
  exact ⟨y, M1, M2, c, m, RA_step H0 c m rfl rfl (RB_fr f hB0 rfl (Or.inl ⟨rfl, rfl⟩) (Or.inl ⟨rfl, rfl⟩) (Or.inl ⟨rfl, rfl⟩) (Or.inl rfl) (Or.inl ⟨rfl, rfl⟩) (Or.inl ⟨rfl, rfl⟩) (Or.inl ⟨rfl, rfl⟩) (Or.inl ⟨rfl, rfl⟩) (Or.inl ⟨rfl, rfl⟩) (Or.inl ⟨rfl, rfl⟩) (Or.inl ⟨rfl, rfl⟩) (Or.inr r))⟩
theorem CC35 (L : Nat × (Nat → Int32)) (t : Nat) (ht : t < 512) : zC35 (RA L t) (RA L (t + 1)) 100 := by
  intro x0 x1 M H
  have H0 := H
  obtain ⟨hsc, hJ, hZ, hB⟩ := H
  have hB0 := hB
  obtain ⟨h8, h9, h10, h3, h2, hl, h6, hz, h4, h5, hS, h7, hby, h11, hn, hA, hAJ⟩ := hB
  obtain ⟨y, c, m⟩ := Q35 97 x0 x1 zu M h11
  exact ⟨y, M, M, c, m, RA_step H0 c m rfl rfl (RB_fr (zFr_refl (fun _ => false) M) hB0 rfl (Or.inl ⟨rfl, rfl⟩) (Or.inl ⟨rfl, rfl⟩) (Or.inl ⟨rfl, rfl⟩) (Or.inl rfl) (Or.inl ⟨rfl, rfl⟩) (Or.inl ⟨rfl, rfl⟩) (Or.inl ⟨rfl, rfl⟩) (Or.inl ⟨rfl, rfl⟩) (Or.inl ⟨rfl, rfl⟩) (Or.inl ⟨rfl, rfl⟩) (Or.inl ⟨rfl, rfl⟩) (Or.inl ⟨rfl, rfl⟩))⟩
theorem CC36 (L : Nat × (Nat → Int32)) (t : Nat) (ht : t < 512) : zC36 (RA L t) (RA L (t + 1)) 100 := by
  intro x0 x1 x2 x3 x4 M H
  have H0 := H
  obtain ⟨hsc, hJ, hZ, hB⟩ := H
  have hB0 := hB
  obtain ⟨h8, h9, h10, h3, h2, hl, h6, hz, h4, h5, hS, h7, hby, h11, hn, hA, hAJ⟩ := hB
  obtain ⟨y, M1, M2, c, m, f, r⟩ := Q36 97 x0 x1 x2 x3 x4 zu zu zu M h11
  exact ⟨y, M1, M2, c, m, RA_step H0 c m rfl rfl (RB_fr f hB0 rfl (Or.inl ⟨rfl, rfl⟩) (Or.inl ⟨rfl, rfl⟩) (Or.inl ⟨rfl, rfl⟩) (Or.inl rfl) (Or.inl ⟨rfl, rfl⟩) (Or.inl ⟨rfl, rfl⟩) (Or.inl ⟨rfl, rfl⟩) (Or.inl ⟨rfl, rfl⟩) (Or.inl ⟨rfl, rfl⟩) (Or.inl ⟨rfl, rfl⟩) (Or.inl ⟨rfl, rfl⟩) (Or.inr r))⟩
theorem CC37 (L : Nat × (Nat → Int32)) (t : Nat) (ht : t < 512) : zC37 (RA L t) (RA L (t + 1)) 100 := by
  intro x0 x1 M H
  have H0 := H
  obtain ⟨hsc, hJ, hZ, hB⟩ := H
  have hB0 := hB
  obtain ⟨h8, h9, h10, h3, h2, hl, h6, hz, h4, h5, hS, h7, hby, h11, hn, hA, hAJ⟩ := hB
  obtain ⟨y, c, m⟩ := Q37 98 x0 x1 zu zu M h11 h6
  exact ⟨y, M, M, c, m, RA_step H0 c m rfl rfl (RB_fr (zFr_refl (fun _ => false) M) hB0 rfl (Or.inl ⟨rfl, rfl⟩) (Or.inl ⟨rfl, rfl⟩) (Or.inl ⟨rfl, rfl⟩) (Or.inl rfl) (Or.inl ⟨rfl, rfl⟩) (Or.inl ⟨rfl, rfl⟩) (Or.inl ⟨rfl, rfl⟩) (Or.inl ⟨rfl, rfl⟩) (Or.inl ⟨rfl, rfl⟩) (Or.inl ⟨rfl, rfl⟩) (Or.inl ⟨rfl, rfl⟩) (Or.inl ⟨rfl, rfl⟩))⟩
theorem CC38 (L : Nat × (Nat → Int32)) (t : Nat) (ht : t < 512) : zC38 (RA L t) (RA L (t + 1)) 100 := by
  intro x0 M H
  have H0 := H
  obtain ⟨hsc, hJ, hZ, hB⟩ := H
  have hB0 := hB
  obtain ⟨h8, h9, h10, h3, h2, hl, h6, hz, h4, h5, hS, h7, hby, h11, hn, hA, hAJ⟩ := hB
  have e4 : zgI M 8 0 2 = zgI M 13 0 19 := by
    obtain ⟨n4, t4, -, a, b, -⟩ := h4
    exact a.trans b.symm
  have e3 : zgI M 3 0 3 = zgI M 13 0 12 := by
    obtain ⟨n4, t4, -, a, b, -⟩ := h3
    exact a.trans b.symm
  obtain ⟨y, c, m⟩ := Q38 100 100 x0 M h6.1 e4 h8.1 h9.1 e3 h10.1
  exact ⟨y, M, M, c, m, RA_step H0 c m rfl rfl (RB_fr (zFr_refl (fun _ => false) M) hB0 rfl (Or.inl ⟨rfl, rfl⟩) (Or.inl ⟨rfl, rfl⟩) (Or.inl ⟨rfl, rfl⟩) (Or.inl rfl) (Or.inl ⟨rfl, rfl⟩) (Or.inl ⟨rfl, rfl⟩) (Or.inl ⟨rfl, rfl⟩) (Or.inl ⟨rfl, rfl⟩) (Or.inl ⟨rfl, rfl⟩) (Or.inl ⟨rfl, rfl⟩) (Or.inl ⟨rfl, rfl⟩) (Or.inl ⟨rfl, rfl⟩))⟩
theorem zCalls_all (L : Nat × (Nat → Int32)) (t : Nat) (ht : t < 512) : zCalls (RA L t) (RA L (t + 1)) 100 := ⟨CC0 L t ht, CC1 L t ht, CC2 L t ht, CC3 L t ht, CC4 L t ht, CC5 L t ht, CC6 L t ht, CC7 L t ht, CC8 L t ht, CC9 L t ht, CC10 L t ht, CC11 L t ht, CC12 L t ht, CC13 L t ht, CC14 L t ht, CC15 L t ht, CC16 L t ht, CC17 L t ht, CC18 L t ht, CC19 L t ht, CC20 L t ht, CC21 L t ht, CC22 L t ht, CC23 L t ht, CC24 L t ht, CC25 L t ht, CC26 L t ht, CC27 L t ht, CC28 L t ht, CC29 L t ht, CC30 L t ht, CC31 L t ht, CC32 L t ht, CC33 L t ht, CC34 L t ht, CC35 L t ht, CC36 L t ht, CC37 L t ht, CC38 L t ht⟩
