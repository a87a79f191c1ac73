/-! ===== the first four cards ===== -/
theorem HAND (d r i bi di p h : Nat) (tn : Bool) {T : Nat → List (List yOp × List yOp)} {q lf : Nat → Nat} {kd P C : Nat} {z : Int32} {c : Nat → Nat} {A B : zM} (hx : yCx r i bi di p h T q kd A B) (hs : zSo r i P C z c 0 A B) (hl : hLf r h lf B) (h70 : zgI B 13 0 70 = bI tn) (a5 : zgI A 4 di 5 = 0) (a6 : zgI A 4 di 6 = 0) (a7 : zgI A 4 di 7 = 0) (a8 : zgI A 4 di 8 = 0) (a11 : zgI A 4 di 11 = 0) (a17 : zgI A 4 di 17 = 0) (b92 : r = 0 → zgI B 92 0 h = 0 ∧ zgI B 94 0 h = 0) : hEnd d r i bi di p h tn T q lf P C z c A B := by
  obtain ⟨B2, hB2⟩ : ∃ B2, B2 = zsI (zsI (zsI (zsI (zsI (zsI B 13 0 64 0) 13 0 65 0) 13 0 66 0) 13 0 67 0) 13 0 68 0) 13 0 69 0 := ⟨_, rfl⟩
  have g0 : zFo (fun x y w => x = 13 ∧ y = 0 ∧ 64 ≤ w ∧ w ≤ 69) B B2 := by
    rw [hB2]
    exact zFo_sI (zFo_sI (zFo_sI (zFo_sI (zFo_sI (zFo_sI (zFo_refl _ B) (by omega)) (by omega)) (by omega)) (by omega)) (by omega)) (by omega)
  have v : ∀ w, 64 ≤ w → w ≤ 69 → zgI B2 13 0 w = 0 := fun w w1 w2 => by
    rw [hB2]
    rcases (by omega : w = 64 ∨ w = 65 ∨ w = 66 ∨ w = 67 ∨ w = 68 ∨ w = 69) with rfl | rfl | rfl | rfl | rfl | rfl <;> simp +decide only [zgI_sI, and_true, true_and, and_self, if_true, if_false, ↓reduceIte]
  have gB0 : zFo (gB r h) B B2 := zFo_mono g0 (fun x y w hw => by unfold gB; omega)
  have hx2 : yCx r i bi di p h T q kd A B2 := yCx_fr hx (zFo_refl _ A) gB0
  have hs2 : zSo r i P C z c 0 A B2 := zSo_fr hs (zFo_refl (fun _ _ _ => False) A) g0 (fun _ _ _ => id) (fun _ => id) (fun _ => id) (fun _ _ _ _ => id) id (fun s _ _ _ => by omega) (fun s => by omega) (fun s => by omega) (fun k t _ _ => by omega) (by omega)
  have ho2 : hOw r di h 0 false 0 A B2 := ⟨⟨a7, a5⟩, ⟨v 65 (by omega) (by omega), v 66 (by omega) (by omega), v 67 (by omega) (by omega)⟩, fun r0 => ⟨((g0 92 0 h (by omega)).1).trans (b92 r0).1, ⟨by omega, fun s hs => absurd hs (by omega)⟩, fun s hs => absurd hs (by omega)⟩⟩
  have hd2 : hDl r di h 0 false 0 A B2 := ⟨⟨a8, a6⟩, fun r0 => ⟨((g0 94 0 h (by omega)).1).trans (b92 r0).2, ⟨by omega, fun s hs => absurd hs (by omega)⟩, fun s hs => absurd hs (by omega)⟩⟩
  have hi0 : hI 0 false 0 := ⟨Nat.le_refl _, fun w => absurd w (by omega), fun _ => Nat.le_refl _⟩
  have hp2 : ∀ dv, hPl r di dv lf q 0 (fun _ => 0) (fun _ => false) (fun _ => 0) A B2 := fun dv => ⟨a11, fun j hj => absurd hj (by omega), v 68 (by omega) (by omega), fun _ => v 69 (by omega) (by omega)⟩
  have m0 : zgo false (d + 31) 268 0 [zr 13 0, zu, zu, zu, zu, zu, zu, zu, zu, zu] [] B = ((zgo false (d + 30) 264 0 [zr 13 0, zu] [] B2).bind fun q => zgo false (d + 31) 268 34 [zr 13 0, zu, zu, zu, zu, zu, zu, zu, zu, zu] (zpush q.1 []) q.2) := by
    rw [B268_0, B268_20, hB2]
  have k34 : ∀ M, zgo false (d + 31) 41 34 [zr 5 0] [] M = some (some (zi 0), M) := fun M => by
    rw [B41_34, B41_35]
    rfl
  -- no card was to be had
  have outc : ∀ (A' B' : zM) (s m ds dm : Nat) (a da : Bool), zFo (gA r i di) A A' → zFo (gB r h) B B' → hOw r di h s a m A' B' → (s ≤ 30 ∧ m ≤ 20) → hDl r di h ds da dm A' B' → (ds ≤ 30 ∧ dm ≤ 20) → hPl r di 0 lf q 0 (fun _ => 0) (fun _ => false) (fun _ => 0) A' B' → zgo false (d + 31) 41 0 [zr 5 0] [] A = some (some (zi 0), A') → zgo false (d + 31) 268 0 [zr 13 0, zu, zu, zu, zu, zu, zu, zu, zu, zu] [] B = some (some (zi 0), B') → zgI B' 13 0 64 = 1 → (r = 0 → zSo r i P C z c 0 A' B') → hEnd d r i bi di p h tn T q lf P C z c A B := by
    intro A' B' s m ds dm a da f g o b dl b2 pp e1 e2 e3 e4
    exact ⟨A', B', s, m, ds, dm, 0, 0, a, da, _, _, _, f, g, o, b, dl, b2, pp, by omega, fun w => absurd w (by omega), Or.inl ⟨Or.inl ⟨e1, rfl⟩, e2, e3, fun r0 => ⟨0, e4 r0⟩⟩⟩
  -- the player's first
  obtain ⟨A1, B3, f1, g1, h1⟩ := X1 (d + 24) r i bi di p h zu zu hx2 hs2 ho2 hi0 (by omega) (by omega) (v 64 (by omega) (by omega))
  have fA1 : zFo (gA r i di) A A1 := zFo_mono f1 (fun x y w hw => gA1_A hw)
  have gB3 : zFo (gB r h) B B3 := zFo_trans gB0 (zFo_mono g1 (fun x y w hw => gB1_B hw))
  have hd3 : hDl r di h 0 false 0 A1 B3 := hDl_fr hd2 f1 g1 (by unfold gA1; omega) (by unfold gA1; omega) (fun s => by unfold gA1; omega) (by unfold gB1; omega) (fun s => by unfold gB1; omega)
  have hp3 : ∀ dv, hPl r di dv lf q 0 (fun _ => 0) (fun _ => false) (fun _ => 0) A1 B3 := fun dv => hPl_fr (hp2 dv) f1 g1 (by unfold gA1; omega) (fun k s hk => by unfold gA1; omega) (by unfold gB1; omega) (by unfold gB1; omega)
  have hx3 := yCx_fr hx2 fA1 (zFo_mono g1 (fun x y w hw => gB1_B hw))
  rcases h1 with ⟨v1, hv1, c1, m1, s1, o1, i1, n1⟩ | ⟨c1, m1, s1, o1, n1⟩
  case inr =>
    have c1 : zgo false (d + 30) 39 0 [zr 5 0, zu] [] A = some (some (zi 0), A1) := c1
    have m1 : zgo false (d + 30) 264 0 [zr 13 0, zu] [] B2 = some (some (zi 0), B3) := m1
    refine outc A1 B3 0 0 0 0 false false fA1 gB3 o1 ⟨by omega, by omega⟩ hd3 ⟨by omega, by omega⟩ (hp3 0) ?_ ?_ n1 s1
    · rw [B41_0, c1, zbsome, zpu1, B41_4, if_pos rfl, k34]
    · rw [m0, m1, zbsome, zpu1, B268_34, if_pos rfl]
  have c1 : zgo false (d + 30) 39 0 [zr 5 0, zu] [] A = some (some (zi 1), A1) := c1
  have m1 : zgo false (d + 30) 264 0 [zr 13 0, zu] [] B2 = some (some (zi 1), B3) := m1
  rw [Nat.zero_add v1] at o1 i1
  have o1 : hOw r di h v1 (oA false v1) 1 A1 B3 := o1
  have i1 : hI v1 (oA false v1) 1 := i1
  have cc1 : zgo false (d + 31) 41 0 [zr 5 0] [] A = ((zgo false (d + 30) 40 0 [zr 5 0, zi 1, zu] [] A1).bind fun q => zgo false (d + 31) 41 12 [zr 5 0] (zpush q.1 []) q.2) := by
    rw [B41_0, c1, zbsome, zpu1, B41_4, if_neg (by decide)]
  have mm1 : zgo false (d + 31) 268 0 [zr 13 0, zu, zu, zu, zu, zu, zu, zu, zu, zu] [] B = ((zgo false (d + 30) 261 0 [zr 13 0, zu, zu] [] B3).bind fun q => zgo false (d + 31) 268 43 [zr 13 0, zu, zu, zu, zu, zu, zu, zu, zu, zu] (zpush q.1 []) q.2) := by
    rw [m0, m1, zbsome, zpu1, B268_34, if_neg (by decide)]
  -- the dealer's open one
  rcases X2 (d + 24) r i bi di p h true zu hx3 s1 hd3 hi0 (by omega) (by omega) (fun w => by cases w) n1 with ⟨dv, A2, B4, B5, B6, hd, c2, m2, n2, m3, m4, -, f2, g2, s2, d2, i2, n3, t2, -, -⟩ | ⟨A2, B4, c2, m2, n2, f2, g2, s2, d2, -⟩
  case inr =>
    have c2 : zgo false (d + 30) 40 0 [zr 5 0, zi 1, zu] [] A1 = some (some (zi 0), A2) := c2
    have m2 : zgo false (d + 30) 261 0 [zr 13 0, zu, zu] [] B3 = some (some (zi 0), B4) := m2
    refine outc A2 B4 v1 1 0 0 (oA false v1) false (zFo_trans fA1 (zFo_mono f2 (fun x y w hw => gA2_A hw))) (zFo_trans gB3 (zFo_mono g2 (fun x y w hw => gB2_B hw))) (hOw_fr o1 f2 g2 (by unfold gA2; omega) (by unfold gA2; omega) (fun s => by unfold gA2; omega) (by unfold gB2; omega) (by unfold gB2; omega) (by unfold gB2; omega) (by unfold gB2; omega) (fun s => by unfold gB2; omega)) ⟨by omega, by omega⟩ d2 ⟨by omega, by omega⟩ (hPl_fr (hp3 0) f2 g2 (by unfold gA2; omega) (fun k s hk => by unfold gA2; omega) (by unfold gB2; omega) (by unfold gB2; omega)) ?_ ?_ n2 s2
    · rw [cc1, c2, zbsome, zpu1, B41_12, if_pos rfl, k34]
    · rw [mm1, m2, zbsome, zpu1, B268_43, if_neg (by rw [n2]; decide)]
  have c2 : zgo false (d + 30) 40 0 [zr 5 0, zi 1, zu] [] A1 = some (some (zi 1), A2) := c2
  have m2 : zgo false (d + 30) 261 0 [zr 13 0, zu, zu] [] B3 = some (some (zi (nI dv)), B4) := m2
  have m3 : zgo false (d + 30) 263 0 [zr 13 0, zi 0, zi (nI dv)] [] B4 = some (none, B5) := m3
  have m4 : zgo false (d + 30) 262 0 [zr 13 0, zi (nI dv)] [] B5 = some (none, B6) := m4 rfl
  rw [Nat.zero_add dv] at d2 i2
  have d2 : hDl r di h dv (oA false dv) 1 A2 B6 := d2
  have i2 : hI dv (oA false dv) 1 := i2
  have s2 : zSo r i P C z c 0 A2 B6 := s2
  have fA2 : zFo (gA r i di) A A2 := zFo_trans fA1 (zFo_mono f2 (fun x y w hw => gA2_A hw))
  have gB6 : zFo (gB r h) B B6 := zFo_trans gB3 (zFo_mono g2 (fun x y w hw => gB2_B hw))
  have o2 : hOw r di h v1 (oA false v1) 1 A2 B6 := hOw_fr o1 f2 g2 (by unfold gA2; omega) (by unfold gA2; omega) (fun s => by unfold gA2; omega) (by unfold gB2; omega) (by unfold gB2; omega) (by unfold gB2; omega) (by unfold gB2; omega) (fun s => by unfold gB2; omega)
  have hp4 : ∀ dv, hPl r di dv lf q 0 (fun _ => 0) (fun _ => false) (fun _ => 0) A2 B6 := fun dv => hPl_fr (hp3 dv) f2 g2 (by unfold gA2; omega) (fun k s hk => by unfold gA2; omega) (by unfold gB2; omega) (by unfold gB2; omega)
  have hx4 := yCx_fr hx3 (zFo_mono f2 (fun x y w hw => gA2_A hw)) (zFo_mono g2 (fun x y w hw => gB2_B hw))
  have cc2 : zgo false (d + 31) 41 0 [zr 5 0] [] A = ((zgo false (d + 30) 39 0 [zr 5 0, zu] [] A2).bind fun q => zgo false (d + 31) 41 19 [zr 5 0] (zpush q.1 []) q.2) := by
    rw [cc1, c2, zbsome, zpu1, B41_12, if_neg (by decide)]
  have mm2 : zgo false (d + 31) 268 0 [zr 13 0, zu, zu, zu, zu, zu, zu, zu, zu, zu] [] B = ((zgo false (d + 30) 264 0 [zr 13 0, zu] [] B6).bind fun q => zgo false (d + 31) 268 68 [zr 13 0, zi (nI dv), zu, zu, zu, zu, zu, zu, zu, zu] (zpush q.1 []) q.2) := by
    rw [mm1, m2, zbsome, zpu1, B268_43, if_pos n2, m3, zbsome, zpu0, B268_59, m4, zbsome, zpu0, B268_64]
  -- the player's second
  obtain ⟨A3, B7, f3, g3, h3⟩ := X1 (d + 24) r i bi di p h zu zu hx4 s2 o2 i1 (by omega) (by omega) n3
  have fA3 : zFo (gA r i di) A A3 := zFo_trans fA2 (zFo_mono f3 (fun x y w hw => gA1_A hw))
  have gB7 : zFo (gB r h) B B7 := zFo_trans gB6 (zFo_mono g3 (fun x y w hw => gB1_B hw))
  have d3 : hDl r di h dv (oA false dv) 1 A3 B7 := hDl_fr d2 f3 g3 (by unfold gA1; omega) (by unfold gA1; omega) (fun s => by unfold gA1; omega) (by unfold gB1; omega) (fun s => by unfold gB1; omega)
  have hp5 : ∀ dv, hPl r di dv lf q 0 (fun _ => 0) (fun _ => false) (fun _ => 0) A3 B7 := fun dv => hPl_fr (hp4 dv) f3 g3 (by unfold gA1; omega) (fun k s hk => by unfold gA1; omega) (by unfold gB1; omega) (by unfold gB1; omega)
  have hx5 := yCx_fr hx4 (zFo_mono f3 (fun x y w hw => gA1_A hw)) (zFo_mono g3 (fun x y w hw => gB1_B hw))
  rcases h3 with ⟨v2, hv2, c3, m5, s3, o3, i3, n4⟩ | ⟨c3, m5, s3, o3, n4⟩
  case inr =>
    have c3 : zgo false (d + 30) 39 0 [zr 5 0, zu] [] A2 = some (some (zi 0), A3) := c3
    have m5 : zgo false (d + 30) 264 0 [zr 13 0, zu] [] B6 = some (some (zi 0), B7) := m5
    refine outc A3 B7 v1 1 dv 1 (oA false v1) (oA false dv) fA3 gB7 o3 ⟨by omega, by omega⟩ d3 ⟨by omega, by omega⟩ (hp5 0) ?_ ?_ n4 s3
    · rw [cc2, c3, zbsome, zpu1, B41_19, if_pos rfl, k34]
    · rw [mm2, m5, zbsome, zpu1, B268_68, if_pos rfl]
  have c3 : zgo false (d + 30) 39 0 [zr 5 0, zu] [] A2 = some (some (zi 1), A3) := c3
  have m5 : zgo false (d + 30) 264 0 [zr 13 0, zu] [] B6 = some (some (zi 1), B7) := m5
  have o3 : hOw r di h (v1 + v2) (oA (oA false v1) v2) 2 A3 B7 := o3
  have i3 : hI (v1 + v2) (oA (oA false v1) v2) 2 := i3
  have cc3 : zgo false (d + 31) 41 0 [zr 5 0] [] A = ((zgo false (d + 30) 40 0 [zr 5 0, zi 0, zu] [] A3).bind fun q => zgo false (d + 31) 41 27 [zr 5 0] (zpush q.1 []) q.2) := by
    rw [cc2, c3, zbsome, zpu1, B41_19, if_neg (by decide)]
  have mm3 : zgo false (d + 31) 268 0 [zr 13 0, zu, zu, zu, zu, zu, zu, zu, zu, zu] [] B = ((zgo false (d + 30) 261 0 [zr 13 0, zu, zu] [] B7).bind fun q => zgo false (d + 31) 268 77 [zr 13 0, zi (nI dv), zu, zu, zu, zu, zu, zu, zu, zu] (zpush q.1 []) q.2) := by
    rw [mm2, m5, zbsome, zpu1, B268_68, if_neg (by decide)]
  -- the dealer's hidden one
  rcases X2 (d + 24) r i bi di p h false zu hx5 s3 d3 i2 (by omega) (by omega) (fun _ => rfl) n4 with ⟨hv, A4, B8, B9, B10, hh, c4, m6, n5, m7, -, e9, f4, g4, s4, d4, i4, n6, t4, t4b, -⟩ | ⟨A4, B8, c4, m6, n5, f4, g4, s4, d4, -⟩
  case inr =>
    have c4 : zgo false (d + 30) 40 0 [zr 5 0, zi 0, zu] [] A3 = some (some (zi 0), A4) := c4
    have m6 : zgo false (d + 30) 261 0 [zr 13 0, zu, zu] [] B7 = some (some (zi 0), B8) := m6
    refine outc A4 B8 (v1 + v2) 2 dv 1 (oA (oA false v1) v2) (oA false dv) (zFo_trans fA3 (zFo_mono f4 (fun x y w hw => gA2_A hw))) (zFo_trans gB7 (zFo_mono g4 (fun x y w hw => gB2_B hw))) (hOw_fr o3 f4 g4 (by unfold gA2; omega) (by unfold gA2; omega) (fun s => by unfold gA2; omega) (by unfold gB2; omega) (by unfold gB2; omega) (by unfold gB2; omega) (by unfold gB2; omega) (fun s => by unfold gB2; omega)) ⟨by omega, by omega⟩ d4 ⟨by omega, by omega⟩ (hPl_fr (hp5 0) f4 g4 (by unfold gA2; omega) (fun k s hk => by unfold gA2; omega) (by unfold gB2; omega) (by unfold gB2; omega)) ?_ ?_ n5 s4
    · rw [cc3, c4, zbsome, zpu1, B41_27, if_pos rfl, k34]
    · rw [mm3, m6, zbsome, zpu1, B268_77, if_neg (by rw [n5]; decide)]
  have e9 := e9 rfl
  subst e9
  have c4 : zgo false (d + 30) 40 0 [zr 5 0, zi 0, zu] [] A3 = some (some (zi 1), A4) := c4
  have m6 : zgo false (d + 30) 261 0 [zr 13 0, zu, zu] [] B7 = some (some (zi (nI hv)), B8) := m6
  have m7 : zgo false (d + 30) 263 0 [zr 13 0, zi 0, zi (nI hv)] [] B8 = some (none, B9) := m7
  have s4 : zSo r i P C z c hv A4 B9 := s4
  have d4 : hDl r di h (dv + hv) (oA (oA false dv) hv) 2 A4 B9 := d4
  have i4 : hI (dv + hv) (oA (oA false dv) hv) 2 := i4
  have fA4 : zFo (gA r i di) A A4 := zFo_trans fA3 (zFo_mono f4 (fun x y w hw => gA2_A hw))
  have gB9 : zFo (gB r h) B B9 := zFo_trans gB7 (zFo_mono g4 (fun x y w hw => gB2_B hw))
  have e70 : zgI B9 13 0 70 = bI tn := ((gB9 13 0 70 (by unfold gB; omega)).1).trans h70
  have e17 : zgI A4 4 di 17 = 0 := by rw [(f4 4 di 17 (by unfold gA2; omega)).1, (f3 4 di 17 (by unfold gA1; omega)).1, (f2 4 di 17 (by unfold gA2; omega)).1, (f1 4 di 17 (by unfold gA1; omega)).1, a17]
  have e25 : zgI A4 25 di 0 = nI dv := by rw [t4b 0 (by omega), (f3 25 di 0 (by unfold gA1; omega)).1, t2]
  refine H4 d r i bi di p h tn (v7 := zu) (v8 := zu) (v9 := zu) hd hh fA4 gB9 ?_ ?_ (yCx_fr hx5 (zFo_mono f4 (fun x y w hw => gA2_A hw)) (zFo_mono g4 (fun x y w hw => gB2_B hw))) s4 (hOw_fr o3 f4 g4 (by unfold gA2; omega) (by unfold gA2; omega) (fun s => by unfold gA2; omega) (by unfold gB2; omega) (by unfold gB2; omega) (by unfold gB2; omega) (by unfold gB2; omega) (fun s => by unfold gB2; omega)) i3 ⟨by omega, by omega⟩ d4 i4 rfl rfl (hLf_fr hl gB9 (fun s => by unfold gB; omega)) e25 t4 _ _ _ (hPl_fr (hp5 dv) f4 g4 (by unfold gA2; omega) (fun k s hk => by unfold gA2; omega) (by unfold gB2; omega) (by unfold gB2; omega)) n6 e70 e17
  · rw [cc3, c4, zbsome, zpu1, B41_27, if_neg (by decide), B41_35]
    rfl
  · rw [mm3, m6, zbsome, zpu1, B268_77, if_pos n5, m7, zbsome, zpu0]
