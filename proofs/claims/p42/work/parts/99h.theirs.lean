/-- the dealer takes a card: o says whether it lies open -/
theorem X2 (d r i bi di p h : Nat) (o : Bool) {T : Nat → List (List yOp × List yOp)} {q : Nat → Nat} {kd P C : Nat} {z : Int32} {c : Nat → Nat} {hid s : Nat} {a : Bool} {m : Nat} (u1 : zV) {A B : zM} (hx : yCx r i bi di p h T q kd A B) (hs : zSo r i P C z c hid A B) (ho : hDl r di h s a m A B) (hi : hI s a m) (hs20 : s ≤ 20) (hn : ¬ (a = true ∧ s = 11)) (hid0 : o = false → hid = 0) (h64 : zgI B 13 0 64 = 0) :
  (∃ (v : Nat) (A' B1 B2 B3 : zM), (1 ≤ v ∧ v ≤ 10) ∧ zgo false (d + 6) 40 0 [zr 5 0, zi (bI o), u1] [] A = some (some (zi 1), A') ∧ zgo false (d + 6) 261 0 [zr 13 0, zu, zu] [] B = some (some (zi (nI v)), B1) ∧ zgI B1 13 0 64 = 0 ∧ zgo false (d + 6) 263 0 [zr 13 0, zi 0, zi (nI v)] [] B1 = some (none, B2) ∧ (o = true → zgo false (d + 6) 262 0 [zr 13 0, zi (nI v)] [] B2 = some (none, B3)) ∧ (o = false → B2 = B3) ∧ zFo (gA2 r i di) A A' ∧ zFo (gB2 r h) B B3 ∧ zSo r i P C z c (if o = true then hid else v) A' B3 ∧ hDl r di h (s + v) (oA a v) (m + 1) A' B3 ∧ hI (s + v) (oA a v) (m + 1) ∧ zgI B3 13 0 64 = 0 ∧ zgI A' 25 di m = nI v ∧ (∀ t, t < m → zgI A' 25 di t = zgI A 25 di t) ∧ m < 20) ∨
  (∃ (A' B1 : zM), zgo false (d + 6) 40 0 [zr 5 0, zi (bI o), u1] [] A = some (some (zi 0), A') ∧ zgo false (d + 6) 261 0 [zr 13 0, zu, zu] [] B = some (some (zi 0), B1) ∧ zgI B1 13 0 64 = 1 ∧ zFo (gA2 r i di) A A' ∧ zFo (gB2 r h) B B1 ∧ (r = 0 → zSo r i P C z c hid A' B1) ∧ hDl r di h s a m A' B1 ∧ (∀ t, zgI A' 25 di t = zgI A 25 di t)) := by
  have hx' := hx
  obtain ⟨⟨r11, r12, r13, r14⟩, ⟨m60, m62, m63⟩, ⟨hr6, hp, hh⟩, ht, hv, -, -⟩ := hx
  have hs' := hs
  have ho' := ho
  obtain ⟨⟨o8, o6⟩, o94⟩ := ho
  have z13 : ∀ A1, zgR A1 5 0 13 = (4, di) → (Nat.beq (zgR A1 5 0 13).1 4 && true) = true := fun A1 e => by rw [e]; rfl
  have fin : ∀ (v : Nat) (A1 : zM), (1 ≤ v ∧ v ≤ 10) → m < 20 → zgo false (d + 5) 38 0 [zr 5 0, zi (bI o), zu] [] A = some (some (zi (nI v)), A1) → zgR A1 5 0 13 = (4, di) → zgI A1 4 di 8 = nI (oHd s a) → zgI A1 4 di 6 = nI m → zgo false (d + 6) 40 0 [zr 5 0, zi (bI o), u1] [] A = some (some (zi 1), zsI (zsI (zsI A1 25 di m (nI v)) 4 di 6 (nI (m + 1))) 4 di 8 (nI (oHd (s + v) (oA a v)))) := by
    intro v A1 hv hm e r7 e7 e5
    have n0 : ¬ nI v = 0 := nI_ne0 (by omega) (by omega)
    rw [B40_0, e, zbsome, zpu1, B40_5, if_neg n0, z13 A1 r7, cond_true, show zp (zgR A1 5 0 13) = zr 4 di from by rw [r7], K23 (d + 4) di s m v a (by omega) hm hv e7 e5, zbsome, zpu0, B40_18, if_neg n0, B40_27]
    rfl
  have fin0 : zgo false (d + 5) 38 0 [zr 5 0, zi (bI o), zu] [] A = some (some (zi 0), A) → zgo false (d + 6) 40 0 [zr 5 0, zi (bI o), u1] [] A = some (some (zi 0), A) := fun e => by
    rw [B40_0, e, zbsome, zpu1, B40_5, if_pos rfl, B40_18, if_pos rfl, B40_27]
    rfl
  rcases hs with ⟨r0, g, ct, sn, e1, e2, e3⟩ | ⟨r0, e1, e2, P', C', g, sn, e3⟩
  · obtain ⟨n14, n60⟩ := yCx_14 hx' r0
    obtain ⟨k1, k2⟩ := K38 (d + 3) i o zu (T 1) e1 e3 n14 r11 hv
    obtain ⟨q1, q2⟩ := K261 (d + 5) zu zu e2 e3 n60
    by_cases hg : g < 52 * P
    · refine Or.inl ?_
      obtain ⟨A1, g1, g2, g3⟩ := k1 hg
      have cv := e3.2.2.2.2.1 g hg
      obtain ⟨hi', hm⟩ := hI_next hi hs20 hn cv
      obtain ⟨o94a, ⟨o94b, o94c⟩, o94d⟩ := o94 r0
      have c1 := fin (c g) A1 cv hm g1 (((g2 5 0 13 (by unfold kFs; omega)).2.2).trans r13) (((g2 4 di 8 (by unfold kFs; omega)).1).trans o8) (((g2 4 di 6 (by unfold kFs; omega)).1).trans o6)
      obtain ⟨A2, hA2⟩ : ∃ A2, A2 = zsI (zsI (zsI A1 25 di m (nI (c g))) 4 di 6 (nI (m + 1))) 4 di 8 (nI (oHd (s + c g) (oA a (c g)))) := ⟨_, rfl⟩
      rw [← hA2] at c1
      have fA2 : zFo (fun x y w => y = di ∧ ((x = 4 ∧ (w = 6 ∨ w = 8)) ∨ x = 25)) A1 A2 := by
        rw [hA2]
        exact zFo_sI (zFo_sI (zFo_sI (zFo_refl _ A1) (by omega)) (by omega)) (by omega)
      have w1e := q1 hg
      obtain ⟨B1, hB1⟩ : ∃ B1, B1 = zsI B 13 0 7 (nI (g + 1)) := ⟨_, rfl⟩
      rw [← hB1] at w1e
      have f1 : zFo (fun x y w => x = 13 ∧ y = 0 ∧ w = 7) B B1 := by
        rw [hB1]
        exact zFo_sI (zFo_refl _ B) ⟨rfl, rfl, rfl⟩
      have w2 := K263 (d + 6) h m (c g) false (B := B1) hh (by omega) cv.2 (((f1 13 0 60 (by omega)).1).trans n60) (((f1 13 0 63 (by omega)).1).trans (m63 r0)) (((f1 94 0 h (by omega)).1).trans o94a)
      obtain ⟨B2, hB2⟩ : ∃ B2, B2 = zsI (zsI B1 93 0 (24 * h + m) (nI (c g))) 94 0 h (nI (m + 1)) := ⟨_, rfl⟩
      have w2 : zgo false (d + 6) 263 0 [zr 13 0, zi 0, zi (nI (c g))] [] B1 = some (none, B2) := by rw [hB2]; exact w2
      have f2 : zFo (fun x y w => y = 0 ∧ ((x = 93 ∧ w = 24 * h + m) ∨ (x = 94 ∧ w = h))) B1 B2 := by
        rw [hB2]
        exact zFo_sI (zFo_sI (zFo_refl _ B1) (by omega)) (by omega)
      have hm1 : mS B1 P C (g + 1) ct z sn c := by
        obtain ⟨⟨a1, a2, a3, a4, a5, a6⟩, b, e⟩ := e2
        exact ⟨⟨((f1 13 0 1 (by omega)).1).trans a1, ((f1 13 0 2 (by omega)).1).trans a2, ((f1 13 0 4 (by omega)).1).trans a3, by rw [hB1, zgI_sI, if_pos ⟨rfl, rfl, rfl⟩], ((f1 56 0 0 (by omega)).1).trans a5, ((f1 13 0 8 (by omega)).1).trans a6⟩, fun v v1 v2 => ((f1 56 0 v (by omega)).1).trans (b v v1 v2), fun s hs => ((f1 55 0 s (by omega)).1).trans (e s hs)⟩
      have hm2 : mS B2 P C (g + 1) ct z sn c := mS_fr hm1 f2 (fun s _ _ _ => by omega) (fun s => by omega) (fun s => by omega)
      have t1 := ht 1 (by omega)
      have e64 : zgI B1 13 0 64 = 0 := ((f1 13 0 64 (by omega)).1).trans h64
      have fA : zFo (gA2 r i di) A A2 := zFo_trans (zFo_mono g2 (fun x y w hw => by unfold kFs at hw; unfold gA2; omega)) (zFo_mono fA2 (fun x y w hw => by unfold gA2; omega))
      have fB2 : zFo (gB2 r h) B B2 := zFo_trans (zFo_mono f1 (fun x y w hw => by unfold gB2; omega)) (zFo_mono f2 (fun x y w hw => by unfold gB2; omega))
      have b94 : zgI B2 94 0 h = nI (m + 1) := by rw [hB2, zgI_sI, if_pos ⟨rfl, rfl, rfl⟩]
      have a8 : zgI A2 4 di 8 = nI (oHd (s + c g) (oA a (c g))) := by rw [hA2, zgI_sI, if_pos ⟨rfl, rfl, rfl⟩]
      have a6 : zgI A2 4 di 6 = nI (m + 1) := by rw [hA2, zgI_sI, if_neg (by omega), zgI_sI, if_pos ⟨rfl, rfl, rfl⟩]
      have a25 : zgI A2 25 di m = nI (c g) := by rw [hA2, zgI_sI, if_neg (by omega), zgI_sI, if_neg (by omega), zgI_sI, if_pos ⟨rfl, rfl, rfl⟩]
      have a25t : ∀ t, t < m → zgI A2 25 di t = zgI A 25 di t := fun t tm => by rw [hA2, zgI_sI, if_neg (by omega), zgI_sI, if_neg (by omega), zgI_sI, if_neg (by omega), (g2 25 di t (by unfold kFs; omega)).1]
      have cds : ∀ t, t < m + 1 → zgI A2 25 di t = zgI B2 93 0 (24 * h + t) := fun t tm => by
        by_cases y : t = m
        · rw [y, a25, hB2, zgI_sI, if_neg (by omega), zgI_sI, if_pos ⟨rfl, rfl, by omega⟩]
        · rw [a25t t (by omega), hB2, zgI_sI, if_neg (by omega), zgI_sI, if_neg (by omega), (f1 93 0 _ (by omega)).1]
          exact o94c t (by omega)
      have cby : yBs 93 h B2 (m + 1) := fun t tm => by
        by_cases y : t = m
        · rw [y, hB2, zgI_sI, if_neg (by omega), zgI_sI, if_pos ⟨rfl, rfl, rfl⟩]
          exact yByt (by omega)
        · rw [hB2, zgI_sI, if_neg (by omega), zgI_sI, if_neg (by omega), (f1 93 0 _ (by omega)).1]
          exact o94d t (by omega)
      have e64b : zgI B2 13 0 64 = 0 := ((f2 13 0 64 (by omega)).1).trans e64
      cases o with
      | true =>
        obtain ⟨B3, w3, f3, hm3⟩ := K262 (d + 2) (c g) cv (T := T 1) hm2 (((f2 13 0 60 (by omega)).1).trans (((f1 13 0 60 (by omega)).1).trans n60)) t1.1 (yMt_fr (by omega) (fun k s hk => ((f2 k 0 s (by omega)).1).trans (f1 k 0 s (by omega)).1) t1.2.2.2)
        exact ⟨c g, A2, B1, B2, B3, cv, c1, w1e, e64, w2, fun _ => w3, (fun y => by cases y), fA, zFo_trans fB2 (zFo_mono f3 (fun x y w hw => by unfold mFs at hw; unfold gB2; omega)), Or.inl ⟨r0, g + 1, ct + yTag (T 1) (c g), ySn sn (c g), kS_fr g3 fA2 (fun s _ _ => by omega) (fun s => by omega) (fun s => by omega), hm3, pS_open e3 hg⟩, ⟨⟨a8, a6⟩, fun _ => ⟨((f3 94 0 h (by unfold mFs; omega)).1).trans b94, ⟨by omega, fun t tm => (cds t tm).trans (f3 93 0 _ (by unfold mFs; omega)).1.symm⟩, fun t tm => by rw [(f3 93 0 _ (by unfold mFs; omega)).1]; exact cby t tm⟩⟩, hi', ((f3 13 0 64 (by unfold mFs; omega)).1).trans e64b, a25, a25t, hm⟩
      | false =>
        have h0 := hid0 rfl
        subst h0
        exact ⟨c g, A2, B1, B2, B2, cv, c1, w1e, e64, w2, (fun y => by cases y), fun _ => rfl, fA, fB2, Or.inl ⟨r0, g + 1, ct, sn, kS_fr g3 fA2 (fun s _ _ => by omega) (fun s => by omega) (fun s => by omega), hm2, pS_hid e3 hg⟩, ⟨⟨a8, a6⟩, fun _ => ⟨b94, ⟨by omega, cds⟩, cby⟩⟩, hi', e64b, a25, a25t, hm⟩
    · have hg : g = 52 * P := by have := e3.2.2.1.2; omega
      have w1e := q2 hg
      obtain ⟨B1, hB1⟩ : ∃ B1, B1 = zsI B 13 0 64 1 := ⟨_, rfl⟩
      rw [← hB1] at w1e
      have f1 : zFo (fun x y w => x = 13 ∧ y = 0 ∧ w = 64) B B1 := by
        rw [hB1]
        exact zFo_sI (zFo_refl _ B) ⟨rfl, rfl, rfl⟩
      have e64 : zgI B1 13 0 64 = 1 := by rw [hB1, zgI_sI, if_pos ⟨rfl, rfl, rfl⟩]
      exact Or.inr ⟨A, B1, fin0 (k2 hg), w1e, e64, zFo_refl _ A, zFo_mono f1 (fun x y w hw => by unfold gB2; omega), fun _ => zSo_fr hs' (zFo_refl (fun _ _ _ => False) A) f1 (fun _ _ _ => id) (fun _ => id) (fun _ => id) (fun _ _ _ _ => id) id (fun s _ _ _ => by omega) (fun s => by omega) (fun s => by omega) (fun k t _ _ => by omega) (by omega), hDl_fr ho' (zFo_refl (fun _ _ _ => False) A) f1 id id (fun _ => id) (by omega) (fun s => by omega), fun _ => rfl⟩
  · have n14 : zgR A 5 0 14 = (9, r - 1) := by rw [r14, if_neg r0]
    have n60 : zgI B 13 0 60 = nI (r - 1) := by rw [m60, if_neg r0]
    obtain ⟨v, hv10, g1, g2⟩ := H103 (d + 3) (d + 4) (r - 1) (zgI A 5 0 15) zu zu zu zu (by omega) e1 n60 e2.symm
    have c0 := K38r (d + 3) (r - 1) v (bI o) zu hv10 n14 g1
    by_cases hv0 : v = 0
    · rw [if_pos hv0, hv0] at c0
      rw [if_pos hv0, hv0] at g2
      obtain ⟨B1, hB1⟩ : ∃ B1, B1 = zsI (zsI B 13 0 61 (zgI A 5 0 15 + 1)) 13 0 64 1 := ⟨_, rfl⟩
      rw [← hB1] at g2
      have f1 : zFo (fun x y w => x = 13 ∧ y = 0 ∧ (w = 61 ∨ w = 64)) B B1 := by
        rw [hB1]
        exact zFo_sI (zFo_sI (zFo_refl _ B) (by omega)) (by omega)
      have e64 : zgI B1 13 0 64 = 1 := by rw [hB1, zgI_sI, if_pos ⟨rfl, rfl, rfl⟩]
      exact Or.inr ⟨A, B1, fin0 c0, g2, e64, zFo_refl _ A, zFo_mono f1 (fun x y w hw => by unfold gB2; omega), fun w => absurd w r0, hDl_fr ho' (zFo_refl (fun _ _ _ => False) A) f1 id id (fun _ => id) (by omega) (fun s => by omega), fun _ => rfl⟩
    · refine Or.inl ?_
      have cv : 1 ≤ v ∧ v ≤ 10 := ⟨by omega, hv10⟩
      obtain ⟨hi', hm⟩ := hI_next hi hs20 hn cv
      rw [if_neg hv0] at c0 g2
      obtain ⟨A1, hA1⟩ : ∃ A1, A1 = zsI A 5 0 15 (zgI A 5 0 15 + 1) := ⟨_, rfl⟩
      rw [← hA1] at c0
      have fA1 : zFo (fun x y w => x = 5 ∧ y = 0 ∧ w = 15) A A1 := by
        rw [hA1]
        exact zFo_sI (zFo_refl _ A) ⟨rfl, rfl, rfl⟩
      have c1 := fin v A1 cv hm c0 (((fA1 5 0 13 (by omega)).2.2).trans r13) (((fA1 4 di 8 (by omega)).1).trans o8) (((fA1 4 di 6 (by omega)).1).trans o6)
      obtain ⟨A2, hA2⟩ : ∃ A2, A2 = zsI (zsI (zsI A1 25 di m (nI v)) 4 di 6 (nI (m + 1))) 4 di 8 (nI (oHd (s + v) (oA a v))) := ⟨_, rfl⟩
      rw [← hA2] at c1
      have fA2 : zFo (fun x y w => y = di ∧ ((x = 4 ∧ (w = 6 ∨ w = 8)) ∨ x = 25)) A1 A2 := by
        rw [hA2]
        exact zFo_sI (zFo_sI (zFo_sI (zFo_refl _ A1) (by omega)) (by omega)) (by omega)
      obtain ⟨B1, hB1⟩ : ∃ B1, B1 = zsI B 13 0 61 (zgI A 5 0 15 + 1) := ⟨_, rfl⟩
      rw [← hB1] at g2
      have f1 : zFo (fun x y w => x = 13 ∧ y = 0 ∧ w = 61) B B1 := by
        rw [hB1]
        exact zFo_sI (zFo_refl _ B) ⟨rfl, rfl, rfl⟩
      have j60 : zgI B1 13 0 60 = nI (r - 1) := ((f1 13 0 60 (by omega)).1).trans n60
      have np : ¬ nI (r - 1) < 0 := nI_nlt (b := 0) (by omega) (by omega)
      have fA : zFo (gA2 r i di) A A2 := zFo_trans (zFo_mono fA1 (fun x y w hw => by unfold gA2; omega)) (zFo_mono fA2 (fun x y w hw => by unfold gA2; omega))
      have fB : zFo (gB2 r h) B B1 := zFo_mono f1 (fun x y w hw => by unfold gB2; omega)
      have e15 : zgI A2 5 0 15 = zgI A 5 0 15 + 1 := by rw [(fA2 5 0 15 (by omega)).1, hA1, zgI_sI, if_pos ⟨rfl, rfl, rfl⟩]
      have e61 : zgI B1 13 0 61 = zgI A 5 0 15 + 1 := by rw [hB1, zgI_sI, if_pos ⟨rfl, rfl, rfl⟩]
      have e64 : zgI B1 13 0 64 = 0 := ((f1 13 0 64 (by omega)).1).trans h64
      refine ⟨v, A2, B1, B1, B1, cv, c1, g2, e64, ?_, fun _ => ?_, fun _ => rfl, fA, fB, Or.inr ⟨r0, yRw_fr e1 fA fB (fun t => by unfold gA2; omega) (fun t => by unfold gA2; omega) (fun k t _ _ => by unfold gB2; omega), e15.trans e61.symm, P', C', g, sn, yNm_fr e3 (fun s s1 s2 => (fA _ _ _ (by unfold gA2; omega)).1) (fun s _ => (fA _ _ _ (by unfold gA2; omega)).1) (fun s s1 s2 s3 => (fB _ _ _ (by unfold gB2; omega)).1) (fun s _ => (fB _ _ _ (by unfold gB2; omega)).1)⟩, ⟨⟨?_, ?_⟩, fun w => absurd w r0⟩, hi', e64, ?_, fun t tm => ?_, hm⟩
      · rw [B263_0, j60, if_neg np]
      · rw [B262_0, j60, if_neg np]
      · rw [hA2, zgI_sI, if_pos ⟨rfl, rfl, rfl⟩]
      · rw [hA2, zgI_sI, if_neg (by omega), zgI_sI, if_pos ⟨rfl, rfl, rfl⟩]
      · rw [hA2, zgI_sI, if_neg (by omega), zgI_sI, if_neg (by omega), zgI_sI, if_pos ⟨rfl, rfl, rfl⟩]
      · rw [hA2, zgI_sI, if_neg (by omega), zgI_sI, if_neg (by omega), zgI_sI, if_neg (by omega), (fA1 25 di t (by omega)).1]
