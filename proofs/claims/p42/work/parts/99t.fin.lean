/-! ===== a hand over: what it brought ===== -/
def yFin (i bi di p h N kd P C dv n : Nat) (T : Nat → List (List yOp × List yOp)) (q lf : Nat → Nat) (A B : zM) : Prop :=
  yTy T q A B ∧ ySho i P C A B ∧ (zgR A 5 0 12 = (2, bi) ∧ zgR A 5 0 13 = (4, di)) ∧ (zgI A 4 di 9 = zgI B 83 0 h ∧ zgI A 4 di 10 = zgI B 84 0 h ∧ zgI A 4 di 15 = zgI B 86 0 h ∧ zgI A 4 di 18 = zgI B 89 0 h ∧ (zgI B 89 0 h = 0 ∨ zgI B 89 0 h = 1) ∧ zgI A 4 di 19 = 0) ∧
  (n ≤ 20 ∧ zgI A 4 di 11 = nI n ∧ zgI B 85 0 h = nI n ∧ ∃ (S : Nat → Nat) (Aa : Nat → Bool) (pl : Nat → Nat), (∀ j, j < n → zgI A 26 di j = nI (oHd (S j) (Aa j)) ∧ zgI A 27 di j = nI (pl j) ∧ (1 ≤ S j ∧ S j ≤ 21) ∧ pl j ≤ 2) ∧ zgI B 90 0 h = bI (yOt lf (oO lf q dv) q S Aa pl n)) ∧ zgI B 13 0 69 = zgI B 90 0 h ∧ (0 < n → zgI A 25 di 0 = nI dv ∧ 1 ≤ dv ∧ dv ≤ 10) ∧ yLft di h A B lf ∧
  (∃ m, zgI A 4 di 5 = nI m ∧ zgI B 92 0 h = nI m ∧ yCds 24 91 di h A B m ∧ yBs 91 h B m) ∧ (∃ m, zgI A 4 di 6 = nI m ∧ zgI B 94 0 h = nI m ∧ yCds 25 93 di h A B m ∧ yBs 93 h B m) ∧
  (kd ≤ 7 ∧ (zgI A 2 bi 0 = nI kd ∧ zgI B 70 0 p = nI kd) ∧ zgI A 2 bi 1 = zgI B 71 0 p ∧ zgI A 2 bi 2 = zgI B 72 0 p ∧ zgI A 2 bi 3 = zgI B 73 0 p ∧ (zgI A 2 bi 4 = nI N ∧ zgI B 74 0 p = nI (N + 1)) ∧ zgI A 2 bi 5 = zgI B 75 0 p)
theorem gA_one {i bi di a b c : Nat} (H : gA 0 i di a b c) : oneA i bi di a b c := by
  rcases H with ⟨-, e, h⟩ | ⟨e, h⟩ | ⟨e, h⟩ | h | h
  · exact oneA_sh ⟨e, by omega⟩
  · exact oneA_di e (by omega)
  · exact oneA_0 e (by omega)
  · exact oneA_tx (Or.inl h)
  · exact oneA_tx (Or.inr h)
theorem gB_one {p h a b c : Nat} (H : gB 0 h a b c) : oneB p h a b c := by
  obtain ⟨e, h1 | h1 | h1 | ⟨-, h1 | h1 | h1 | h1 | h1⟩⟩ := H
  · exact oneB_t e (Or.inl h1)
  · exact oneB_t e (Or.inr h1)
  · exact oneB_13 e (by omega)
  · exact oneB_sh ⟨e, Or.inr (Or.inl h1)⟩
  · exact oneB_o e h1
  · exact oneB_sh ⟨e, by omega⟩
  · exact oneB_c e h1
  · exact oneB_h e (by omega)
/-- the class, up to what it brought -/
theorem FC (d i bi di kd N : Nat) (led : Int32) {A A5 A6 : zM} {x : Int32} (hx : x = 0 ∨ x = 1) (hk : kd ≤ 7) (hN : N ≤ 1000000) (h0 : zgI A5 2 bi 0 = nI kd) (h4 : zgI A5 2 bi 4 = nI N) (ka : zgo false (d + 32) 34 0 [zr 5 0, zr 2 bi, zr 10 i, zr 4 di, zi led, zu] [] A = ((zgo false (d + 31) 41 0 [zr 5 0] [] A5).bind fun q => zgo false (d + 32) 34 29 [zr 5 0, zr 2 bi, zr 10 i, zr 4 di, zi led, zu] (zpush q.1 []) q.2)) (hc : hCl (gA 0 i di) (d + 31) (yTn kd N) A5 A6 x) : zgo false (d + 32) 34 0 [zr 5 0, zr 2 bi, zr 10 i, zr 4 di, zi led, zu] [] A = zgo false (d + 32) 34 55 [zr 5 0, zr 2 bi, zr 10 i, zr 4 di, zi led, zu] [zi x] A6 := by
  rcases hc with ⟨e, ex⟩ | ⟨A1, f1, e1, ⟨e2, ex⟩ | ⟨A2, e2, e3⟩⟩
  · rw [ka, e, zbsome, zpu1, B34_29, if_pos rfl, B34_54, ex]
  · have e12 := K12 (d + 31) bi kd N (A := A1) (((f1 2 bi 0 (by unfold gA; omega)).1).trans h0) hk (((f1 2 bi 4 (by unfold gA; omega)).1).trans h4) hN
    rw [ka, e1, zbsome, zpu1, B34_29, if_neg (by decide), e12, zbsome]
    show zgo false (d + 32) 34 37 [zr 5 0, zr 2 bi, zr 10 i, zr 4 di, zi led, zu] [zi (bI (yTn kd N)), zr 5 0] A1 = _
    rw [B34_37, e2, zbsome, zpu1, B34_40, if_pos rfl, B34_54, ex]
  · have e12 := K12 (d + 31) bi kd N (A := A1) (((f1 2 bi 0 (by unfold gA; omega)).1).trans h0) hk (((f1 2 bi 4 (by unfold gA; omega)).1).trans h4) hN
    rw [ka, e1, zbsome, zpu1, B34_29, if_neg (by decide), e12, zbsome]
    show zgo false (d + 32) 34 37 [zr 5 0, zr 2 bi, zr 10 i, zr 4 di, zi led, zu] [zi (bI (yTn kd N)), zr 5 0] A1 = _
    rw [B34_37, e2, zbsome, zpu1, B34_40, if_neg (by decide), e3, zbsome, zpu1, B34_47]
    rcases hx with rfl | rfl
    · rw [if_pos rfl, B34_54]
    · rw [if_neg (by decide)]
/-- the model, what it brought written down -/
theorem FM (d p h : Nat) (x3 V : Int32) (o : Bool) (hh : h < 60) {B9 : zM} (h64 : zgI B9 13 0 64 = bI o) : ∃ B10, (∀ u4 : Int32, zgo false (d + 32) 271 176 [zr 13 0, zi (nI p), zi (nI h), zi x3, zi u4] [zi V] B9 = zgo false (d + 32) 271 242 [zr 13 0, zi (nI p), zi (nI h), zi x3, zi V] [] B10) ∧ zFo (fun a b c => b = 0 ∧ ((a = 13 ∧ c = 59) ∨ ((a = 84 ∨ a = 85 ∨ a = 89 ∨ a = 90) ∧ c = h))) B9 B10 ∧ zgI B10 13 0 59 = bI o ∧ zgI B10 89 0 h = bI o ∧ zgI B10 84 0 h = (if o = true then 0 else V * zgI B9 83 0 h) ∧ zgI B10 85 0 h = zgI B9 13 0 68 ∧ zgI B10 90 0 h = zgI B9 13 0 69 := by
  have zh60 : zin (nI h) 60 = true := zin_nI (by omega) (by omega)
  have ch : (nI h).toNatClampNeg = h := nI_clamp (by omega)
  have zb : zib (bI o) = true := by cases o <;> rfl
  have ea : bI o &&& 1 = bI o := by cases o <;> rfl
  obtain ⟨M1, hM1⟩ : ∃ M, M = zsI (zsI B9 13 0 59 (bI o)) 89 0 h (bI o) := ⟨_, rfl⟩
  have f1 : zFo (fun a b c => b = 0 ∧ ((a = 13 ∧ c = 59) ∨ (a = 89 ∧ c = h))) B9 M1 := by
    rw [hM1]
    exact zFo_sI (zFo_sI (zFo_refl _ B9) (by omega)) (by omega)
  obtain ⟨X, hX⟩ : ∃ X, X = (if o = true then 0 else V * zgI B9 83 0 h) := ⟨_, rfl⟩
  obtain ⟨M2, hM2⟩ : ∃ M, M = zsI M1 84 0 h X := ⟨_, rfl⟩
  obtain ⟨M3, hM3⟩ : ∃ M, M = zsI M2 85 0 h (zgI B9 13 0 68) := ⟨_, rfl⟩
  obtain ⟨M4, hM4⟩ : ∃ M, M = zsI M3 90 0 h (zgI B9 13 0 69) := ⟨_, rfl⟩
  have f2 : zFo (fun a b c => b = 0 ∧ a = 84 ∧ c = h) M1 M2 := by
    rw [hM2]
    exact zFo_sI (zFo_refl _ M1) (by omega)
  have f3 : zFo (fun a b c => b = 0 ∧ a = 85 ∧ c = h) M2 M3 := by
    rw [hM3]
    exact zFo_sI (zFo_refl _ M2) (by omega)
  have f4 : zFo (fun a b c => b = 0 ∧ a = 90 ∧ c = h) M3 M4 := by
    rw [hM4]
    exact zFo_sI (zFo_refl _ M3) (by omega)
  refine ⟨M4, fun u4 => ?_, ?_, ?_, ?_, ?_, ?_, ?_⟩
  · have e64a : zgI (zsI B9 13 0 59 (bI o)) 13 0 64 = bI o := by rw [zgI_sI, if_neg (by omega), h64]
    have e64b : zgI M1 13 0 64 = bI o := by rw [(f1 13 0 64 (by omega)).1, h64]
    have e83 : zgI M1 83 0 h = zgI B9 83 0 h := (f1 83 0 h (by omega)).1
    have k221 : zgo false (d + 32) 271 176 [zr 13 0, zi (nI p), zi (nI h), zi x3, zi u4] [zi V] B9 = zgo false (d + 32) 271 221 [zr 13 0, zi (nI p), zi (nI h), zi x3, zi V] [zi X, zi (nI h), zr 84 0] M1 := by
      rw [B271_176, h64, zb, cond_true, if_pos zh60, ch, e64a, ea, ← hM1, e64b, e83]
      cases o with
      | false => rw [if_pos (show bI false = 0 from rfl), if_pos zh60, hX, if_neg (by decide)]
      | true => rw [if_neg (show ¬ bI true = 0 by decide), hX, if_pos rfl]
    have a68 : zgI M2 13 0 68 = zgI B9 13 0 68 := by rw [(f2 13 0 68 (by omega)).1, (f1 13 0 68 (by omega)).1]
    have a69 : zgI M3 13 0 69 = zgI B9 13 0 69 := by rw [(f3 13 0 69 (by omega)).1, (f2 13 0 69 (by omega)).1, (f1 13 0 69 (by omega)).1]
    rw [k221, B271_221, if_pos zh60, if_pos zh60, if_pos zh60, ch, ← hM2, a68, ← hM3, a69, ← hM4]
  · exact zFo_trans (zFo_mono f1 (fun a b c y => by omega)) (zFo_trans (zFo_mono f2 (fun a b c y => by omega)) (zFo_trans (zFo_mono f3 (fun a b c y => by omega)) (zFo_mono f4 (fun a b c y => by omega))))
  · rw [(f4 13 0 59 (by omega)).1, (f3 13 0 59 (by omega)).1, (f2 13 0 59 (by omega)).1, hM1, zgI_sI, if_neg (by omega), zgI_sI, if_pos ⟨rfl, rfl, rfl⟩]
  · rw [(f4 89 0 h (by omega)).1, (f3 89 0 h (by omega)).1, (f2 89 0 h (by omega)).1, hM1, zgI_sI, if_pos ⟨rfl, rfl, rfl⟩]
  · rw [(f4 84 0 h (by omega)).1, (f3 84 0 h (by omega)).1, hM2, zgI_sI, if_pos ⟨rfl, rfl, rfl⟩, hX]
  · rw [(f4 85 0 h (by omega)).1, hM3, zgI_sI, if_pos ⟨rfl, rfl, rfl⟩]
  · rw [hM4, zgI_sI, if_pos ⟨rfl, rfl, rfl⟩]
theorem yOc_b {q1 : Nat} (h : q1 ≤ 200) (s : Nat) (a : Bool) (m ds : Nat) (da : Bool) (dm : Nat) (dbl : Bool) : -200 ≤ yOc q1 s a m ds da dm dbl ∧ yOc q1 s a m ds da dm dbl ≤ 200 := by
  unfold yOc
  repeat' split
  all_goals omega
theorem FIN1 (d i bi di p h N kd : Nat) (led : Int32) {T : Nat → List (List yOp × List yOp)} {q : Nat → Nat} {P C : Nat} {A B : zM} (hs : ySho i P C A B) (ht : yTy T q A B) (hb : yBd bi p N kd A B) (hp : p < 10) (hh : h < 60) (hN : N ≤ 1000000) : ∃ (A7 B10 : zM) (dv n : Nat) (lf : Nat → Nat) (x V : Int32), zgo false (d + 32) 34 0 [zr 5 0, zr 2 bi, zr 10 i, zr 4 di, zi led, zu] [] A = zgo false (d + 32) 34 115 [zr 5 0, zr 2 bi, zr 10 i, zr 4 di, zi led, zi x] [] A7 ∧ zgo false (d + 32) 271 0 [zr 13 0, zi (nI p), zi (nI h), zu, zu] [] B = zgo false (d + 32) 271 242 [zr 13 0, zi (nI p), zi (nI h), zi (zgI A7 4 di 14), zi V] [] B10 ∧ zFo (oneA i bi di) A A7 ∧ zFo (oneB p h) B B10 ∧ yFin i bi di p h N kd P C dv n T q lf A7 B10 ∧ (∀ s, zgI A7 2 bi s = zgI A 2 bi s) ∧ (∃ la : Int32, zgI A7 4 di 9 = yBe (T 2) (zgI A 2 bi 1 / 100) kd (zgI A 2 bi 2) (zgI A7 4 di 14) (zgI A7 4 di 15) la) ∧ (zgI A7 4 di 10 = 0 ∨ ∃ y : Int, -200 ≤ y ∧ y ≤ 200 ∧ zgI A7 4 di 10 = yI y * zgI A7 4 di 9) := by
  obtain ⟨A5, B8, g, sn, c, ka, kb, fA5, gB8, ⟨hx, hy, ⟨hn, hdk⟩, ⟨z9, z5, z59⟩, h70, hz, w9, w15, wL, ⟨w92, w94⟩, hk7, ⟨hk1, hk2⟩, b1, b2, b3, ⟨b4, b4'⟩, b5⟩, xA, la, xbet⟩ := PRE1 d i bi di p h N kd led hs ht hb hp hh hN
  obtain ⟨s1, s2, s3⟩ := S_yNm hn hdk
  obtain ⟨wl1, wl2, wl3⟩ := wL
  have hlf : hLf 0 h (yLf P sn) B8 := fun _ => ⟨fun v hv => by
    by_cases y : v = 0
    · rw [if_pos y, y]
      exact wl2
    · rw [if_neg y]
      exact (wl1 v (by omega) hv).2, wl3⟩
  obtain ⟨A6, B9, s, m, ds, dm, n, dv, a, da, S, Aa, pl, f6, g9, ho, ⟨bs, bm⟩, hdl, ⟨bds, bdm⟩, hpl, hn20, h25, hE⟩ := HAND d 0 i bi di p h (yTn kd N) (T := T) (q := q) (lf := yLf P sn) (kd := kd) (P := P) (C := C) (z := zgI A5 10 i 5) (c := c) hx (Or.inl ⟨rfl, g, _, sn, s1, s2, s3⟩) hlf h70 (hz 5 (by omega)) (hz 6 (by omega)) (hz 7 (by omega)) (hz 8 (by omega)) (hz 11 (by omega)) (hz 17 (by omega)) (fun _ => ⟨w92, w94⟩)
  have hx6 := yCx_fr hx f6 g9
  have fA6 : zFo (oneA i bi di) A A6 := zFo_trans fA5 (zFo_mono f6 (fun a b c y => gA_one y))
  have gB9 : zFo (oneB p h) B B9 := zFo_trans gB8 (zFo_mono g9 (fun a b c y => gB_one y))
  -- what the cards leave as it was
  have kA : ∀ s, ¬ ((5 ≤ s ∧ s ≤ 8) ∨ s = 11 ∨ s = 17) → zgI A6 4 di s = zgI A5 4 di s := fun s hs => (f6 4 di s (by unfold gA; omega)).1
  have kBd : ∀ s, zgI A6 2 bi s = zgI A5 2 bi s := fun s => (f6 2 bi s (by unfold gA; omega)).1
  have mB : ∀ k s, 70 ≤ k → k ≤ 75 → zgI B9 k 0 s = zgI B8 k 0 s := fun k s k1 k2 => (g9 k 0 s (by unfold gB; omega)).1
  have mL : ∀ k s, (83 ≤ k ∧ k ≤ 90) ∨ k = 95 → zgI B9 k 0 s = zgI B8 k 0 s := fun k s hk => (g9 k 0 s (by unfold gB; omega)).1
  have l28 : ∀ v, zgI A6 28 di v = zgI A5 28 di v := fun v => (f6 28 di v (by unfold gA; omega)).1
  obtain ⟨hO1, hO2, hO3⟩ := ho
  obtain ⟨o92, o92b⟩ := hO3 rfl
  obtain ⟨hD1, hD2⟩ := hdl
  obtain ⟨d94, d94b⟩ := hD2 rfl
  obtain ⟨p1, p2, p3, p4⟩ := hpl
  have p4 := p4 rfl
  -- the rest, from what the two did last
  have done : ∀ (o : Bool) (A7 : zM) (x V : Int32), zgI B9 13 0 64 = bI o → zgo false (d + 32) 34 0 [zr 5 0, zr 2 bi, zr 10 i, zr 4 di, zi led, zu] [] A = zgo false (d + 32) 34 115 [zr 5 0, zr 2 bi, zr 10 i, zr 4 di, zi led, zi x] [] A7 → zgo false (d + 31) 268 0 [zr 13 0, zu, zu, zu, zu, zu, zu, zu, zu, zu] [] B8 = some (some (zi V), B9) → zFo (fun a b c => (b = i ∧ (a = 47 ∨ (a = 10 ∧ 6 ≤ c ∧ c ≤ 9))) ∨ (b = di ∧ a = 4 ∧ (c = 10 ∨ c = 18))) A6 A7 → zgI A7 4 di 10 = (if o = true then 0 else V * zgI B9 83 0 h) → zgI A7 4 di 18 = bI o → (∀ B10, zFo (fun a b c => b = 0 ∧ ((a = 13 ∧ c = 59) ∨ ((a = 84 ∨ a = 85 ∨ a = 89 ∨ a = 90) ∧ c = h))) B9 B10 → zgI B10 13 0 59 = bI o → ySho i P C A7 B10) → (o = false → ∃ y : Int, -200 ≤ y ∧ y ≤ 200 ∧ V = yI y) → ∃ (A7 B10 : zM) (dv n : Nat) (lf : Nat → Nat) (x V : Int32), zgo false (d + 32) 34 0 [zr 5 0, zr 2 bi, zr 10 i, zr 4 di, zi led, zu] [] A = zgo false (d + 32) 34 115 [zr 5 0, zr 2 bi, zr 10 i, zr 4 di, zi led, zi x] [] A7 ∧ zgo false (d + 32) 271 0 [zr 13 0, zi (nI p), zi (nI h), zu, zu] [] B = zgo false (d + 32) 271 242 [zr 13 0, zi (nI p), zi (nI h), zi (zgI A7 4 di 14), zi V] [] B10 ∧ zFo (oneA i bi di) A A7 ∧ zFo (oneB p h) B B10 ∧ yFin i bi di p h N kd P C dv n T q lf A7 B10 ∧ (∀ s, zgI A7 2 bi s = zgI A 2 bi s) ∧ (∃ la : Int32, zgI A7 4 di 9 = yBe (T 2) (zgI A 2 bi 1 / 100) kd (zgI A 2 bi 2) (zgI A7 4 di 14) (zgI A7 4 di 15) la) ∧ (zgI A7 4 di 10 = 0 ∨ ∃ y : Int, -200 ≤ y ∧ y ≤ 200 ∧ zgI A7 4 di 10 = yI y * zgI A7 4 di 9) := by
    intro o A7 x V h64 ca mo f7 e10 e18 hsho hV
    obtain ⟨B10, m10, g10, v59, v89, v84, v85, v90⟩ := FM d p h (zgI A5 4 di 14) V o hh h64
    have fA7 : zFo (oneA i bi di) A A7 := zFo_trans fA6 (zFo_mono f7 (fun a b c y => y.elim (fun z => oneA_sh ⟨z.1, by omega⟩) (fun z => oneA_di z.1 (Or.inl z.2.1))))
    have gB10 : zFo (oneB p h) B B10 := zFo_trans gB9 (zFo_mono g10 (fun a b c y => y.2.elim (fun z => oneB_13 y.1 (by omega)) (fun z => oneB_h y.1 (by omega))))
    have jA : ∀ s, ¬ s = 10 → ¬ s = 18 → zgI A7 4 di s = zgI A6 4 di s := fun s h1 h2 => (f7 4 di s (by omega)).1
    have jB : ∀ k s, ¬ k = 13 → ¬ (k = 84 ∨ k = 85 ∨ k = 89 ∨ k = 90) → zgI B10 k 0 s = zgI B9 k 0 s := fun k s h1 h2 => (g10 k 0 s (by omega)).1
    have a14 : zgI A7 4 di 14 = zgI A5 4 di 14 := (jA 14 (by omega) (by omega)).trans (kA 14 (by omega))
    have ob : bI o = 0 ∨ bI o = 1 := by
      cases o
      · exact Or.inl rfl
      · exact Or.inr rfl
    refine ⟨A7, B10, dv, n, yLf P sn, x, V, ca, ?_, fA7, gB10, ⟨yTy_fr ht fA7 gB10, hsho B10 g10 v59, ⟨?_, ?_⟩, ⟨?_, ?_, ?_, ?_, ?_, ?_⟩, ⟨hn20, ?_, ?_, S, Aa, pl, fun j hj => ?_, ?_⟩, ?_, fun n0 => ⟨?_, (h25 n0).2⟩, ⟨fun v v1 v2 => ⟨?_, ?_⟩, ?_, wl3⟩, ⟨m, ?_, ?_, ⟨o92b.1.1, fun t tm => ?_⟩, fun t tm => ?_⟩, ⟨dm, ?_, ?_, ⟨d94b.1.1, fun t tm => ?_⟩, fun t tm => ?_⟩, hk7, ⟨?_, ?_⟩, ?_, ?_, ?_, ⟨?_, ?_⟩, ?_⟩, fun s => ?_, ⟨la, ?_⟩, ?_⟩
    · rw [kb, mo, zbsome, zpu1, m10, a14]
    · rw [(f7 5 0 12 (by omega)).2.2]; exact hx6.1.2.1
    · rw [(f7 5 0 13 (by omega)).2.2]; exact hx6.1.2.2.1
    · rw [jA 9 (by omega) (by omega), kA 9 (by omega), w9, jB 83 h (by omega) (by omega), mL 83 h (by omega)]
    · rw [e10, v84]
    · rw [jA 15 (by omega) (by omega), kA 15 (by omega), w15, jB 86 h (by omega) (by omega), mL 86 h (by omega)]
    · rw [e18, v89]
    · rw [v89]; exact ob
    · rw [jA 19 (by omega) (by omega), kA 19 (by omega)]; exact hz 19 (by omega)
    · rw [jA 11 (by omega) (by omega)]; exact p1
    · rw [v85]; exact p3
    · obtain ⟨t1, t2, t3⟩ := p2 j hj
      exact ⟨((f7 26 di j (by omega)).1).trans t1, ((f7 27 di j (by omega)).1).trans t2, t3⟩
    · rw [v90]; exact p4
    · rw [v90]; exact (g10 13 0 69 (by omega)).1
    · rw [(f7 25 di 0 (by omega)).1]; exact (h25 n0).1
    · rw [(f7 28 di v (by omega)).1, l28]; exact (wl1 v v1 v2).1
    · rw [jB 95 _ (by omega) (by omega), mL 95 _ (by omega)]; exact (wl1 v v1 v2).2
    · rw [jB 95 _ (by omega) (by omega), mL 95 _ (by omega)]; exact wl2
    · rw [jA 5 (by omega) (by omega)]; exact hO1.2
    · rw [jB 92 h (by omega) (by omega)]; exact o92
    · rw [(f7 24 di t (by omega)).1, jB 91 _ (by omega) (by omega)]; exact o92b.1.2 t tm
    · rw [jB 91 _ (by omega) (by omega)]; exact o92b.2 t tm
    · rw [jA 6 (by omega) (by omega)]; exact hD1.2
    · rw [jB 94 h (by omega) (by omega)]; exact d94
    · rw [(f7 25 di t (by omega)).1, jB 93 _ (by omega) (by omega)]; exact d94b.1.2 t tm
    · rw [jB 93 _ (by omega) (by omega)]; exact d94b.2 t tm
    · rw [(f7 2 bi 0 (by omega)).1, kBd]; exact hk1
    · rw [jB 70 p (by omega) (by omega), mB 70 p (by omega) (by omega)]; exact hk2
    · rw [(f7 2 bi 1 (by omega)).1, kBd, jB 71 p (by omega) (by omega), mB 71 p (by omega) (by omega)]; exact b1
    · rw [(f7 2 bi 2 (by omega)).1, kBd, jB 72 p (by omega) (by omega), mB 72 p (by omega) (by omega)]; exact b2
    · rw [(f7 2 bi 3 (by omega)).1, kBd, jB 73 p (by omega) (by omega), mB 73 p (by omega) (by omega)]; exact b3
    · rw [(f7 2 bi 4 (by omega)).1, kBd]; exact b4
    · rw [jB 74 p (by omega) (by omega), mB 74 p (by omega) (by omega)]; exact b4'
    · rw [(f7 2 bi 5 (by omega)).1, kBd, jB 75 p (by omega) (by omega), mB 75 p (by omega) (by omega)]; exact b5
    · rw [(f7 2 bi s (by omega)).1, kBd]; exact xA s
    · rw [a14, jA 9 (by omega) (by omega), kA 9 (by omega), jA 15 (by omega) (by omega), kA 15 (by omega)]; exact xbet
    · cases o with
      | true => exact Or.inl (by rw [e10, if_pos rfl])
      | false =>
        obtain ⟨y, y1, y2, y3⟩ := hV rfl
        exact Or.inr ⟨y, y1, y2, by rw [e10, if_neg (by decide), y3, jA 9 (by omega) (by omega), kA 9 (by omega), w9, mL 83 h (by omega)]⟩
  rcases hE with ⟨hc, mo, h64, hz6⟩ | ⟨dbl, hid, hc, mo, h64, h17, hh2, e25, hz6⟩
  · -- a misdeal
    have ca := FC d i bi di kd N led (Or.inl rfl) hk7 hN hk1 b4 ka hc
    obtain ⟨A7, hA7⟩ : ∃ A7, A7 = zsI (zsI A6 4 di 18 1) 10 i 9 1 := ⟨_, rfl⟩
    have f7 : zFo (fun a b c => (a = 10 ∧ b = i ∧ c = 9) ∨ (b = di ∧ a = 4 ∧ c = 18)) A6 A7 := by
      rw [hA7]
      exact zFo_sI (zFo_sI (zFo_refl _ A6) (by omega)) (by omega)
    refine done true A7 0 0 h64 ?_ mo (zFo_mono f7 (fun a b c y => by omega)) ?_ ?_ (fun B10 g10 v59 => ?_) (fun w => by cases w)
    · rw [ca, B34_55, if_pos rfl, hA7]
    · rw [if_pos rfl, (f7 4 di 10 (by omega)).1, kA 10 (by omega)]; exact hz 10 (by omega)
    · rw [hA7, zgI_sI, if_neg (by omega), zgI_sI, if_pos ⟨rfl, rfl, rfl⟩]; rfl
    · obtain ⟨hid, hz6⟩ := hz6 rfl
      rcases hz6 with ⟨-, g6, ct6, sn6, t1, t2, t3⟩ | ⟨w, -⟩
      · refine ⟨g6, sn6, yNm_fr (yNm_S t1 t2 t3) (fun s _ _ => (f7 10 i s (by omega)).1) (fun s _ => (f7 47 i s (by omega)).1) (fun s _ _ _ => (g10 13 0 s (by omega)).1) (fun s _ => (g10 56 0 s (by omega)).1), Or.inl ⟨?_, Or.inr v59⟩⟩
        rw [hA7, zgI_sI, if_pos ⟨rfl, rfl, rfl⟩]
      · exact absurd rfl w
  · -- a hand to its end
    have ca := FC d i bi di kd N led (Or.inr rfl) hk7 hN hk1 b4 ka hc
    obtain ⟨g6, ct6, sn6, t1, t2, t3⟩ := hz6 rfl
    have tg : zgI A6 30 0 hid = yTag (T 1) hid := hx6.2.2.2.2.1 hid hh2.1 hh2.2
    obtain ⟨A6', e117, f117, t1'⟩ := K117 (d + 30) i hid (yTag (T 1) hid) hh2 t1
    have e117 : zgo false (d + 31) 117 0 [zr 10 i, zi (nI hid), zi (yTag (T 1) hid)] [] A6 = some (none, A6') := e117
    have e37 : zgo false (d + 31) 37 0 [zr 5 0, zi (nI hid)] [] A6 = some (some (zi (yTag (T 1) hid)), A6) := by
      rw [B37_0, at30n _ _ _ _ _ (by omega), zbsome, zpu1, B37_8, tg]
    have e25' : zgo false (d + 31) 169 0 [zr 25 di, zi 1] [] A6 = some (some (zi (nI hid)), A6) := (at25n false (d + 31) di 1 A6 (by omega)).trans (by rw [e25])
    have e29' : zgo false (d + 31) 169 0 [zr 29 0, zi 1] [] A6' = some (some (zi (nI (q 1))), A6') := (at29n false (d + 31) 0 1 A6' (by omega)).trans (by rw [(f117 29 0 1 (by unfold kFs; omega)).1, (hx6.2.2.2.2.2.1.1 1 (by omega)).1])
    have j6 : ∀ s, zgI A6' 4 di s = zgI A6 4 di s := fun s => (f117 4 di s (by unfold kFs; omega)).1
    have e28 := K28 (d + 29) di (q 1) s m ds dm a da dbl (zgI A6 4 di 9) zu zu zu zu zu bs (by omega) bds (by omega) (A := A6') ((j6 7).trans hO1.1) ((j6 5).trans hO1.2) ((j6 8).trans hD1.1) ((j6 6).trans hD1.2) (j6 9) ((j6 17).trans h17)
    have e28 : zgo false (d + 31) 28 0 [zr 4 di, zi (nI (q 1)), zu, zu, zu, zu, zu] [] A6' = _ := e28
    obtain ⟨A7, hA7⟩ : ∃ A7, A7 = zsI A6' 4 di 10 (yI (yOc (q 1) s a m ds da dm dbl) * zgI A6 4 di 9) := ⟨_, rfl⟩
    have f7 : zFo (fun a b c => b = di ∧ a = 4 ∧ c = 10) A6' A7 := by
      rw [hA7]
      exact zFo_sI (zFo_refl _ A6') (by omega)
    have f67 : zFo (fun a b c => (b = i ∧ (a = 47 ∨ (a = 10 ∧ 6 ≤ c ∧ c ≤ 8))) ∨ (b = di ∧ a = 4 ∧ c = 10)) A6 A7 := zFo_trans (zFo_mono f117 (fun a b c y => Or.inl y)) (zFo_mono f7 (fun a b c y => Or.inr y))
    refine done false A7 1 (yI (yOc (q 1) s a m ds da dm dbl)) h64 ?_ mo (zFo_mono f67 (fun a b c y => by omega)) ?_ ?_ (fun B10 g10 v59 => ?_) (fun _ => ⟨_, (yOc_b ht.2.2.1.2.2.2.1 s a m ds da dm dbl).1, (yOc_b ht.2.2.1.2.2.2.1 s a m ds da dm dbl).2, rfl⟩)
    · rw [ca, B34_55, if_neg (by decide), e25', zbsome]
      show zgo false (d + 32) 34 71 [zr 5 0, zr 2 bi, zr 10 i, zr 4 di, zi led, zi 1] [zi (nI hid), zr 10 i] A6 = _
      rw [B34_71, e25', zbsome]
      show zgo false (d + 32) 34 80 [zr 5 0, zr 2 bi, zr 10 i, zr 4 di, zi led, zi 1] [zi (nI hid), zr 5 0, zi (nI hid), zr 10 i] A6 = _
      rw [B34_80, e37, zbsome]
      show zgo false (d + 32) 34 83 [zr 5 0, zr 2 bi, zr 10 i, zr 4 di, zi led, zi 1] [zi (yTag (T 1) hid), zi (nI hid), zr 10 i] A6 = _
      rw [B34_83, e117, zbsome, zpu0, B34_86, e29', zbsome]
      show zgo false (d + 32) 34 96 [zr 5 0, zr 2 bi, zr 10 i, zr 4 di, zi led, zi 1] [zi (nI (q 1)), zr 4 di, zr 4 di] A6' = _
      rw [B34_96, e28, zbsome]
      show zgo false (d + 32) 34 99 [zr 5 0, zr 2 bi, zr 10 i, zr 4 di, zi led, zi 1] [zi (yI (yOc (q 1) s a m ds da dm dbl) * zgI A6 4 di 9), zr 4 di] A6' = _
      rw [B34_99, hA7]
    · rw [if_neg (by decide), hA7, zgI_sI, if_pos ⟨rfl, rfl, rfl⟩, kA 9 (by omega), w9, mL 83 h (by omega)]
    · rw [(f67 4 di 18 (by omega)).1, kA 18 (by omega)]; exact hz 18 (by omega)
    · have t2' := mS_fr t2 g10 (fun s _ _ _ => by omega) (fun s => by omega) (fun s => by omega)
      have t1'' := kS_fr t1' f7 (fun s _ _ => by omega) (fun s => by omega) (fun s => by omega)
      have t3' := pS_show t3 hh2
      refine ⟨g6, ySn sn6 hid, yNm_S t1'' t2' t3', Or.inr ⟨?_, ?_, v59, c, yDk_S t1'' t2' t3'⟩⟩
      · rw [(f67 10 i 9 (by omega)).1, (f6 10 i 9 (by unfold gA; omega)).1]; exact z9
      · rw [(g10 13 0 5 (by omega)).1, (g9 13 0 5 (by unfold gB; omega)).1]; exact z5
