/-! ===== lines, texts, and what is told byte by byte ===== -/
def sLn (n : Nat) (t : Nat → Nat) (p z : Nat) : Option (Nat × List Int32) :=
  (sP n t 40 0 0 0 p z).bind fun q =>
    if yC n t q.1 = 63 then (if z + q.2.length < 128 then (sP n t 40 0 0 0 (q.1 + 1) (z + q.2.length + 1)).bind fun r => if z + q.2.length + 1 + r.2.length < 128 then some (r.1, q.2 ++ ((-1063) :: (r.2 ++ [-1059]))) else none else none)
    else if z + q.2.length < 128 then some (q.1, q.2 ++ [-1059]) else none
def sTx (n : Nat) (t : Nat → Nat) : Nat → Nat → Nat → Option (List Int32)
  | 0, _, _ => none
  | g + 1, p, z => (sLn n t p z).bind fun q => if n ≤ q.1 then some q.2 else if yC n t q.1 = 59 then (sTx n t g (q.1 + 1) (z + q.2.length)).bind fun l => some (q.2 ++ l) else none
theorem sLnok {n : Nat} {t : Nat → Nat} {p z : Nat} {r : Nat × List Int32} {A : zM} (d : Nat) (h : sLn n t p z = some r) (hs : sSt n t A p z) : ∃ A', zgo false (d + 91) 84 0 [zr 8 0] [] A = some (some (zi 1), A') ∧ sOK n t A z A' r.1 r.2 := by
  unfold sLn at h
  cases hq : sP n t 40 0 0 0 p z with
  | none => rw [hq] at h; cases h
  | some q =>
    rw [hq] at h
    obtain ⟨A1, e1, ok1⟩ := (sPok n t 40).1 0 0 0 p z q A d (by omega) (by omega) hq hs
    have e1 : zgo false (d + 90) 85 0 [zr 8 0, zi 0, zi 0, zu, zu, zu] [] A = some (some (zi 1), A1) := e1
    have hc : yC n t q.1 ≤ 256 := yC_le hs.2.2.2.2.1 q.1
    have hS : zgo false (d + 90) 89 0 [zr 8 0] [] A1 = some (some (zi (yS (yC n t q.1))), A1) := S89y (d + 89) ok1.2.1.2.2.2 ok1.2.1.2.1 ok1.2.1.1
    have fin : ∀ (A2 : zM) (p2 z2 : Nat), sSt n t A2 p2 z2 → z2 < 128 → zgo false (d + 91) 84 48 [zr 8 0] [] A2 = some (some (zi 1), yEmA A2 z2 (-1059)) := by
      intro A2 p2 z2 s2 hz
      have e92 : zgo false (d + 90) 92 0 [zr 8 0, zi (-1059)] [] A2 = some (none, yEmA A2 z2 (-1059)) := S92y (d + 89) _ s2.2.2.1 hz
      rw [B84_48, e92, zbsome, zpu0, B84_55]
    have h : (if yC n t q.1 = 63 then (if z + q.2.length < 128 then (sP n t 40 0 0 0 (q.1 + 1) (z + q.2.length + 1)).bind fun r => if z + q.2.length + 1 + r.2.length < 128 then some (r.1, q.2 ++ ((-1063) :: (r.2 ++ [-1059]))) else none else none) else if z + q.2.length < 128 then some (q.1, q.2 ++ [-1059]) else none) = some r := h
    by_cases h63 : yC n t q.1 = 63
    · rw [if_pos h63] at h
      by_cases hz : z + q.2.length < 128
      · rw [if_pos hz] at h
        cases hw : sP n t 40 0 0 0 (q.1 + 1) (z + q.2.length + 1) with
        | none => rw [hw] at h; cases h
        | some w =>
          rw [hw] at h
          have h : (if z + q.2.length + 1 + w.2.length < 128 then some (w.1, q.2 ++ ((-1063) :: (w.2 ++ [-1059]))) else none) = some r := h
          by_cases hz2 : z + q.2.length + 1 + w.2.length < 128
          · rw [if_pos hz2] at h
            cases h
            have st := sOK_step ok1.2.1 (yC_lt (t := t) (by omega))
            have ok2 := sOK_emit (-1063) st.2.1
            obtain ⟨A3, e3, ok3⟩ := (sPok n t 40).1 0 0 0 (q.1 + 1) (z + q.2.length + 1) w _ d (by omega) (by omega) hw ok2.2.1
            have ok4 := sOK_emit (-1059) ok3.2.1
            have e92 : zgo false (d + 90) 92 0 [zr 8 0, zi (-1063)] [] (zsI A1 8 0 3 (nI (q.1 + 1))) = some (none, yEmA (zsI A1 8 0 3 (nI (q.1 + 1))) (z + q.2.length) (-1063)) := S92y (d + 89) _ st.2.1.2.2.1 hz
            refine ⟨yEmA A3 (z + q.2.length + 1 + w.2.length) (-1059), ?_, sOK_seq ok1 (sOK_seq (l1 := []) st (sOK_seq (l1 := [-1063]) ok2 (sOK_seq ok3 ok4)))⟩
            have e3 : zgo false (d + 90) 85 0 [zr 8 0, zi 0, zi 0, zu, zu, zu] [] (yEmA (zsI A1 8 0 3 (nI (q.1 + 1))) (z + q.2.length) (-1063)) = some (some (zi 1), A3) := e3
            rw [B84_0, e1, zbsome, zpu1, B84_6, if_neg (by decide), hS, zbsome, zpu1, B84_15, if_pos (by rw [yS63 hc]; exact h63), ok1.2.1.2.1, nI_1, e92, zbsome, zpu0, B84_37, e3, zbsome, zpu1, B84_43, if_neg (by decide)]
            exact fin A3 _ _ ok3.2.1 hz2
          · rw [if_neg hz2] at h
            cases h
      · rw [if_neg hz] at h
        cases h
    · rw [if_neg h63] at h
      by_cases hz : z + q.2.length < 128
      · rw [if_pos hz] at h
        cases h
        have ok2 := sOK_emit (-1059) ok1.2.1
        refine ⟨yEmA A1 (z + q.2.length) (-1059), ?_, sOK_seq ok1 ok2⟩
        rw [B84_0, e1, zbsome, zpu1, B84_6, if_neg (by decide), hS, zbsome, zpu1, B84_15, if_neg (by rw [yS63 hc]; exact h63)]
        exact fin A1 _ _ ok1.2.1 hz
      · rw [if_neg hz] at h
        cases h
theorem sTxok {n : Nat} {t : Nat → Nat} (d : Nat) : ∀ (g i p z : Nat) (l : List Int32) (A : zM), i + g ≤ 100 → sTx n t g p z = some l → sSt n t A p z → ∃ A' p', zgo false (d + 92) 83 12 [zr 8 0, zi (nI i)] [] A = some (some (zi 1), A') ∧ sOK n t A z A' p' l
  | 0, i, p, z, l, A, hi, h, hs => by cases h
  | g + 1, i, p, z, l, A, hi, h, hs => by
    unfold sTx at h
    cases hq : sLn n t p z with
    | none => rw [hq] at h; cases h
    | some q =>
      rw [hq] at h
      have h : (if n ≤ q.1 then some q.2 else if yC n t q.1 = 59 then (sTx n t g (q.1 + 1) (z + q.2.length)).bind fun l => some (q.2 ++ l) else none) = some l := h
      obtain ⟨A1, e1, ok1⟩ := sLnok d hq hs
      have i120 : ¬ (120 : Int32) < nI i := nI_nlt (a := 120) (by omega) (by omega)
      have hn := hs.2.2.2.1
      have k0 : zgo false (d + 92) 83 12 [zr 8 0, zi (nI i)] [] A = if nI q.1 < nI n then ((zgo false (d + 91) 89 0 [zr 8 0] [] A1).bind fun q => zgo false (d + 92) 83 44 [zr 8 0, zi (nI i)] (zpush q.1 []) q.2) else some (some (zi 1), A1) := by
        rw [B83_12, if_neg i120, e1, zbsome, zpu1, B83_22, if_neg (by decide), ok1.2.1.2.1, ok1.2.1.2.2.2.2.2.1]
      by_cases hn1 : n ≤ q.1
      · rw [if_pos hn1] at h
        cases h
        refine ⟨A1, q.1, ?_, ok1⟩
        rw [k0, if_neg (nI_nlt hn1 (by have := ok1.2.1.1; omega))]
      · rw [if_neg hn1] at h
        by_cases h59 : yC n t q.1 = 59
        · rw [if_pos h59] at h
          cases hw : sTx n t g (q.1 + 1) (z + q.2.length) with
          | none => rw [hw] at h; cases h
          | some w =>
            rw [hw] at h
            cases h
            have hc : yC n t q.1 ≤ 256 := yC_le hs.2.2.2.2.1 q.1
            have hS : zgo false (d + 91) 89 0 [zr 8 0] [] A1 = some (some (zi (yS (yC n t q.1))), A1) := S89y (d + 90) ok1.2.1.2.2.2 ok1.2.1.2.1 ok1.2.1.1
            have st := sOK_step ok1.2.1 (by omega)
            obtain ⟨A2, p2, e2, ok2⟩ := sTxok d g (i + 1) (q.1 + 1) (z + q.2.length) w _ (by omega) hw st.2.1
            refine ⟨A2, p2, ?_, sOK_seq ok1 (sOK_seq (l1 := []) st ok2)⟩
            rw [k0, if_pos (nI_lt (by omega) (by omega)), hS, zbsome, zpu1, B83_44, if_pos (by rw [yS59 hc]; exact h59), ok1.2.1.2.1, nI_1, nI_1]
            exact e2
        · rw [if_neg h59] at h
          cases h
/-- 'text', of a tape that is one -/
theorem sText (d u : Nat) (u2 u3 : zV) {n : Nat} {t : Nat → Nat} {M : zM} {T : List (List yOp × List yOp)} (hu : u < 4) (hT : yTpA M n t) (hl : sTx n t 100 0 0 = some (yFl T)) (hW : yWT T) (hN : yLn T) (hz : (yFl T).length ≤ 128) : ∃ C, zgo false (d + 94) 134 0 [zr 12 0, zi (nI u), u2, u3] [] M = some (some (zi 1), C) ∧ zgI C 8 0 2 = 0 ∧ zFo (ycF u) M C ∧ yCl C u T ∧ (u = 1 → ∀ v, 1 ≤ v → v ≤ 10 → zgI C 30 0 v = yTag T v) := by
  have fA : zFo yGa M (zsI (zsI M 8 0 3 0) 8 0 4 0) := zFo_sI (zFo_sI (zFo_refl _ M) ⟨rfl, Or.inl ⟨rfl, Or.inl rfl⟩⟩) ⟨rfl, Or.inl ⟨rfl, Or.inr rfl⟩⟩
  have s0 : sSt n t (zsI (zsI M 8 0 3 0) 8 0 4 0) 0 0 := ⟨Nat.zero_le _, rfl, rfl, yTpA_g hT fA⟩
  obtain ⟨A1, p1, e1, f1, s1, g1⟩ := sTxok (d + 1) 100 0 0 0 (yFl T) _ (by omega) hl s0
  have e1 : zgo false (d + 93) 83 12 [zr 8 0, zi 0] [] (zsI (zsI M 8 0 3 0) 8 0 4 0) = some (some (zi 1), A1) := by
    rw [show d + 93 = d + 1 + 92 by omega]
    exact e1
  have fA1 : zFo ycF0 M A1 := zFo_mono (zFo_trans fA (yGa_of f1)) (fun a b c q => by unfold yGa at q; unfold ycF0; omega)
  have b2 : zgI A1 8 0 4 = nI (yFl T).length := by
    have := s1.2.2.1
    rw [Nat.zero_add] at this
    exact this
  obtain ⟨A2, e3, f2, c2, tg⟩ := S187 (d + 87) u zu T A1 hu hW hN hz b2 g1
  have e3 : zgo false (d + 93) 187 0 [zr 12 0, zi (nI u), zu] [] A1 = some (none, A2) := e3
  have c1 : ¬ nI u < 0 := nI_pos (by omega)
  have c4 : nI u < 4 := nI_lt (b := 4) hu (by omega)
  refine ⟨zsI A2 8 0 2 0, ?_, rfl, zFo_sI (zFo_trans (zFo_mono fA1 (fun a b c q => Or.inl q)) (zFo_mono f2 (fun a b c q => Or.inr q))) (Or.inl ⟨rfl, Or.inl ⟨rfl, by omega, by omega⟩⟩), yCl_fr c2 (by rw [zgI_sI, if_neg (by omega)]) (fun s => by rw [zgI_sI, if_neg (by omega)]), fun q v v1 v2 => by rw [zgI_sI, if_neg (by omega)]; exact tg q v v1 v2⟩
  have e83 : zgo false (d + 93) 83 0 [zr 8 0, zu] [] M = some (some (zi 1), A1) := by
    rw [B83_0]
    exact e1
  rw [B134_0, if_neg c1, if_pos c4, e83, zbsome, zpu1, B134_18, if_neg (by decide), e3, zbsome, zpu0, B134_36, if_neg (by decide), B134_56]
/-! told byte by byte -/
def sPk (t : Nat → Nat) (i : Nat) : Nat → Int32
  | 0 => 0
  | k + 1 => sPk t i k ||| (nI (t (i + k)) <<< ((8 * nI k) &&& 31))
def sRow (kk N : Nat) (t : Nat → Nat) (M : zM) : Prop := (zat kk = 1 ∧ 17 ≤ kk ∧ (zka kk).2.1 = N ∧ N ≤ 100) ∧ ∀ s, s < N → zgI M kk 0 s = nI (t s)
theorem sTellIn (d kk N i m : Nat) {t : Nat → Nat} {M : zM} (hr : sRow kk N t M) (hm : i + m ≤ N) : ∀ (j k : Nat), k + j = m → zgo false (d + 1) 325 22 [zr 12 0, zr kk 0, zi (nI N), zi (nI i), zi (nI m), zi (sPk t i k), zi (nI k)] [] M = zgo false (d + 1) 325 22 [zr 12 0, zr kk 0, zi (nI N), zi (nI i), zi (nI m), zi (sPk t i m), zi (nI m)] [] M
  | 0, k, hk => by
    have hk : k = m := hk
    rw [hk]
  | j + 1, k, hk => by
    obtain ⟨⟨r1, r2, r3, r4⟩, r5⟩ := hr
    have ih := sTellIn d kk N i m ⟨⟨r1, r2, r3, r4⟩, r5⟩ hm j (k + 1) (by omega)
    have el : zlen M kk = N := by
      unfold zlen
      rw [zb_ne (show kk ≠ 16 by omega), cond_false, r3]
    have ed : zld M kk 0 (i + k) = nI (t (i + k)) := by
      unfold zld
      rw [zb_ne (show kk ≠ 16 by omega), zb_ne (show kk ≠ 15 by omega), cond_false, cond_false]
      exact r5 _ (by omega)
    rw [B325_22, if_neg (nI_ge (by omega) (by omega)), r1, nI_add, el, if_pos (zin_nI (by omega) (by omega)), nI_clamp (by omega), ed]
    show zgo false (d + 1) 325 46 _ [] M = _
    rw [B325_46, nI_1]
    exact ih
def sBy (t : Nat → Nat) (N : Nat) : Prop := ∀ i, i < N → ∀ k, k < (if N - i < 4 then N - i else 4) → yby (sPk t i (if N - i < 4 then N - i else 4)) k = nI (t (i + k))
theorem sTellL (d kk N : Nat) {t : Nat → Nat} (hb : sBy t N) (ht : ∀ s, s < N → t s < 256) : ∀ (g i : Nat) (M : zM) (u4 u5 u6 : zV), N ≤ i + 4 * g → i ≤ N + 3 → sRow kk N t M → zgI M 8 0 2 = nI (if i ≤ N then i else N) → (∀ s, s < N → s < i → zgI M 43 0 s = nI (t s)) → ∃ M', zgo false (d + 4) 325 2 [zr 12 0, zr kk 0, zi (nI N), zi (nI i), u4, u5, u6] [] M = some (some (zi 1), M') ∧ yTpA M' N t ∧ zFo (fun a b c => b = 0 ∧ (a = 43 ∨ (a = 8 ∧ c = 2))) M M' := by
  intro g
  induction g with
  | zero =>
    intro i M u4 u5 u6 hg hi hr h8 h43
    obtain ⟨⟨r1, r2, r3, r4⟩, r5⟩ := id hr
    have e8 : zgI M 8 0 2 = nI N := by
      rw [h8]
      by_cases c : i ≤ N
      · rw [if_pos c, show i = N by omega]
      · rw [if_neg c]
    refine ⟨M, ?_, ⟨by omega, ht, e8, fun s hs => h43 s hs (by omega)⟩, zFo_refl _ M⟩
    have e168 : zgo false (d + 3) 168 0 [zr 12 0, zi 1] [] M = some (some (zi (nI N)), M) := by
      rw [B168_0, if_neg (by decide), if_pos rfl, e8]
    rw [B325_2, if_pos (nI_le (by omega) (by omega)), e168, zbsome, zpu1, B325_80, if_pos rfl, B325_89]
    rfl
  | succ g ih =>
    intro i M u4 u5 u6 hg hi hr h8 h43
    obtain ⟨⟨r1, r2, r3, r4⟩, r5⟩ := id hr
    by_cases hN : N ≤ i
    · have e8 : zgI M 8 0 2 = nI N := by
        rw [h8]
        by_cases c : i ≤ N
        · rw [if_pos c, show i = N by omega]
        · rw [if_neg c]
      refine ⟨M, ?_, ⟨by omega, ht, e8, fun s hs => h43 s hs (by omega)⟩, zFo_refl _ M⟩
      have e168 : zgo false (d + 3) 168 0 [zr 12 0, zi 1] [] M = some (some (zi (nI N)), M) := by
        rw [B168_0, if_neg (by decide), if_pos rfl, e8]
      rw [B325_2, if_pos (nI_le (by omega) (by omega)), e168, zbsome, zpu1, B325_80, if_pos rfl, B325_89]
      rfl
    · rw [if_pos (by omega)] at h8
      obtain ⟨m, hm⟩ : ∃ m, m = if N - i < 4 then N - i else 4 := ⟨_, rfl⟩
      have hm1 : 1 ≤ m ∧ m ≤ 4 ∧ i + m ≤ N := by
        by_cases c : N - i < 4
        · rw [if_pos c] at hm; omega
        · rw [if_neg c] at hm; omega
      have em : (if (nI N - nI i) < (4 : Int32) then (nI N - nI i) else (4 : Int32)) = nI m := by
        rw [pk_sub (by omega), hm]
        by_cases c : N - i < 4
        · rw [if_pos c, if_pos (show nI (N - i) < 4 from nI_lt (b := 4) c (by omega))]
        · rw [if_neg c, if_neg (show ¬ nI (N - i) < 4 from nI_nlt (b := 4) (by omega) (by omega))]
          rfl
      have k1 := sTellIn (d + 3) kk N i m hr hm1.2.2 m 0 (by omega)
      obtain ⟨M1, e1, f1, v2, v⟩ := L82 (d + 1) i m (sPk t i m) hm1.2.1 (by omega) m 0 M (by omega) h8
      have e82 : zgo false (d + 2) 82 0 [zr 8 0, zi (nI m), zi (sPk t i m), zu] [] M = some (some (zi 1), M1) := by
        rw [B82_0, h8, nI_add, if_pos (show nI (i + m) ≤ 120 from nI_le (b := 120) (by omega) (by omega))]
        exact e1
      have e133 : zgo false (d + 3) 133 0 [zr 12 0, zi (nI m), zi (sPk t i m)] [] M = some (some (zi (nI (i + m))), M1) := by
        rw [B133_0, if_neg (show ¬ nI m < 1 from nI_nlt (b := 1) (by omega) (by omega)), if_pos (show nI m ≤ 4 from nI_le (b := 4) (by omega) (by omega)), e82, zbsome, zpu1, B133_21, if_neg (by decide), B133_36, v2]
      have hr1 : sRow kk N t M1 := ⟨⟨r1, r2, r3, r4⟩, fun s hs => by
        rw [(f1 kk 0 s (by
          intro q
          rcases q.2 with rfl | ⟨rfl, -⟩
          · have := r3; rw [show (zka 43).2.1 = 120 from rfl] at this; omega
          · omega)).1]
        exact r5 s hs⟩
      obtain ⟨M', e, tp, f⟩ := ih (i + 4) M1 (zi (nI m)) (zi (sPk t i m)) (zi (nI m)) (by omega) (by omega) hr1 (by
        rw [v2]
        by_cases c : i + 4 ≤ N
        · rw [if_pos c]
          rw [if_neg (by omega)] at hm
          rw [hm]
        · rw [if_neg c]
          rw [if_pos (by omega)] at hm
          congr 1
          omega) (fun s hs hs4 => by
        rw [v s]
        by_cases c : i + 0 ≤ s ∧ s < i + m
        · rw [if_pos c]
          have := hb i (by omega) (s - i) (by rw [← hm]; omega)
          rw [← hm, show i + (s - i) = s by omega] at this
          exact this
        · rw [if_neg c]
          refine h43 s hs ?_
          by_cases c2 : N - i < 4
          · rw [if_pos c2] at hm; omega
          · rw [if_neg c2] at hm; omega)
      refine ⟨M', ?_, tp, zFo_trans f1 f⟩
      rw [B325_2, if_neg (nI_ge (by omega) (by omega)), em]
      show zgo false (d + 3 + 1) 325 22 [zr 12 0, zr kk 0, zi (nI N), zi (nI i), zi (nI m), zi (sPk t i 0), zi (nI 0)] [] M = _
      rw [k1, B325_22, if_pos (nI_le (Nat.le_refl _) (by omega)), e133, zbsome, zpu1]
      show zgo false (d + 4) 325 60 [zr 12 0, zr kk 0, zi (nI N), zi (nI i), zi (nI m), zi (sPk t i m), zi (nI m)] [zi (nI (i + m))] M1 = _
      rw [B325_60, nI_add, if_pos rfl, show (4 : Int32) = nI 4 from rfl, nI_add]
      exact e
theorem sTell (d kk N : Nat) {t : Nat → Nat} {M : zM} (hb : sBy t N) (ht : ∀ s, s < N → t s < 256) (hr : sRow kk N t M) (h8 : zgI M 8 0 2 = 0) : ∃ M', zgo false (d + 4) 325 0 [zr 12 0, zr kk 0, zi (nI N), zu, zu, zu, zu] [] M = some (some (zi 1), M') ∧ yTpA M' N t ∧ zFo (fun a b c => b = 0 ∧ (a = 43 ∨ (a = 8 ∧ c = 2))) M M' := by
  obtain ⟨M', e, tp, f⟩ := sTellL d kk N hb ht N 0 M zu zu zu (by omega) (by omega) hr (by rw [if_pos (Nat.zero_le _)]; exact h8) (fun s _ h => absurd h (Nat.not_lt_zero s))
  refine ⟨M', ?_, tp, f⟩
  rw [B325_0]
  exact e
