/-! ===== the constructors: what is built; by program (wip/whole/cgctor.py) ===== -/
abbrev zOp : Type := Nat × Nat × Nat × Nat × (Nat × Nat) × Int32
/-- a row of ints put in whole -/
def zsA (M : zM) (k i : Nat) (f : Nat → Int32) : zM := (fun k' i' s' => if k' = k ∧ i' = i then f s' else M.1 k' i' s', M.2)
def zupd (f : Nat → Int32) (j : Nat) (v : Int32) : Nat → Int32 := fun s => if s = j then v else f s
def jWith (h v : Int32) : Int32 :=
  if (1000 ≤ h ∨ v = 1) ∧ (if 1000 ≤ h then h - 1000 - 10 else h) + v ≤ 11 then 1010 + ((if 1000 ≤ h then h - 1000 - 10 else h) + v) else (if 1000 ≤ h then h - 1000 - 10 else h) + v
def jPlace (h : Int32) : Int32 := if 1000 ≤ h then h - 1000 + 32 else if 22 < h then 22 else h
/-- one turn of the table of hands behind a card -/
def zaft1 (s v : Nat) (f : Nat → Int32) : Nat → Int32 :=
  if s ≤ 11 then zupd (zupd f (s * 11 + v) (jPlace (jWith (nI s) (nI v)))) ((42 + s) * 11 + v) (jPlace (jWith (nI (1010 + s)) (nI v))) else zupd f (s * 11 + v) (jPlace (jWith (nI s) (nI v)))
def zaftv (s : Nat) : Nat → Nat → (Nat → Int32) → (Nat → Int32)
  | 0, _, f => f
  | n + 1, v, f => zaftv s n (v + 1) (zaft1 s v f)
def zafts : Nat → Nat → (Nat → Int32) → (Nat → Int32)
  | 0, _, f => f
  | n + 1, s, f => zafts n (s + 1) (zaftv s 10 1 f)
def zaft (f : Nat → Int32) : Nat → Int32 := zafts 22 0 f
def zdo1 (M : zM) (q : zOp) : zM := match q.1 with
  | 0 => znew M q.2.1 q.2.2.1
  | 1 => zsR M q.2.1 q.2.2.1 q.2.2.2.1 q.2.2.2.2.1
  | 2 => zsI M q.2.1 q.2.2.1 q.2.2.2.1 q.2.2.2.2.2
  | _ => zsA M q.2.1 q.2.2.1 (zaft (M.1 q.2.1 q.2.2.1))
def zdo (l : List zOp) (M : zM) : zM := l.foldl zdo1 M
theorem zdo_app (a b : List zOp) (M : zM) : zdo b (zdo a M) = zdo (a ++ b) M := by
  unfold zdo
  rw [List.foldl_append]
def zcnt (l : List zOp) : Nat := (l.filter fun q => Nat.beq q.1 0).length
theorem zdo_nx : ∀ (l : List zOp) (M : zM), znx (zdo l M) = znx M + zcnt l
  | [], M => rfl
  | q :: l, M => by
    show znx (zdo l (zdo1 M q)) = _
    rw [zdo_nx l (zdo1 M q)]
    obtain ⟨t, q⟩ := q
    match t with
    | 0 => show znx M + 1 + zcnt l = znx M + (zcnt l + 1)
           omega
    | 1 => rfl
    | 2 => rfl
    | t + 3 => rfl
/-- the operation leaves this reference as it was -/
def zunR (k i s : Nat) (q : zOp) : Bool := match q.1 with
  | 0 => !(Nat.beq k q.2.1 && Nat.beq i q.2.2.1)
  | 1 => !(Nat.beq k q.2.1 && (Nat.beq i q.2.2.1 && Nat.beq s q.2.2.2.1))
  | _ => true
theorem zdo_R {k i s : Nat} : ∀ (l : List zOp) (M : zM), l.all (zunR k i s) = true → zgR (zdo l M) k i s = zgR M k i s
  | [], M, _ => rfl
  | q :: l, M, h => by
    rw [List.all_cons, Bool.and_eq_true] at h
    show zgR (zdo l (zdo1 M q)) k i s = _
    rw [zdo_R l (zdo1 M q) h.2]
    obtain ⟨t, a, b, c, d⟩ := q
    have h1 := h.1
    match t, h1 with
    | 0, h1 =>
      have h1 : (!(Nat.beq k a && Nat.beq i b)) = true := h1
      show (if k = a ∧ i = b then (0, 0) else M.2.2.1 k i s) = M.2.2.1 k i s
      rw [if_neg]
      rintro ⟨rfl, rfl⟩
      rw [Nat.beq_refl, Nat.beq_refl] at h1
      cases h1
    | 1, h1 =>
      have h1 : (!(Nat.beq k a && (Nat.beq i b && Nat.beq s c))) = true := h1
      show (if k = a ∧ i = b ∧ s = c then d.1 else M.2.2.1 k i s) = M.2.2.1 k i s
      rw [if_neg]
      rintro ⟨rfl, rfl, rfl⟩
      rw [Nat.beq_refl, Nat.beq_refl, Nat.beq_refl] at h1
      cases h1
    | 2, _ => rfl
    | t + 3, _ => rfl
theorem zbind_of {q : Option zV × zM} {f : Option zV × zM → Option (Option zV × zM)} {r x : Option (Option zV × zM)} (h : x = some q) (k : f q = r) : x.bind f = r := by
  rw [h]
  exact k
theorem S_first (b : Bool) (d : Nat) (x : Int32) (M : zM) : zgo b d 176 0 [zi x] [] M = some (some (zi (if x = 1 then 150 else if x = 3 then 17 else if x = 2 then 1 else 0)), M) := by
  rw [B176_0]
  by_cases h1 : x = 1
  · rw [if_pos h1, if_pos h1, B176_31]
  rw [if_neg h1, if_neg h1]
  by_cases h2 : x = 3
  · rw [if_pos h2, if_pos h2, B176_31]
  rw [if_neg h2, if_neg h2]
  by_cases h3 : x = 2
  · rw [if_pos h3, if_pos h3, B176_31]
  rw [if_neg h3, if_neg h3, B176_31]
theorem S_with (b : Bool) (d : Nat) (h v : Int32) (u2 u3 : zV) (M : zM) : zgo b d 172 0 [zi h, zi v, u2, u3] [] M = some (some (zi (jWith h v)), M) := by
  rw [B172_0]
  by_cases h1 : h < 1000
  · have n1 : ¬ (1000 : Int32) ≤ h := by
      rw [zI_lt] at h1
      rw [zI_le]
      omega
    rw [if_pos h1, B172_12, if_pos rfl, B172_29, if_pos rfl]
    unfold jWith
    rw [if_neg n1]
    by_cases hv : v = 1
    · rw [if_pos hv, B172_41]
      by_cases hs : 11 < h + v
      · have n2 : ¬ h + v ≤ 11 := by
          rw [zI_lt] at hs
          rw [zI_le]
          omega
        rw [if_pos hs, B172_55, B172_56, if_neg (fun q => n2 q.2)]
      · have n2 : h + v ≤ 11 := by
          rw [zI_lt] at hs
          rw [zI_le]
          omega
        rw [if_neg hs, B172_56, if_pos ⟨Or.inr hv, n2⟩]
    · rw [if_neg hv, B172_55, B172_56, if_neg]
      rintro ⟨q | q, -⟩
      · exact n1 q
      · exact hv q
  · have n1 : (1000 : Int32) ≤ h := by
      rw [zI_lt] at h1
      rw [zI_le]
      omega
    rw [if_neg h1, B172_12, if_neg (by decide), B172_29, if_neg (by decide), B172_41]
    unfold jWith
    rw [if_pos n1]
    by_cases hs : 11 < h - 1000 - 10 + v
    · have n2 : ¬ h - 1000 - 10 + v ≤ 11 := by
        rw [zI_lt] at hs
        rw [zI_le]
        omega
      rw [if_pos hs, B172_55, B172_56, if_neg (fun q => n2 q.2)]
    · have n2 : h - 1000 - 10 + v ≤ 11 := by
        rw [zI_lt] at hs
        rw [zI_le]
        omega
      rw [if_neg hs, B172_56, if_pos ⟨Or.inl n1, n2⟩]
theorem S_place (b : Bool) (d : Nat) (h : Int32) (M : zM) : zgo b d 74 0 [zi h] [] M = some (some (zi (jPlace h)), M) := by
  rw [B74_0]
  unfold jPlace
  by_cases h1 : h < 1000
  · have n1 : ¬ (1000 : Int32) ≤ h := by
      rw [zI_lt] at h1
      rw [zI_le]
      omega
    rw [if_pos h1, if_neg n1]
    by_cases h2 : h ≤ 22
    · have n2 : ¬ 22 < h := by
        rw [zI_le] at h2
        rw [zI_lt]
        omega
      rw [if_pos h2, if_neg n2, B74_28]
    · have n2 : 22 < h := by
        rw [zI_le] at h2
        rw [zI_lt]
        omega
      rw [if_neg h2, if_pos n2, B74_28]
  · have n1 : (1000 : Int32) ≤ h := by
      rw [zI_lt] at h1
      rw [zI_le]
      omega
    rw [if_neg h1, if_pos n1]
theorem zsI_sA (M : zM) (k i s : Nat) (v : Int32) (f : Nat → Int32) : zsI (zsA M k i f) k i s v = zsA M k i (zupd f s v) := by
  unfold zsI zsA
  refine congrArg (fun g => (g, M.2)) ?_
  funext k1 i1 s1
  show (if k1 = k ∧ i1 = i ∧ s1 = s then v else if k1 = k ∧ i1 = i then f s1 else M.1 k1 i1 s1) = if k1 = k ∧ i1 = i then zupd f s v s1 else M.1 k1 i1 s1
  by_cases h : k1 = k ∧ i1 = i
  · rw [if_pos h]
    unfold zupd
    by_cases hs : s1 = s
    · rw [if_pos ⟨h.1, h.2, hs⟩, if_pos h, if_pos hs]
    · rw [if_neg (fun q => hs q.2.2), if_pos h, if_neg hs]
  · rw [if_neg (fun q => h ⟨q.1, q.2.1⟩), if_neg h, if_neg h]
theorem zsA_self (M : zM) (k i : Nat) : zsA M k i (M.1 k i) = M := by
  unfold zsA
  have e : (fun k1 i1 s1 => if k1 = k ∧ i1 = i then M.1 k i s1 else M.1 k1 i1 s1) = M.1 := by
    funext k1 i1 s1
    by_cases h : k1 = k ∧ i1 = i
    · rw [if_pos h, h.1, h.2]
    · rw [if_neg h]
  rw [e]
theorem zin_nI {a n : Nat} (h : a < n) (hn : n < 2 ^ 31) : zin (nI a) n = true := by
  rw [zin_iff, nI_toInt (by omega)]
  omega
theorem nI_mul (a b : Nat) : nI a * nI b = nI (a * b) := (Int32.ofNat_mul a b).symm
theorem S_setA (b : Bool) (d k i a n : Nat) (v : Int32) (M : zM) (f : Nat → Int32) (hk : 17 ≤ k) (ht : zat k = 1) (hl : zlen M k = n) (hn : n < 2 ^ 31) (ha : a < n) : zgo b d 170 0 [zr k i, zi (nI a), zi v] [] (zsA M k i f) = some (none, zsA M k i (zupd f a v)) := by
  have hl2 : zlen (zsA M k i f) k = n := hl
  rw [S_set b d k i (nI a) v _ hk ht (by rw [hl2]; exact hn), hl2, if_pos (zin_nI ha hn), nI_clamp (by omega), zsI_sA]
theorem jP_soft : ∀ s, s < 12 → jPlace (1010 + nI s) = nI (42 + s) ∧ 1010 + nI s = nI (1010 + s) := by decide +kernel
theorem O_one (d i s v : Nat) (u3 : zV) (M : zM) (f : Nat → Int32) (hr : zgR M 7 i 2 = (35, i)) (hs : s < 22) (hv1 : 1 ≤ v) (hv : v < 11) : ∃ u4, zgo true (d + 1) 58 96 [zr 7 i, zi (nI s), zi (nI v), u3] [] (zsA M 35 i f) = zgo true (d + 1) 58 96 [zr 7 i, zi (nI s), zi (nI (v + 1)), u4] [] (zsA M 35 i (zaft1 s v f)) := by
  refine ⟨zi (1010 + nI s), ?_⟩
  have n1 : ¬ (10 : Int32) < nI v := by
    rw [show (10 : Int32) = nI 10 from rfl, nI_ltI (by omega) (by omega)]
    omega
  have hl : zlen M 35 = 704 := rfl
  have hg : ∀ f, zgR (zsA M 35 i f) 7 i 2 = (35, i) := fun f => hr
  have e1 : nI s * 11 + nI v = nI (s * 11 + v) := by
    rw [show (11 : Int32) = nI 11 from rfl, nI_mul, nI_add]
  rw [B58_96, if_neg n1]
  refine zbind_of (S_with true d _ _ _ _ _) ?_
  show zgo true (d + 1) 58 117 [zr 7 i, zi (nI s), zi (nI v), u3] [zi (jWith (nI s) (nI v)), zi (nI s * 11 + nI v), zp (zgR (zsA M 35 i f) 7 i 2)] (zsA M 35 i f) = _
  rw [hg, e1]
  refine (B58_117 d i (nI s) (nI v) u3 i _ _ _).trans ?_
  refine zbind_of (S_place true d _ _) ?_
  refine (B58_120 d i (nI s) (nI v) u3 i _ _ _).trans ?_
  refine zbind_of (S_setA true d 35 i (s * 11 + v) 704 _ M f (by decide) rfl hl (by decide) (by omega)) ?_
  refine (B58_123 d i (nI s) (nI v) u3 _).trans ?_
  unfold zaft1
  by_cases h11 : s ≤ 11
  · have n2 : ¬ (11 : Int32) < nI s := by
      rw [show (11 : Int32) = nI 11 from rfl, nI_ltI (by omega) (by omega)]
      omega
    obtain ⟨j1, j2⟩ := jP_soft s (by omega)
    rw [if_neg n2, if_pos h11]
    refine zbind_of (S_place true d _ _) ?_
    rw [j1]
    show zgo true (d + 1) 58 143 [zr 7 i, zi (nI s), zi (nI v), zi (1010 + nI s)] [zi (nI (42 + s)), zp (zgR (zsA M 35 i _) 7 i 2)] (zsA M 35 i _) = _
    rw [hg]
    refine (B58_143 d i (nI s) (nI v) (1010 + nI s) i _ _).trans ?_
    refine zbind_of (S_with true d _ _ _ _ _) ?_
    refine (B58_153 d i (nI s) (nI v) (1010 + nI s) i _ _ _).trans ?_
    refine zbind_of (S_place true d _ _) ?_
    refine (B58_156 d i (nI s) (nI v) (1010 + nI s) i _ _ _).trans ?_
    have e2 : nI (42 + s) * 11 + nI v = nI ((42 + s) * 11 + v) := by
      rw [show (11 : Int32) = nI 11 from rfl, nI_mul, nI_add]
    rw [e2]
    refine zbind_of (S_setA true d 35 i ((42 + s) * 11 + v) 704 _ M _ (by decide) rfl hl (by decide) (by omega)) ?_
    refine (B58_159 (d + 1) i (nI s) (nI v) (1010 + nI s) _).trans ?_
    rw [nI_1, j2]
  · have n2 : (11 : Int32) < nI s := by
      rw [show (11 : Int32) = nI 11 from rfl, nI_ltI (by omega) (by omega)]
      omega
    rw [if_pos n2, if_neg h11]
    refine (B58_159 (d + 1) i (nI s) (nI v) (1010 + nI s) _).trans ?_
    rw [nI_1]
theorem O_in (d i s : Nat) (M : zM) (hr : zgR M 7 i 2 = (35, i)) (hs : s < 22) : ∀ (n v : Nat) (u3 : zV) (f : Nat → Int32), 1 ≤ v → v + n = 11 → ∃ u4, zgo true (d + 1) 58 96 [zr 7 i, zi (nI s), zi (nI v), u3] [] (zsA M 35 i f) = zgo true (d + 1) 58 88 [zr 7 i, zi (nI (s + 1)), zi (nI 11), u4] [] (zsA M 35 i (zaftv s n v f))
  | 0, v, u3, f, h1, h => by
    have hv : v = 11 := by omega
    subst hv
    refine ⟨u3, ?_⟩
    rw [B58_96, if_pos (by decide), nI_1]
    rfl
  | n + 1, v, u3, f, h1, h => by
    obtain ⟨u4, e⟩ := O_one d i s v u3 M f hr hs h1 (by omega)
    obtain ⟨u5, e2⟩ := O_in d i s M hr hs n (v + 1) u4 (zaft1 s v f) (by omega) (by omega)
    exact ⟨u5, e.trans e2⟩
theorem O_out (d i : Nat) (M : zM) (hr : zgR M 7 i 2 = (35, i)) : ∀ (n s : Nat) (u2 u3 : zV) (f : Nat → Int32), s + n = 22 → zgo true (d + 1) 58 88 [zr 7 i, zi (nI s), u2, u3] [] (zsA M 35 i f) = some (none, zsA M 35 i (zafts n s f))
  | 0, s, u2, u3, f, h => by
    have hs : s = 22 := by omega
    subst hs
    rw [B58_88, if_pos (by decide)]
    rfl
  | n + 1, s, u2, u3, f, h => by
    have n1 : ¬ (21 : Int32) < nI s := by
      rw [show (21 : Int32) = nI 21 from rfl, nI_ltI (by omega) (by omega)]
      omega
    rw [B58_88, if_neg n1]
    obtain ⟨u4, e⟩ := O_in d i s M hr (by omega) 10 1 u3 f (by omega) (by omega)
    exact e.trans (O_out d i M hr n (s + 1) _ u4 _ (by omega))
theorem O_loop (d i : Nat) (M : zM) (hr : zgR M 7 i 2 = (35, i)) : zgo true (d + 1) 58 88 [zr 7 i, zi 0, zu, zu] [] M = some (none, zsA M 35 i (zaft (M.1 35 i))) := by
  have h := O_out d i M hr 22 0 zu zu (M.1 35 i) rfl
  rw [zsA_self] at h
  exact h

