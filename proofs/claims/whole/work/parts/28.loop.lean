/-! ===== the law's loop, out of the calls; by program (wip/whole/cgloop.py) ===== -/
/-- the class's call, then the model's: equal answers, and what stands between them holds again -/
def zPr (R R' : zM → Prop) (D mc mm : Nat) (as bs : List zV) : Prop := ∀ M, R M → ∃ (x : Int32) (M1 M2 : zM), zgo false D mc 0 as [] M = some (some (zi x), M1) ∧ zgo false D mm 0 bs [] M1 = some (some (zi x), M2) ∧ R' M2
def zPl (R R' : zM → Prop) (D mc mm : Nat) (as bs : List zV) : Prop := ∀ M, R M → ∃ (x : Int64) (M1 M2 : zM), zgo false D mc 0 as [] M = some (some (zl x), M1) ∧ zgo false D mm 0 bs [] M1 = some (some (zl x), M2) ∧ R' M2
def zC0 (R R' : zM → Prop) (D : Nat) : Prop := ∀ (x0 : Int32) (x1 : Int32), zPr R R' D 130 200 [zr 12 0, zi x0, zi x1] [zr 13 0, zi x0, zi x1, zu]
def zC1 (R R' : zM → Prop) (D : Nat) : Prop := ∀ (x0 : Int32), zPr R R' D 131 202 [zr 12 0, zi x0] [zr 13 0, zi x0]
def zC2 (R R' : zM → Prop) (D : Nat) : Prop := ∀ (x0 : Int32) (x1 : Int32), zPr R R' D 132 208 [zr 12 0, zi x0, zi x1, zu] [zr 13 0, zi x0, zi x1]
def zC3 (R R' : zM → Prop) (D : Nat) : Prop := ∀ (x0 : Int32) (x1 : Int32), zPr R R' D 133 210 [zr 12 0, zi x0, zi x1] [zr 13 0, zi x0, zi x1, zu]
def zC4 (R R' : zM → Prop) (D : Nat) : Prop := ∀ (x0 : Int32), zPr R R' D 134 224 [zr 12 0, zi x0, zu, zu] [zr 13 0, zi x0, zu]
def zC5 (R R' : zM → Prop) (D : Nat) : Prop := ∀ (x0 : Int32), zPr R R' D 135 230 [zr 12 0, zi x0] [zr 13 0, zi x0]
def zC6 (R R' : zM → Prop) (D : Nat) : Prop := ∀ (x0 : Int32) (x1 : Int32) (x2 : Int32), zPr R R' D 136 234 [zr 12 0, zi x0, zi x1, zi x2, zu] [zr 13 0, zi x0, zi x1, zi x2]
def zC7 (R R' : zM → Prop) (D : Nat) : Prop := ∀ (x0 : Int32) (x1 : Int32), zPr R R' D 137 236 [zr 12 0, zi x0, zi x1, zu] [zr 13 0, zi x0, zi x1]
def zC8 (R R' : zM → Prop) (D : Nat) : Prop := ∀ (x0 : Int32) (x1 : Int32), zPr R R' D 138 237 [zr 12 0, zi x0, zi x1, zu, zu] [zr 13 0, zi x0, zi x1]
def zC9 (R R' : zM → Prop) (D : Nat) : Prop := ∀ (x0 : Int32), zPr R R' D 139 209 [zr 12 0, zi x0, zu] [zr 13 0, zi x0]
def zC10 (R R' : zM → Prop) (D : Nat) : Prop := ∀ (x0 : Int32) (x1 : Int32), zPr R R' D 140 273 [zr 12 0, zi x0, zi x1, zu, zu, zu, zu] [zr 13 0, zi x0, zi x1, zu]
def zC11 (R R' : zM → Prop) (D : Nat) : Prop := ∀ (x0 : Int32) (x1 : Int32), zPr R R' D 141 274 [zr 12 0, zi x0, zi x1, zu] [zr 13 0, zi x0, zi x1]
def zC12 (R R' : zM → Prop) (D : Nat) : Prop := ∀ (x0 : Int32) (x1 : Int32) (x2 : Int32), zPr R R' D 142 275 [zr 12 0, zi x0, zi x1, zi x2, zu, zu] [zr 13 0, zi x0, zi x1, zi x2, zu]
def zC13 (R R' : zM → Prop) (D : Nat) : Prop := ∀ (x0 : Int32) (x1 : Int32), zPr R R' D 143 251 [zr 12 0, zi x0, zi x1] [zr 13 0, zi x0, zi x1]
def zC14 (R R' : zM → Prop) (D : Nat) : Prop := ∀ (x0 : Int32) (x1 : Int32) (x2 : Int32), zPr R R' D 144 254 [zr 12 0, zi x0, zi x1, zi x2] [zr 13 0, zi x0, zi x1, zi x2]
def zC15 (R R' : zM → Prop) (D : Nat) : Prop := ∀ (x0 : Int32) (x1 : Int32) (x2 : Int32), zPr R R' D 145 255 [zr 12 0, zi x0, zi x1, zi x2] [zr 13 0, zi x0, zi x1, zi x2]
def zC16 (R R' : zM → Prop) (D : Nat) : Prop := zPr R R' D 146 257 [zr 12 0] [zr 13 0]
def zC17 (R R' : zM → Prop) (D : Nat) : Prop := ∀ (x0 : Int32) (x1 : Int32) (x2 : Int32), zPr R R' D 147 258 [zr 12 0, zi x0, zi x1, zi x2] [zr 13 0, zi x0, zi x1, zi x2, zu, zu, zu, zu, zu, zu, zu, zu]
def zC18 (R R' : zM → Prop) (D : Nat) : Prop := ∀ (x0 : Int32), zPr R R' D 148 260 [zr 12 0, zi x0, zu, zu, zu] [zr 13 0, zi x0, zu, zu, zu, zu, zu]
def zC19 (R R' : zM → Prop) (D : Nat) : Prop := zPr R R' D 149 276 [zr 12 0, zu, zu, zu] [zr 13 0, zu, zu, zu, zu, zu]
def zC20 (R R' : zM → Prop) (D : Nat) : Prop := ∀ (x0 : Int32) (x1 : Int32) (x2 : Int32) (x3 : Int32), zPr R R' D 150 281 [zr 12 0, zi x0, zi x1, zi x2, zi x3, zu, zu, zu, zu, zu] [zr 13 0, zi x0, zi x1, zi x2, zi x3]
def zC21 (R R' : zM → Prop) (D : Nat) : Prop := ∀ (x0 : Int32), zPr R R' D 151 282 [zr 12 0, zi x0] [zr 13 0, zi x0]
def zC22 (R R' : zM → Prop) (D : Nat) : Prop := zPr R R' D 152 283 [zr 12 0, zu] [zr 13 0, zu]
def zC23 (R R' : zM → Prop) (D : Nat) : Prop := ∀ (x0 : Int32) (x1 : Int32), zPr R R' D 153 286 [zr 12 0, zi x0, zi x1] [zr 13 0, zi x0, zi x1, zu]
def zC24 (R R' : zM → Prop) (D : Nat) : Prop := ∀ (x0 : Int32) (x1 : Int32), zPr R R' D 154 287 [zr 12 0, zi x0, zi x1, zu, zu] [zr 13 0, zi x0, zi x1, zu, zu, zu]
def zC25 (R R' : zM → Prop) (D : Nat) : Prop := ∀ (x0 : Int32), zPr R R' D 155 288 [zr 12 0, zi x0] [zr 13 0, zi x0]
def zC26 (R R' : zM → Prop) (D : Nat) : Prop := ∀ (x0 : Int32), zPr R R' D 156 289 [zr 12 0, zi x0, zu, zu, zu] [zr 13 0, zi x0, zu, zu, zu, zu]
def zC27 (R R' : zM → Prop) (D : Nat) : Prop := zPr R R' D 157 277 [zr 12 0, zu, zu, zu] [zr 13 0, zu, zu]
def zC28 (R R' : zM → Prop) (D : Nat) : Prop := zPr R R' D 158 205 [zr 12 0] [zr 13 0]
def zC29 (R R' : zM → Prop) (D : Nat) : Prop := zPr R R' D 159 206 [zr 12 0] [zr 13 0]
def zC30 (R R' : zM → Prop) (D : Nat) : Prop := ∀ (x0 : Int32) (x1 : Int32) (x2 : Int32), zPr R R' D 160 302 [zr 12 0, zi x0, zi x1, zi x2, zu] [zr 13 0, zi x0, zi x1, zi x2]
def zC31 (R R' : zM → Prop) (D : Nat) : Prop := ∀ (x0 : Int32), zPr R R' D 161 303 [zr 12 0, zi x0] [zr 13 0, zi x0]
def zC32 (R R' : zM → Prop) (D : Nat) : Prop := ∀ (x0 : Int32) (x1 : Int32), zPr R R' D 162 306 [zr 12 0, zi x0, zi x1, zu] [zr 13 0, zi x0, zi x1]
def zC33 (R R' : zM → Prop) (D : Nat) : Prop := ∀ (x0 : Int32) (x1 : Int32) (x2 : Int32), zPr R R' D 163 307 [zr 12 0, zi x0, zi x1, zi x2, zu] [zr 13 0, zi x0, zi x1, zi x2, zu]
def zC34 (R R' : zM → Prop) (D : Nat) : Prop := ∀ (x0 : Int32) (x1 : Int32) (x2 : Int64), zPr R R' D 164 309 [zr 12 0, zi x0, zi x1, zl x2, zu, zu, zu] [zr 13 0, zi x0, zi x1, zl x2, zu, zu, zu]
def zC35 (R R' : zM → Prop) (D : Nat) : Prop := ∀ (x0 : Int32) (x1 : Int32), zPl R R' D 165 310 [zr 12 0, zi x0, zi x1, zu] [zr 13 0, zi x0, zi x1]
def zC36 (R R' : zM → Prop) (D : Nat) : Prop := ∀ (x0 : Int32) (x1 : Int32) (x2 : Int32) (x3 : Int32) (x4 : Int32), zPr R R' D 166 311 [zr 12 0, zi x0, zi x1, zi x2, zi x3, zi x4, zu, zu] [zr 13 0, zi x0, zi x1, zi x2, zi x3, zi x4, zu]
def zC37 (R R' : zM → Prop) (D : Nat) : Prop := ∀ (x0 : Int32) (x1 : Int32), zPr R R' D 167 312 [zr 12 0, zi x0, zi x1, zu, zu] [zr 13 0, zi x0, zi x1]
def zC38 (R R' : zM → Prop) (D : Nat) : Prop := ∀ (x0 : Int32), zPr R R' D 168 304 [zr 12 0, zi x0] [zr 13 0, zi x0]
def zCalls (R R' : zM → Prop) (D : Nat) : Prop := zC0 R R' D ∧ zC1 R R' D ∧ zC2 R R' D ∧ zC3 R R' D ∧ zC4 R R' D ∧ zC5 R R' D ∧ zC6 R R' D ∧ zC7 R R' D ∧ zC8 R R' D ∧ zC9 R R' D ∧ zC10 R R' D ∧ zC11 R R' D ∧ zC12 R R' D ∧ zC13 R R' D ∧ zC14 R R' D ∧ zC15 R R' D ∧ zC16 R R' D ∧ zC17 R R' D ∧ zC18 R R' D ∧ zC19 R R' D ∧ zC20 R R' D ∧ zC21 R R' D ∧ zC22 R R' D ∧ zC23 R R' D ∧ zC24 R R' D ∧ zC25 R R' D ∧ zC26 R R' D ∧ zC27 R R' D ∧ zC28 R R' D ∧ zC29 R R' D ∧ zC30 R R' D ∧ zC31 R R' D ∧ zC32 R R' D ∧ zC33 R R' D ∧ zC34 R R' D ∧ zC35 R R' D ∧ zC36 R R' D ∧ zC37 R R' D ∧ zC38 R R' D
theorem zcmp_self (x : Int64) : lg_cmp x x = 0 := by
  unfold lg_cmp
  rw [if_neg (fun h => Int64.lt_irrefl h), if_pos rfl]
theorem zin_k {k c n : Nat} {c' : Int32} (hc : c' = Int32.ofNat c) (h : k + c < n) (hn : n ≤ 3072) : zin (Int32.ofNat k + c') n = true := by
  rw [hc, ← Int32.ofNat_add, zin_iff, zI_ofNat (by omega)]
  omega
theorem zin_k0 {k n : Nat} (h : k < n) (hn : n ≤ 3072) : zin (Int32.ofNat k) n = true := by
  rw [zin_iff, zI_ofNat (by omega)]
  omega
theorem zend_k {k n : Nat} (hk : k ≤ 3072) (hn : n ≤ 3072) : Int32.ofNat n - 6 < Int32.ofNat k ↔ n < k + 6 := by
  rw [zI_lt, Int32.toInt_sub, zI_ofNat (by omega), zI_ofNat (by omega)]
  rw [show (6 : Int32).toInt = 6 by rfl, Int.bmod_eq_of_le (by omega) (by omega)]
  omega
set_option maxHeartbeats 8000000 in
theorem zloop {R : Nat → zM → Prop} {D : Nat} {S : Nat × (Nat → Int32)} (hS : S.1 ≤ 3072) (hR : ∀ t M, R t M → zsc M = S) (hC : ∀ t, t < 512 → zCalls (R t) (R (t + 1)) D) : ∀ (n k t : Nat) (M : zM), R t M → t + n ≤ 512 → k ≤ S.1 → S.1 < k + 6 * n + 6 → ∃ M' t', zgo false (D + 1) 313 18 [zr 16 0, zr 12 0, zr 13 0, zi (Int32.ofNat k)] [] M = some (some (zi 1), M') ∧ R t' M' := by
  intro n
  induction n with
  | zero =>
    intro k t M hM ht hk hn
    refine ⟨M, t, ?_, hM⟩
    rw [B313_18, hR t M hM, if_pos ((zend_k (by omega) hS).mpr (by omega))]
  | succ n ih =>
    intro k t M hM ht hk hn
    by_cases he : S.1 < k + 6
    · refine ⟨M, t, ?_, hM⟩
      rw [B313_18, hR t M hM, if_pos ((zend_k (by omega) hS).mpr he)]
    have z0 : zin (Int32.ofNat k) S.1 = true := zin_k0 (by omega) hS
    have z1 : zin (Int32.ofNat k + 1) S.1 = true := zin_k (c := 1) rfl (by omega) hS
    have z2 : zin (Int32.ofNat k + 2) S.1 = true := zin_k (c := 2) rfl (by omega) hS
    have z3 : zin (Int32.ofNat k + 3) S.1 = true := zin_k (c := 3) rfl (by omega) hS
    have z4 : zin (Int32.ofNat k + 4) S.1 = true := zin_k (c := 4) rfl (by omega) hS
    have z5 : zin (Int32.ofNat k + 5) S.1 = true := zin_k (c := 5) rfl (by omega) hS
    have step : ∀ t2 M2, R t2 M2 → t2 + n ≤ 512 → ∃ M' t', zgo false (D + 1) 313 1432 [zr 16 0, zr 12 0, zr 13 0, zi (Int32.ofNat k)] [] M2 = some (some (zi 1), M') ∧ R t' M' := by
      intro t2 M2 h2 ht2
      obtain ⟨M', t', e, h'⟩ := ih (k + 6) t2 M2 h2 ht2 (by omega) (by omega)
      refine ⟨M', t', ?_, h'⟩
      rw [B313_1432, show Int32.ofNat k + 6 = Int32.ofNat (k + 6) from (Int32.ofNat_add k 6).symm]
      exact e
    obtain ⟨h0, h1, h2, h3, h4, h5, h6, h7, h8, h9, h10, h11, h12, h13, h14, h15, h16, h17, h18, h19, h20, h21, h22, h23, h24, h25, h26, h27, h28, h29, h30, h31, h32, h33, h34, h35, h36, h37, h38⟩ := hC t (by omega)
    rw [B313_18, hR t M hM, if_neg (fun q => he ((zend_k (by omega) hS).mp q)), if_pos z0]
    by_cases w0 : S.2 (Int32.ofNat k).toNatClampNeg &&& 63 = 0
    · rw [if_pos w0, if_pos z1, if_pos z2]
      obtain ⟨x, M1, M2, r1, r2, hM2⟩ := h0 _ _ M hM
      obtain ⟨M', t', e, hM'⟩ := step (t + 1) M2 hM2 (by omega)
      refine ⟨M', t', zbind_of r1 ?_, hM'⟩
      refine (B313_218 D (Int32.ofNat k) x M1).trans ?_
      rw [show zsc M1 = S from (zgo_keep r1).1.trans (hR t M hM), if_pos z1, if_pos z2]
      refine zbind_of r2 ?_
      refine (B313_232 (D + 1) (Int32.ofNat k) x x M2).trans ?_
      rw [if_pos rfl]
      exact e
    rw [if_neg w0]
    by_cases w1 : S.2 (Int32.ofNat k).toNatClampNeg &&& 63 = 1
    · rw [if_pos w1, if_pos z1]
      obtain ⟨x, M1, M2, r1, r2, hM2⟩ := h1 _ M hM
      obtain ⟨M', t', e, hM'⟩ := step (t + 1) M2 hM2 (by omega)
      refine ⟨M', t', zbind_of r1 ?_, hM'⟩
      refine (B313_246 D (Int32.ofNat k) x M1).trans ?_
      rw [show zsc M1 = S from (zgo_keep r1).1.trans (hR t M hM), if_pos z1]
      refine zbind_of r2 ?_
      refine (B313_255 (D + 1) (Int32.ofNat k) x x M2).trans ?_
      rw [if_pos rfl]
      exact e
    rw [if_neg w1]
    by_cases w2 : S.2 (Int32.ofNat k).toNatClampNeg &&& 63 = 2
    · rw [if_pos w2, if_pos z1, if_pos z2]
      obtain ⟨x, M1, M2, r1, r2, hM2⟩ := h2 _ _ M hM
      obtain ⟨M', t', e, hM'⟩ := step (t + 1) M2 hM2 (by omega)
      refine ⟨M', t', zbind_of r1 ?_, hM'⟩
      refine (B313_274 D (Int32.ofNat k) x M1).trans ?_
      rw [show zsc M1 = S from (zgo_keep r1).1.trans (hR t M hM), if_pos z1, if_pos z2]
      refine zbind_of r2 ?_
      refine (B313_288 (D + 1) (Int32.ofNat k) x x M2).trans ?_
      rw [if_pos rfl]
      exact e
    rw [if_neg w2]
    by_cases w3 : S.2 (Int32.ofNat k).toNatClampNeg &&& 63 = 3
    · rw [if_pos w3, if_pos z1, if_pos z2]
      obtain ⟨x, M1, M2, r1, r2, hM2⟩ := h3 _ _ M hM
      obtain ⟨M', t', e, hM'⟩ := step (t + 1) M2 hM2 (by omega)
      refine ⟨M', t', zbind_of r1 ?_, hM'⟩
      refine (B313_307 D (Int32.ofNat k) x M1).trans ?_
      rw [show zsc M1 = S from (zgo_keep r1).1.trans (hR t M hM), if_pos z1, if_pos z2]
      refine zbind_of r2 ?_
      refine (B313_321 (D + 1) (Int32.ofNat k) x x M2).trans ?_
      rw [if_pos rfl]
      exact e
    rw [if_neg w3]
    by_cases w4 : S.2 (Int32.ofNat k).toNatClampNeg &&& 63 = 4
    · rw [if_pos w4, if_pos z1]
      obtain ⟨x, M1, M2, r1, r2, hM2⟩ := h4 _ M hM
      obtain ⟨M', t', e, hM'⟩ := step (t + 1) M2 hM2 (by omega)
      refine ⟨M', t', zbind_of r1 ?_, hM'⟩
      refine (B313_335 D (Int32.ofNat k) x M1).trans ?_
      rw [show zsc M1 = S from (zgo_keep r1).1.trans (hR t M hM), if_pos z1]
      refine zbind_of r2 ?_
      refine (B313_344 (D + 1) (Int32.ofNat k) x x M2).trans ?_
      rw [if_pos rfl]
      exact e
    rw [if_neg w4]
    by_cases w5 : S.2 (Int32.ofNat k).toNatClampNeg &&& 63 = 5
    · rw [if_pos w5, if_pos z1]
      obtain ⟨x, M1, M2, r1, r2, hM2⟩ := h5 _ M hM
      obtain ⟨M', t', e, hM'⟩ := step (t + 1) M2 hM2 (by omega)
      refine ⟨M', t', zbind_of r1 ?_, hM'⟩
      refine (B313_358 D (Int32.ofNat k) x M1).trans ?_
      rw [show zsc M1 = S from (zgo_keep r1).1.trans (hR t M hM), if_pos z1]
      refine zbind_of r2 ?_
      refine (B313_367 (D + 1) (Int32.ofNat k) x x M2).trans ?_
      rw [if_pos rfl]
      exact e
    rw [if_neg w5]
    by_cases w6 : S.2 (Int32.ofNat k).toNatClampNeg &&& 63 = 6
    · rw [if_pos w6, if_pos z1, if_pos z2, if_pos z3]
      obtain ⟨x, M1, M2, r1, r2, hM2⟩ := h6 _ _ _ M hM
      obtain ⟨M', t', e, hM'⟩ := step (t + 1) M2 hM2 (by omega)
      refine ⟨M', t', zbind_of r1 ?_, hM'⟩
      refine (B313_391 D (Int32.ofNat k) x M1).trans ?_
      rw [show zsc M1 = S from (zgo_keep r1).1.trans (hR t M hM), if_pos z1, if_pos z2, if_pos z3]
      refine zbind_of r2 ?_
      refine (B313_410 (D + 1) (Int32.ofNat k) x x M2).trans ?_
      rw [if_pos rfl]
      exact e
    rw [if_neg w6]
    by_cases w7 : S.2 (Int32.ofNat k).toNatClampNeg &&& 63 = 7
    · rw [if_pos w7, if_pos z1, if_pos z2]
      obtain ⟨x, M1, M2, r1, r2, hM2⟩ := h7 _ _ M hM
      obtain ⟨M', t', e, hM'⟩ := step (t + 1) M2 hM2 (by omega)
      refine ⟨M', t', zbind_of r1 ?_, hM'⟩
      refine (B313_429 D (Int32.ofNat k) x M1).trans ?_
      rw [show zsc M1 = S from (zgo_keep r1).1.trans (hR t M hM), if_pos z1, if_pos z2]
      refine zbind_of r2 ?_
      refine (B313_443 (D + 1) (Int32.ofNat k) x x M2).trans ?_
      rw [if_pos rfl]
      exact e
    rw [if_neg w7]
    by_cases w8 : S.2 (Int32.ofNat k).toNatClampNeg &&& 63 = 8
    · rw [if_pos w8, if_pos z1, if_pos z2]
      obtain ⟨x, M1, M2, r1, r2, hM2⟩ := h8 _ _ M hM
      obtain ⟨M', t', e, hM'⟩ := step (t + 1) M2 hM2 (by omega)
      refine ⟨M', t', zbind_of r1 ?_, hM'⟩
      refine (B313_462 D (Int32.ofNat k) x M1).trans ?_
      rw [show zsc M1 = S from (zgo_keep r1).1.trans (hR t M hM), if_pos z1, if_pos z2]
      refine zbind_of r2 ?_
      refine (B313_476 (D + 1) (Int32.ofNat k) x x M2).trans ?_
      rw [if_pos rfl]
      exact e
    rw [if_neg w8]
    by_cases w9 : S.2 (Int32.ofNat k).toNatClampNeg &&& 63 = 9
    · rw [if_pos w9, if_pos z1]
      obtain ⟨x, M1, M2, r1, r2, hM2⟩ := h9 _ M hM
      obtain ⟨M', t', e, hM'⟩ := step (t + 1) M2 hM2 (by omega)
      refine ⟨M', t', zbind_of r1 ?_, hM'⟩
      refine (B313_490 D (Int32.ofNat k) x M1).trans ?_
      rw [show zsc M1 = S from (zgo_keep r1).1.trans (hR t M hM), if_pos z1]
      refine zbind_of r2 ?_
      refine (B313_499 (D + 1) (Int32.ofNat k) x x M2).trans ?_
      rw [if_pos rfl]
      exact e
    rw [if_neg w9]
    by_cases w10 : S.2 (Int32.ofNat k).toNatClampNeg &&& 63 = 10
    · rw [if_pos w10, if_pos z1, if_pos z2]
      obtain ⟨x, M1, M2, r1, r2, hM2⟩ := h10 _ _ M hM
      obtain ⟨M', t', e, hM'⟩ := step (t + 1) M2 hM2 (by omega)
      refine ⟨M', t', zbind_of r1 ?_, hM'⟩
      refine (B313_518 D (Int32.ofNat k) x M1).trans ?_
      rw [show zsc M1 = S from (zgo_keep r1).1.trans (hR t M hM), if_pos z1, if_pos z2]
      refine zbind_of r2 ?_
      refine (B313_532 (D + 1) (Int32.ofNat k) x x M2).trans ?_
      rw [if_pos rfl]
      exact e
    rw [if_neg w10]
    by_cases w11 : S.2 (Int32.ofNat k).toNatClampNeg &&& 63 = 11
    · rw [if_pos w11, if_pos z1, if_pos z2]
      obtain ⟨x, M1, M2, r1, r2, hM2⟩ := h11 _ _ M hM
      obtain ⟨M', t', e, hM'⟩ := step (t + 1) M2 hM2 (by omega)
      refine ⟨M', t', zbind_of r1 ?_, hM'⟩
      refine (B313_551 D (Int32.ofNat k) x M1).trans ?_
      rw [show zsc M1 = S from (zgo_keep r1).1.trans (hR t M hM), if_pos z1, if_pos z2]
      refine zbind_of r2 ?_
      refine (B313_565 (D + 1) (Int32.ofNat k) x x M2).trans ?_
      rw [if_pos rfl]
      exact e
    rw [if_neg w11]
    by_cases w12 : S.2 (Int32.ofNat k).toNatClampNeg &&& 63 = 12
    · rw [if_pos w12, if_pos z1, if_pos z2, if_pos z3]
      obtain ⟨x, M1, M2, r1, r2, hM2⟩ := h12 _ _ _ M hM
      obtain ⟨M', t', e, hM'⟩ := step (t + 1) M2 hM2 (by omega)
      refine ⟨M', t', zbind_of r1 ?_, hM'⟩
      refine (B313_589 D (Int32.ofNat k) x M1).trans ?_
      rw [show zsc M1 = S from (zgo_keep r1).1.trans (hR t M hM), if_pos z1, if_pos z2, if_pos z3]
      refine zbind_of r2 ?_
      refine (B313_608 (D + 1) (Int32.ofNat k) x x M2).trans ?_
      rw [if_pos rfl]
      exact e
    rw [if_neg w12]
    by_cases w13 : S.2 (Int32.ofNat k).toNatClampNeg &&& 63 = 13
    · rw [if_pos w13, if_pos z1, if_pos z2]
      obtain ⟨x, M1, M2, r1, r2, hM2⟩ := h13 _ _ M hM
      obtain ⟨M', t', e, hM'⟩ := step (t + 1) M2 hM2 (by omega)
      refine ⟨M', t', zbind_of r1 ?_, hM'⟩
      refine (B313_627 D (Int32.ofNat k) x M1).trans ?_
      rw [show zsc M1 = S from (zgo_keep r1).1.trans (hR t M hM), if_pos z1, if_pos z2]
      refine zbind_of r2 ?_
      refine (B313_641 (D + 1) (Int32.ofNat k) x x M2).trans ?_
      rw [if_pos rfl]
      exact e
    rw [if_neg w13]
    by_cases w14 : S.2 (Int32.ofNat k).toNatClampNeg &&& 63 = 14
    · rw [if_pos w14, if_pos z1, if_pos z2, if_pos z3]
      obtain ⟨x, M1, M2, r1, r2, hM2⟩ := h14 _ _ _ M hM
      obtain ⟨M', t', e, hM'⟩ := step (t + 1) M2 hM2 (by omega)
      refine ⟨M', t', zbind_of r1 ?_, hM'⟩
      refine (B313_665 D (Int32.ofNat k) x M1).trans ?_
      rw [show zsc M1 = S from (zgo_keep r1).1.trans (hR t M hM), if_pos z1, if_pos z2, if_pos z3]
      refine zbind_of r2 ?_
      refine (B313_684 (D + 1) (Int32.ofNat k) x x M2).trans ?_
      rw [if_pos rfl]
      exact e
    rw [if_neg w14]
    by_cases w15 : S.2 (Int32.ofNat k).toNatClampNeg &&& 63 = 15
    · rw [if_pos w15, if_pos z1, if_pos z2, if_pos z3]
      obtain ⟨x, M1, M2, r1, r2, hM2⟩ := h15 _ _ _ M hM
      obtain ⟨M', t', e, hM'⟩ := step (t + 1) M2 hM2 (by omega)
      refine ⟨M', t', zbind_of r1 ?_, hM'⟩
      refine (B313_708 D (Int32.ofNat k) x M1).trans ?_
      rw [show zsc M1 = S from (zgo_keep r1).1.trans (hR t M hM), if_pos z1, if_pos z2, if_pos z3]
      refine zbind_of r2 ?_
      refine (B313_727 (D + 1) (Int32.ofNat k) x x M2).trans ?_
      rw [if_pos rfl]
      exact e
    rw [if_neg w15]
    by_cases w16 : S.2 (Int32.ofNat k).toNatClampNeg &&& 63 = 16
    · rw [if_pos w16]
      obtain ⟨x, M1, M2, r1, r2, hM2⟩ := h16 M hM
      obtain ⟨M', t', e, hM'⟩ := step (t + 1) M2 hM2 (by omega)
      refine ⟨M', t', zbind_of r1 ?_, hM'⟩
      refine (B313_736 D (Int32.ofNat k) x M1).trans ?_
      refine zbind_of r2 ?_
      refine (B313_740 (D + 1) (Int32.ofNat k) x x M2).trans ?_
      rw [if_pos rfl]
      exact e
    rw [if_neg w16]
    by_cases w17 : S.2 (Int32.ofNat k).toNatClampNeg &&& 63 = 17
    · rw [if_pos w17, if_pos z1, if_pos z2, if_pos z3]
      obtain ⟨x, M1, M2, r1, r2, hM2⟩ := h17 _ _ _ M hM
      obtain ⟨M', t', e, hM'⟩ := step (t + 1) M2 hM2 (by omega)
      refine ⟨M', t', zbind_of r1 ?_, hM'⟩
      refine (B313_764 D (Int32.ofNat k) x M1).trans ?_
      rw [show zsc M1 = S from (zgo_keep r1).1.trans (hR t M hM), if_pos z1, if_pos z2, if_pos z3]
      refine zbind_of r2 ?_
      refine (B313_783 (D + 1) (Int32.ofNat k) x x M2).trans ?_
      rw [if_pos rfl]
      exact e
    rw [if_neg w17]
    by_cases w18 : S.2 (Int32.ofNat k).toNatClampNeg &&& 63 = 18
    · rw [if_pos w18, if_pos z1]
      obtain ⟨x, M1, M2, r1, r2, hM2⟩ := h18 _ M hM
      obtain ⟨M', t', e, hM'⟩ := step (t + 1) M2 hM2 (by omega)
      refine ⟨M', t', zbind_of r1 ?_, hM'⟩
      refine (B313_797 D (Int32.ofNat k) x M1).trans ?_
      rw [show zsc M1 = S from (zgo_keep r1).1.trans (hR t M hM), if_pos z1]
      refine zbind_of r2 ?_
      refine (B313_806 (D + 1) (Int32.ofNat k) x x M2).trans ?_
      rw [if_pos rfl]
      exact e
    rw [if_neg w18]
    by_cases w19 : S.2 (Int32.ofNat k).toNatClampNeg &&& 63 = 19
    · rw [if_pos w19]
      obtain ⟨x, M1, M2, r1, r2, hM2⟩ := h19 M hM
      obtain ⟨M', t', e, hM'⟩ := step (t + 1) M2 hM2 (by omega)
      refine ⟨M', t', zbind_of r1 ?_, hM'⟩
      refine (B313_815 D (Int32.ofNat k) x M1).trans ?_
      refine zbind_of r2 ?_
      refine (B313_819 (D + 1) (Int32.ofNat k) x x M2).trans ?_
      rw [if_pos rfl]
      exact e
    rw [if_neg w19]
    by_cases w20 : S.2 (Int32.ofNat k).toNatClampNeg &&& 63 = 20
    · rw [if_pos w20, if_pos z1, if_pos z2, if_pos z3, if_pos z4]
      obtain ⟨x, M1, M2, r1, r2, hM2⟩ := h20 _ _ _ _ M hM
      obtain ⟨M', t', e, hM'⟩ := step (t + 1) M2 hM2 (by omega)
      refine ⟨M', t', zbind_of r1 ?_, hM'⟩
      refine (B313_848 D (Int32.ofNat k) x M1).trans ?_
      rw [show zsc M1 = S from (zgo_keep r1).1.trans (hR t M hM), if_pos z1, if_pos z2, if_pos z3, if_pos z4]
      refine zbind_of r2 ?_
      refine (B313_872 (D + 1) (Int32.ofNat k) x x M2).trans ?_
      rw [if_pos rfl]
      exact e
    rw [if_neg w20]
    by_cases w21 : S.2 (Int32.ofNat k).toNatClampNeg &&& 63 = 21
    · rw [if_pos w21, if_pos z1]
      obtain ⟨x, M1, M2, r1, r2, hM2⟩ := h21 _ M hM
      obtain ⟨M', t', e, hM'⟩ := step (t + 1) M2 hM2 (by omega)
      refine ⟨M', t', zbind_of r1 ?_, hM'⟩
      refine (B313_886 D (Int32.ofNat k) x M1).trans ?_
      rw [show zsc M1 = S from (zgo_keep r1).1.trans (hR t M hM), if_pos z1]
      refine zbind_of r2 ?_
      refine (B313_895 (D + 1) (Int32.ofNat k) x x M2).trans ?_
      rw [if_pos rfl]
      exact e
    rw [if_neg w21]
    by_cases w22 : S.2 (Int32.ofNat k).toNatClampNeg &&& 63 = 22
    · rw [if_pos w22]
      obtain ⟨x, M1, M2, r1, r2, hM2⟩ := h22 M hM
      obtain ⟨M', t', e, hM'⟩ := step (t + 1) M2 hM2 (by omega)
      refine ⟨M', t', zbind_of r1 ?_, hM'⟩
      refine (B313_904 D (Int32.ofNat k) x M1).trans ?_
      refine zbind_of r2 ?_
      refine (B313_908 (D + 1) (Int32.ofNat k) x x M2).trans ?_
      rw [if_pos rfl]
      exact e
    rw [if_neg w22]
    by_cases w23 : S.2 (Int32.ofNat k).toNatClampNeg &&& 63 = 23
    · rw [if_pos w23, if_pos z1, if_pos z2]
      obtain ⟨x, M1, M2, r1, r2, hM2⟩ := h23 _ _ M hM
      obtain ⟨M', t', e, hM'⟩ := step (t + 1) M2 hM2 (by omega)
      refine ⟨M', t', zbind_of r1 ?_, hM'⟩
      refine (B313_927 D (Int32.ofNat k) x M1).trans ?_
      rw [show zsc M1 = S from (zgo_keep r1).1.trans (hR t M hM), if_pos z1, if_pos z2]
      refine zbind_of r2 ?_
      refine (B313_941 (D + 1) (Int32.ofNat k) x x M2).trans ?_
      rw [if_pos rfl]
      exact e
    rw [if_neg w23]
    by_cases w24 : S.2 (Int32.ofNat k).toNatClampNeg &&& 63 = 24
    · rw [if_pos w24, if_pos z1, if_pos z2]
      obtain ⟨x, M1, M2, r1, r2, hM2⟩ := h24 _ _ M hM
      obtain ⟨M', t', e, hM'⟩ := step (t + 1) M2 hM2 (by omega)
      refine ⟨M', t', zbind_of r1 ?_, hM'⟩
      refine (B313_960 D (Int32.ofNat k) x M1).trans ?_
      rw [show zsc M1 = S from (zgo_keep r1).1.trans (hR t M hM), if_pos z1, if_pos z2]
      refine zbind_of r2 ?_
      refine (B313_974 (D + 1) (Int32.ofNat k) x x M2).trans ?_
      rw [if_pos rfl]
      exact e
    rw [if_neg w24]
    by_cases w25 : S.2 (Int32.ofNat k).toNatClampNeg &&& 63 = 25
    · rw [if_pos w25, if_pos z1]
      obtain ⟨x, M1, M2, r1, r2, hM2⟩ := h25 _ M hM
      obtain ⟨M', t', e, hM'⟩ := step (t + 1) M2 hM2 (by omega)
      refine ⟨M', t', zbind_of r1 ?_, hM'⟩
      refine (B313_988 D (Int32.ofNat k) x M1).trans ?_
      rw [show zsc M1 = S from (zgo_keep r1).1.trans (hR t M hM), if_pos z1]
      refine zbind_of r2 ?_
      refine (B313_997 (D + 1) (Int32.ofNat k) x x M2).trans ?_
      rw [if_pos rfl]
      exact e
    rw [if_neg w25]
    by_cases w26 : S.2 (Int32.ofNat k).toNatClampNeg &&& 63 = 26
    · rw [if_pos w26, if_pos z1]
      obtain ⟨x, M1, M2, r1, r2, hM2⟩ := h26 _ M hM
      obtain ⟨M', t', e, hM'⟩ := step (t + 1) M2 hM2 (by omega)
      refine ⟨M', t', zbind_of r1 ?_, hM'⟩
      refine (B313_1011 D (Int32.ofNat k) x M1).trans ?_
      rw [show zsc M1 = S from (zgo_keep r1).1.trans (hR t M hM), if_pos z1]
      refine zbind_of r2 ?_
      refine (B313_1020 (D + 1) (Int32.ofNat k) x x M2).trans ?_
      rw [if_pos rfl]
      exact e
    rw [if_neg w26]
    by_cases w27 : S.2 (Int32.ofNat k).toNatClampNeg &&& 63 = 27
    · rw [if_pos w27]
      obtain ⟨x, M1, M2, r1, r2, hM2⟩ := h27 M hM
      obtain ⟨M', t', e, hM'⟩ := step (t + 1) M2 hM2 (by omega)
      refine ⟨M', t', zbind_of r1 ?_, hM'⟩
      refine (B313_1029 D (Int32.ofNat k) x M1).trans ?_
      refine zbind_of r2 ?_
      refine (B313_1033 (D + 1) (Int32.ofNat k) x x M2).trans ?_
      rw [if_pos rfl]
      exact e
    rw [if_neg w27]
    by_cases w28 : S.2 (Int32.ofNat k).toNatClampNeg &&& 63 = 28
    · rw [if_pos w28]
      obtain ⟨x, M1, M2, r1, r2, hM2⟩ := h28 M hM
      obtain ⟨M', t', e, hM'⟩ := step (t + 1) M2 hM2 (by omega)
      refine ⟨M', t', zbind_of r1 ?_, hM'⟩
      refine (B313_1042 D (Int32.ofNat k) x M1).trans ?_
      refine zbind_of r2 ?_
      refine (B313_1046 (D + 1) (Int32.ofNat k) x x M2).trans ?_
      rw [if_pos rfl]
      exact e
    rw [if_neg w28]
    by_cases w29 : S.2 (Int32.ofNat k).toNatClampNeg &&& 63 = 29
    · rw [if_pos w29]
      obtain ⟨x, M1, M2, r1, r2, hM2⟩ := h29 M hM
      obtain ⟨M', t', e, hM'⟩ := step (t + 1) M2 hM2 (by omega)
      refine ⟨M', t', zbind_of r1 ?_, hM'⟩
      refine (B313_1055 D (Int32.ofNat k) x M1).trans ?_
      refine zbind_of r2 ?_
      refine (B313_1059 (D + 1) (Int32.ofNat k) x x M2).trans ?_
      rw [if_pos rfl]
      exact e
    rw [if_neg w29]
    by_cases w30 : S.2 (Int32.ofNat k).toNatClampNeg &&& 63 = 30
    · rw [if_pos w30, if_pos z1, if_pos z2, if_pos z3]
      obtain ⟨x, M1, M2, r1, r2, hM2⟩ := h30 _ _ _ M hM
      obtain ⟨M', t', e, hM'⟩ := step (t + 1) M2 hM2 (by omega)
      refine ⟨M', t', zbind_of r1 ?_, hM'⟩
      refine (B313_1083 D (Int32.ofNat k) x M1).trans ?_
      rw [show zsc M1 = S from (zgo_keep r1).1.trans (hR t M hM), if_pos z1, if_pos z2, if_pos z3]
      refine zbind_of r2 ?_
      refine (B313_1102 (D + 1) (Int32.ofNat k) x x M2).trans ?_
      rw [if_pos rfl]
      exact e
    rw [if_neg w30]
    by_cases w31 : S.2 (Int32.ofNat k).toNatClampNeg &&& 63 = 31
    · rw [if_pos w31, if_pos z1]
      obtain ⟨x, M1, M2, r1, r2, hM2⟩ := h31 _ M hM
      obtain ⟨M', t', e, hM'⟩ := step (t + 1) M2 hM2 (by omega)
      refine ⟨M', t', zbind_of r1 ?_, hM'⟩
      refine (B313_1116 D (Int32.ofNat k) x M1).trans ?_
      rw [show zsc M1 = S from (zgo_keep r1).1.trans (hR t M hM), if_pos z1]
      refine zbind_of r2 ?_
      refine (B313_1125 (D + 1) (Int32.ofNat k) x x M2).trans ?_
      rw [if_pos rfl]
      exact e
    rw [if_neg w31]
    by_cases w32 : S.2 (Int32.ofNat k).toNatClampNeg &&& 63 = 32
    · rw [if_pos w32, if_pos z1, if_pos z2]
      obtain ⟨x, M1, M2, r1, r2, hM2⟩ := h32 _ _ M hM
      obtain ⟨M', t', e, hM'⟩ := step (t + 1) M2 hM2 (by omega)
      refine ⟨M', t', zbind_of r1 ?_, hM'⟩
      refine (B313_1144 D (Int32.ofNat k) x M1).trans ?_
      rw [show zsc M1 = S from (zgo_keep r1).1.trans (hR t M hM), if_pos z1, if_pos z2]
      refine zbind_of r2 ?_
      refine (B313_1158 (D + 1) (Int32.ofNat k) x x M2).trans ?_
      rw [if_pos rfl]
      exact e
    rw [if_neg w32]
    by_cases w33 : S.2 (Int32.ofNat k).toNatClampNeg &&& 63 = 33
    · rw [if_pos w33, if_pos z1, if_pos z2, if_pos z3]
      obtain ⟨x, M1, M2, r1, r2, hM2⟩ := h33 _ _ _ M hM
      obtain ⟨M', t', e, hM'⟩ := step (t + 1) M2 hM2 (by omega)
      refine ⟨M', t', zbind_of r1 ?_, hM'⟩
      refine (B313_1182 D (Int32.ofNat k) x M1).trans ?_
      rw [show zsc M1 = S from (zgo_keep r1).1.trans (hR t M hM), if_pos z1, if_pos z2, if_pos z3]
      refine zbind_of r2 ?_
      refine (B313_1201 (D + 1) (Int32.ofNat k) x x M2).trans ?_
      rw [if_pos rfl]
      exact e
    rw [if_neg w33]
    by_cases w34 : S.2 (Int32.ofNat k).toNatClampNeg &&& 63 = 34
    · rw [if_pos w34, if_pos z1, if_pos z2, if_pos z3, if_pos z4]
      obtain ⟨x, M1, M2, r1, r2, hM2⟩ := h34 _ _ _ M hM
      obtain ⟨M', t', e, hM'⟩ := step (t + 1) M2 hM2 (by omega)
      refine ⟨M', t', zbind_of r1 ?_, hM'⟩
      refine (B313_1240 D (Int32.ofNat k) x M1).trans ?_
      rw [show zsc M1 = S from (zgo_keep r1).1.trans (hR t M hM), if_pos z1, if_pos z2, if_pos z3, if_pos z4]
      refine zbind_of r2 ?_
      refine (B313_1274 (D + 1) (Int32.ofNat k) x x M2).trans ?_
      rw [if_pos rfl]
      exact e
    rw [if_neg w34]
    by_cases w35 : S.2 (Int32.ofNat k).toNatClampNeg &&& 63 = 35
    · rw [if_pos w35, if_pos z1, if_pos z2]
      obtain ⟨x, M1, M2, r1, r2, hM2⟩ := h35 _ _ M hM
      obtain ⟨M', t', e, hM'⟩ := step (t + 1) M2 hM2 (by omega)
      refine ⟨M', t', zbind_of r1 ?_, hM'⟩
      refine (B313_1293 D (Int32.ofNat k) x M1).trans ?_
      rw [show zsc M1 = S from (zgo_keep r1).1.trans (hR t M hM), if_pos z1, if_pos z2]
      refine zbind_of r2 ?_
      refine (B313_1307 (D + 1) (Int32.ofNat k) x x M2).trans ?_
      rw [if_pos (zcmp_self x)]
      exact e
    rw [if_neg w35]
    by_cases w36 : S.2 (Int32.ofNat k).toNatClampNeg &&& 63 = 36
    · rw [if_pos w36, if_pos z1, if_pos z2, if_pos z3, if_pos z4, if_pos z5]
      obtain ⟨x, M1, M2, r1, r2, hM2⟩ := h36 _ _ _ _ _ M hM
      obtain ⟨M', t', e, hM'⟩ := step (t + 1) M2 hM2 (by omega)
      refine ⟨M', t', zbind_of r1 ?_, hM'⟩
      refine (B313_1342 D (Int32.ofNat k) x M1).trans ?_
      rw [show zsc M1 = S from (zgo_keep r1).1.trans (hR t M hM), if_pos z1, if_pos z2, if_pos z3, if_pos z4, if_pos z5]
      refine zbind_of r2 ?_
      refine (B313_1371 (D + 1) (Int32.ofNat k) x x M2).trans ?_
      rw [if_pos rfl]
      exact e
    rw [if_neg w36]
    by_cases w37 : S.2 (Int32.ofNat k).toNatClampNeg &&& 63 = 37
    · rw [if_pos w37, if_pos z1, if_pos z2]
      obtain ⟨x, M1, M2, r1, r2, hM2⟩ := h37 _ _ M hM
      obtain ⟨M', t', e, hM'⟩ := step (t + 1) M2 hM2 (by omega)
      refine ⟨M', t', zbind_of r1 ?_, hM'⟩
      refine (B313_1390 D (Int32.ofNat k) x M1).trans ?_
      rw [show zsc M1 = S from (zgo_keep r1).1.trans (hR t M hM), if_pos z1, if_pos z2]
      refine zbind_of r2 ?_
      refine (B313_1404 (D + 1) (Int32.ofNat k) x x M2).trans ?_
      rw [if_pos rfl]
      exact e
    rw [if_neg w37]
    by_cases w38 : S.2 (Int32.ofNat k).toNatClampNeg &&& 63 = 38
    · rw [if_pos w38, if_pos z1]
      obtain ⟨x, M1, M2, r1, r2, hM2⟩ := h38 _ M hM
      obtain ⟨M', t', e, hM'⟩ := step (t + 1) M2 hM2 (by omega)
      refine ⟨M', t', zbind_of r1 ?_, hM'⟩
      refine (B313_1418 D (Int32.ofNat k) x M1).trans ?_
      rw [show zsc M1 = S from (zgo_keep r1).1.trans (hR t M hM), if_pos z1]
      refine zbind_of r2 ?_
      refine (B313_1427 (D + 1) (Int32.ofNat k) x x M2).trans ?_
      rw [if_pos rfl]
      exact e
    rw [if_neg w38]
    exact step t M hM (by omega)
/-- what is owed, out of a relation that holds of what is built and is kept by every call -/
theorem zowed_of {R : Nat → zM → Prop} {D : Nat} {L : Nat × (Nat → Int32)} (hD : D ≤ 990) (hL : L.1 ≤ 3072) (h0 : R 0 (zMb L)) (hR : ∀ t M, R t M → zsc M = L) (hC : ∀ t, t < 512 → zCalls (R t) (R (t + 1)) (D + 2)) : zOwed L := by
  obtain ⟨M3, t3, r3, h3⟩ := zloop (S := L) hL hR hC 512 0 0 (zMb L) h0 (by omega) (by omega) (by omega)
  have r16 : zgo false (D + 3) 313 16 [zr 16 0, zr 12 0, zr 13 0, zu] [] (zMb L) = some (some (zi 1), M3) := (B313_16 (D + 3) zu (zMb L)).trans r3
  obtain ⟨n1, r1⟩ := zgo_iff.mp (C129_0 D (znew (zM0 L) 12 0) rfl)
  obtain ⟨n2, r2⟩ := zgo_iff.mp (C192_0 (D + 3) (znew (zMa L) 13 0) (by show znx (zMa L) + 1 = 451; rw [zMa_nx]))
  obtain ⟨n3, r3⟩ := zgo_iff.mp r16
  refine ⟨D + 3, n1 + n2 + n3, zMa L, zMb L, M3, by omega, zrun_le true (by omega) r1, zMa_nx L, zrun_le true (by omega) r2, zMb_nx L, zMb_fnl L, zrun_le false (by omega) r3, ?_⟩
  exact (zgo_keep r16).2.trans (zMb_nx L)
