/-! ===== odds: 'face' ===== -/
def oFf (a b _c : Nat) : Prop := b = 0 ∧ 37 ≤ a ∧ a ≤ 40
theorem oEn_fr {A A' : zM} {o q : Nat → Nat} {lo lo2 : Nat} {P : Nat → Nat → Nat → Prop} (h : oEn A o q lo lo2) (f : zFo P A A') (hp : ∀ v, ¬ P 36 0 v) : oEn A' o q lo lo2 := fun k hk => ⟨fun s s1 s2 => ((f 36 0 _ (hp _)).1).trans ((h k hk).1 s s1 s2), fun s s1 s2 => ((f 36 0 _ (hp _)).1).trans ((h k hk).2 s s1 s2)⟩
theorem L61a (d dv : Nat) (hd : 1 ≤ dv ∧ dv ≤ 10) {o q : Nat → Nat} : ∀ (j n : Nat) (A : zM) (u3 : zV), n + j = 8 → oH A o → oR A q → oEn A o q 1 1 → (∀ k, k < n → zgI A 37 0 k = yI (oO o q dv k)) → ∃ A', zgo false (d + 2) 61 3 [zr 7 0, zi (nI dv), zi (nI (15 + n)), u3] [] A = zgo false (d + 2) 61 3 [zr 7 0, zi (nI dv), zi (nI 23), u3] [] A' ∧ zFo (fun a b c => a = 37 ∧ b = 0) A A' ∧ ∀ k, k < 8 → zgI A' 37 0 k = yI (oO o q dv k)
  | 0, n, A, u3, hn, hH, hR, hE, hk => by
    have hn : n = 8 := hn
    subst hn
    exact ⟨A, rfl, zFo_refl _ A, hk⟩
  | j + 1, n, A, u3, hn, hH, hR, hE, hk => by
    have f1 : zFo (fun a b c => a = 37 ∧ b = 0) A (zsI A 37 0 n (yI (oO o q dv n))) := zFo_sI (zFo_refl _ A) ⟨rfl, rfl⟩
    obtain ⟨A', e, f, w⟩ := L61a d dv hd j (n + 1) (zsI A 37 0 n (yI (oO o q dv n))) u3 (by omega) (oH_fr hH f1 (fun v z => by cases z.1) (fun z => by cases z.1)) (oR_fr hR f1 (fun v z => by cases z.1)) (oEn_fr hE f1 (fun v z => by cases z.1)) (fun k k1 => by
      rw [zgI_sI]
      by_cases z : k = n
      · rw [if_pos ⟨rfl, rfl, z⟩, z]
      · rw [if_neg (by omega)]
        exact hk k (by omega))
    refine ⟨A', ?_, zFo_trans f1 f, w⟩
    have c : ¬ (22 : Int32) < nI (15 + n) := nI_nlt (a := 22) (by omega) (by omega)
    have e1 : nI (15 + n) - 15 = nI n := by rw [show (15 : Int32) = nI 15 from rfl, pk_sub (by omega), show 15 + n - 15 = n by omega]
    rw [← e, B61_3, if_neg c, S77 d dv n hd (by omega) zu zu zu zu zu hH hR hE, zbsome, e1]
    show zgo false (d + 2) 61 23 [zr 7 0, zi (nI dv), zi (nI (15 + n)), u3] [zi (yI (oO o q dv n)), zi (nI n), zr 37 0] A = _
    rw [B61_23, se37n _ _ _ _ _ _ (by omega), zbsome, zpu0, B61_26, nI_1]
    rfl
theorem oO_nat (o q : Nat → Nat) (dv : Nat) (hd : 1 ≤ dv ∧ dv ≤ 10) : oO o q dv 8 = (((if dv = 1 then o 10 else if dv = 10 then o 1 else 0 : Nat) : Int) * 1000000).tdiv (ysm o) := by
  unfold oO
  rw [if_pos rfl]
  unfold oAv
  congr 1
  by_cases h1 : dv = 1
  · subst h1
    simp [oSm, oNat]
  · by_cases h2 : dv = 10
    · subst h2
      simp [oSm, oNat]
    · simp [oSm, oNat, h1, h2]
theorem L61c (d dv : Nat) (x2 : Int32) (O : Nat → Int) : ∀ (j n : Nat) (A : zM), n + j = 22 → oOp A O → (∀ t, 1 ≤ t → t ≤ n → zgI A 38 0 t = yI (oSt O t) ∧ zgI A 38 0 (32 + t) = yI (oSt O t)) → ∃ A', zgo false (d + 3) 61 87 [zr 7 0, zi (nI dv), zi x2, zi (nI (n + 1))] [] A = zgo false (d + 3) 61 134 [zr 7 0, zi (nI dv), zi x2, zi 21] [] A' ∧ zFo (fun a b c => a = 38 ∧ b = 0) A A' ∧ oSd A' O
  | 0, n, A, hn, hO, hS => by
    have hn : n = 22 := hn
    subst hn
    refine ⟨A, ?_, zFo_refl _ A, hS⟩
    rw [B61_87, if_pos (by decide)]
  | j + 1, n, A, hn, hO, hS => by
    let A1 := zsI (zsI A 38 0 (n + 1) (yI (oSt O (n + 1)))) 38 0 (32 + (n + 1)) (yI (oSt O (n + 1)))
    have f1 : zFo (fun a b c => a = 38 ∧ b = 0) A A1 := zFo_sI (zFo_sI (zFo_refl _ A) ⟨rfl, rfl⟩) ⟨rfl, rfl⟩
    obtain ⟨A', e, f, w⟩ := L61c d dv x2 O j (n + 1) A1 (by omega) (fun k hk => ((f1 37 0 k (by omega)).1).trans (hO k hk)) (fun t t1 t2 => by
      by_cases z : t = n + 1
      · subst z
        refine ⟨?_, ?_⟩
        · rw [zgI_sI, if_neg (by omega), zgI_sI, if_pos ⟨rfl, rfl, rfl⟩]
        · rw [zgI_sI, if_pos ⟨rfl, rfl, rfl⟩]
      · rw [zgI_sI, if_neg (by omega), zgI_sI, if_neg (by omega), zgI_sI, if_neg (by omega), zgI_sI, if_neg (by omega)]
        exact hS t t1 (by omega))
    refine ⟨A', ?_, zFo_trans f1 f, w⟩
    have c : ¬ (22 : Int32) < nI (n + 1) := nI_nlt (a := 22) (by omega) (by omega)
    have e1 : (32 : Int32) + nI (n + 1) = nI (32 + (n + 1)) := by rw [show (32 : Int32) = nI 32 from rfl, nI_add]
    rw [← e, B61_87, if_neg c, S78 d (n + 1) O (by omega) zu zu zu hO, zbsome]
    show zgo false (d + 3) 61 103 [zr 7 0, zi (nI dv), zi x2, zi (nI (n + 1))] [zi (yI (oSt O (n + 1))), zi (nI (n + 1)), zr 38 0] A = _
    rw [B61_103, se38n _ _ _ _ _ _ (by omega), zbsome, zpu0, B61_106, at38n _ _ _ _ _ (by omega), zbsome, e1]
    have e2 : zgI (zsI A 38 0 (n + 1) (yI (oSt O (n + 1)))) 38 0 (n + 1) = yI (oSt O (n + 1)) := by rw [zgI_sI, if_pos ⟨rfl, rfl, rfl⟩]
    rw [e2]
    show zgo false (d + 3) 61 122 [zr 7 0, zi (nI dv), zi x2, zi (nI (n + 1))] [zi (yI (oSt O (n + 1))), zi (nI (32 + (n + 1))), zr 38 0] _ = _
    rw [B61_122, se38n _ _ _ _ _ _ (by omega), zbsome, zpu0, B61_125, nI_1]
theorem S79 (d s : Nat) (a : Bool) (hs : 1 ≤ s ∧ s ≤ 21) (u2 u3 : zV) {A : zM} {o : Nat → Nat} {O : Nat → Int} (hA : Raf A) (hH : oH A o) (hO : ∀ k, 0 ≤ O k) (hQ : oQ O ≤ 1000000) (h1 : oSd A O) (h2 : ∀ v, 1 ≤ v → v ≤ 10 → oTt (s + v) (oA a v) < 21 → zgI A 39 0 (oPl (s + v) (oA a v)) = yI (oDe o O (s + v) (oA a v))) : zgo false (d + 2) 79 0 [zr 7 0, zi (nI (oPl s a)), u2, u3] [] A = some (none, zsI (zsI A 39 0 (oPl s a) (yI (oDe o O s a))) 40 0 (oPl s a) (yI (oDb o O s a))) := by
  rw [B79_0]
  exact L79 d s a hs hA hH hO hQ h1 h2 10 0 rfl
theorem oSd_fr {A A' : zM} {O : Nat → Int} {P : Nat → Nat → Nat → Prop} (h : oSd A O) (f : zFo P A A') (hp : ∀ v, ¬ P 38 0 v) : oSd A' O := fun t t1 t2 => ⟨((f 38 0 _ (hp _)).1).trans (h t t1 t2).1, ((f 38 0 _ (hp _)).1).trans (h t t1 t2).2⟩
theorem oDn_set {A1 : zM} {o : Nat → Nat} {O : Nat → Int} {s : Nat} (h1 : oDn A1 o O (s + 1) (s + 2)) : oDn (zsI (zsI A1 39 0 (42 + (s + 1)) (yI (oDe o O (s + 1) true))) 40 0 (42 + (s + 1)) (yI (oDb o O (s + 1) true))) o O (s + 1) (s + 1) := by
  refine ⟨fun t t1 t2 => ?_, fun t t1 t2 => ?_⟩
  · rw [zgI_sI, if_neg (by omega), zgI_sI, if_neg (by omega), zgI_sI, if_neg (by omega), zgI_sI, if_neg (by omega)]
    exact h1.1 t t1 t2
  · by_cases z : t = s + 1
    · subst z
      refine ⟨?_, ?_⟩
      · rw [zgI_sI, if_neg (by omega), zgI_sI, if_pos ⟨rfl, rfl, rfl⟩]
      · rw [zgI_sI, if_pos ⟨rfl, rfl, rfl⟩]
    · rw [zgI_sI, if_neg (by omega), zgI_sI, if_neg (by omega), zgI_sI, if_neg (by omega), zgI_sI, if_neg (by omega)]
      exact h1.2 t (by omega) t2
theorem L61d (d dv : Nat) (x2 : Int32) {o : Nat → Nat} {O : Nat → Int} (hO : ∀ k, 0 ≤ O k) (hQ : oQ O ≤ 1000000) : ∀ (s : Nat) (A : zM), s ≤ 21 → Raf A → oH A o → oSd A O → oDn A o O (s + 1) (s + 1) → ∃ A', zgo false (d + 3) 61 134 [zr 7 0, zi (nI dv), zi x2, zi (nI s)] [] A = some (none, A') ∧ zFo (fun a b c => (a = 39 ∨ a = 40) ∧ b = 0) A A' ∧ oDn A' o O 1 1
  | 0, A, hs, hA, hH, hS, hD => by
    refine ⟨A, ?_, zFo_refl _ A, hD⟩
    rw [B61_134, if_pos (by decide)]
  | s + 1, A, hs, hA, hH, hS, hD => by
    have c1 : ¬ nI (s + 1) < 1 := nI_nlt (b := 1) (by omega) (by omega)
    have ep : nI (s + 1) + -1 = nI s := by rw [← Int32.sub_eq_add_neg, nI_pred]
    have hp : oPl (s + 1) false = s + 1 := by
      unfold oPl
      rw [if_neg (fun z => by cases z.1), if_pos (by omega)]
    have pre : ∀ (a : Bool) (A : zM), oDn A o O (s + 2) (s + 2) → ∀ v, 1 ≤ v → v ≤ 10 → oTt (s + 1 + v) (oA a v) < 21 → zgI A 39 0 (oPl (s + 1 + v) (oA a v)) = yI (oDe o O (s + 1 + v) (oA a v)) := by
      intro a A h v v1 v2 ht
      refine oDn_at h (by omega) (by omega) ?_
      unfold oTt at ht
      by_cases z : oA a v = true ∧ s + 1 + v ≤ 11
      · omega
      · rw [if_neg z] at ht
        omega
    have e1 := S79 d (s + 1) false ⟨by omega, hs⟩ zu zu hA hH hO hQ hS (pre false A hD)
    rw [hp] at e1
    let A1 := zsI (zsI A 39 0 (s + 1) (yI (oDe o O (s + 1) false))) 40 0 (s + 1) (yI (oDb o O (s + 1) false))
    have f1 : zFo (fun a b c => (a = 39 ∨ a = 40) ∧ b = 0) A A1 := zFo_sI (zFo_sI (zFo_refl _ A) ⟨Or.inl rfl, rfl⟩) ⟨Or.inr rfl, rfl⟩
    have h1 : oDn A1 o O (s + 1) (s + 2) := ⟨fun t t1 t2 => by
      by_cases z : t = s + 1
      · subst z
        refine ⟨?_, ?_⟩
        · rw [zgI_sI, if_neg (by omega), zgI_sI, if_pos ⟨rfl, rfl, rfl⟩]
        · rw [zgI_sI, if_pos ⟨rfl, rfl, rfl⟩]
      · rw [zgI_sI, if_neg (by omega), zgI_sI, if_neg (by omega), zgI_sI, if_neg (by omega), zgI_sI, if_neg (by omega)]
        exact hD.1 t (by omega) t2, fun t t1 t2 => by
      rw [zgI_sI, if_neg (by omega), zgI_sI, if_neg (by omega), zgI_sI, if_neg (by omega), zgI_sI, if_neg (by omega)]
      exact hD.2 t t1 t2⟩
    have hA1 := Raf_fr hA f1 (fun v z => by rcases z.1 with z | z <;> cases z)
    have hH1 := oH_fr hH f1 (fun v z => by rcases z.1 with z | z <;> cases z) (fun z => by rcases z.1 with z | z <;> cases z)
    have hS1 := oSd_fr hS f1 (fun v z => by rcases z.1 with z | z <;> cases z)
    have k0 : zgo false (d + 3) 61 134 [zr 7 0, zi (nI dv), zi x2, zi (nI (s + 1))] [] A = zgo false (d + 3) 61 144 [zr 7 0, zi (nI dv), zi x2, zi (nI (s + 1))] [] A1 := by
      rw [B61_134, if_neg c1, e1]
      rfl
    rw [k0, B61_144]
    by_cases c11 : 11 < s + 1
    · have c : (11 : Int32) < nI (s + 1) := nI_lt (a := 11) c11 (by omega)
      obtain ⟨A', e, f, w⟩ := L61d d dv x2 hO hQ s A1 (by omega) hA1 hH1 hS1 ⟨h1.1, fun t t1 t2 => by omega⟩
      refine ⟨A', ?_, zFo_trans f1 f, w⟩
      rw [if_pos c, B61_158, ep]
      exact e
    · have c : ¬ (11 : Int32) < nI (s + 1) := nI_nlt (a := 11) (by omega) (by omega)
      have hp2 : oPl (s + 1) true = 42 + (s + 1) := if_pos ⟨rfl, by omega⟩
      have e42 : 42 + nI (s + 1) = nI (42 + (s + 1)) := by rw [show (42 : Int32) = nI 42 from rfl, nI_add]
      have e2 := S79 d (s + 1) true ⟨by omega, hs⟩ zu zu hA1 hH1 hO hQ hS1 (pre true A1 ⟨fun t t1 t2 => h1.1 t (by omega) t2, h1.2⟩)
      rw [hp2] at e2
      let A2 := zsI (zsI A1 39 0 (42 + (s + 1)) (yI (oDe o O (s + 1) true))) 40 0 (42 + (s + 1)) (yI (oDb o O (s + 1) true))
      have f2 : zFo (fun a b c => (a = 39 ∨ a = 40) ∧ b = 0) A1 A2 := zFo_sI (zFo_sI (zFo_refl _ A1) ⟨Or.inl rfl, rfl⟩) ⟨Or.inr rfl, rfl⟩
      have h2 : oDn A2 o O (s + 1) (s + 1) := oDn_set h1
      obtain ⟨A', e, f, w⟩ := L61d d dv x2 hO hQ s A2 (by omega) (Raf_fr hA1 f2 (fun v z => by rcases z.1 with z | z <;> cases z)) (oH_fr hH1 f2 (fun v z => by rcases z.1 with z | z <;> cases z) (fun z => by rcases z.1 with z | z <;> cases z)) (oSd_fr hS1 f2 (fun v z => by rcases z.1 with z | z <;> cases z)) h2
      refine ⟨A', ?_, zFo_trans f1 (zFo_trans f2 f), w⟩
      rw [if_neg c, e42, e2, zbsome, zpu0, B61_158, ep]
      exact e
/-- 'face' -/
theorem S61 (d dv : Nat) (hd : 1 ≤ dv ∧ dv ≤ 10) (u2 u3 : zV) {A : zM} {o q : Nat → Nat} (hA : Raf A) (hH : oH A o) (hR : oR A q) (hE : oEn A o q 1 1) : ∃ A', zgo false (d + 3) 61 0 [zr 7 0, zi (nI dv), u2, u3] [] A = some (none, A') ∧ zFo oFf A A' ∧ oOp A' (oO o q dv) ∧ oSd A' (oO o q dv) ∧ oDn A' o (oO o q dv) 1 1 := by
  obtain ⟨A1, e1, f1, w1⟩ := L61a (d + 1) dv hd 8 0 A u3 rfl hH hR hE (fun k hk => by omega)
  have hH1 := oH_fr hH f1 (fun v z => by cases z.1) (fun z => by cases z.1)
  let m : Nat := if dv = 1 then o 10 else if dv = 10 then o 1 else 0
  have hm : m ≤ 416 := by
    have h10 : o 10 ≤ ysm o := by unfold ysm; omega
    have h11 : o 1 ≤ ysm o := by unfold ysm; omega
    have := hH.2.2.2
    show (if dv = 1 then o 10 else if dv = 10 then o 1 else 0) ≤ 416
    by_cases z : dv = 1
    · rw [if_pos z]; omega
    · rw [if_neg z]
      by_cases z : dv = 10
      · rw [if_pos z]; omega
      · rw [if_neg z]; omega
  let A2 := zsI A1 37 0 8 (yI (oO o q dv 8))
  have f2 : zFo (fun a b c => a = 37 ∧ b = 0) A1 A2 := zFo_sI (zFo_refl _ A1) ⟨rfl, rfl⟩
  have h2 : oOp A2 (oO o q dv) := fun k hk => by
    rw [zgI_sI]
    by_cases z : k = 8
    · rw [if_pos ⟨rfl, rfl, z⟩, z]
    · rw [if_neg (by omega)]
      exact w1 k (by omega)
  have e2 : zgo false (d + 3) 61 3 [zr 7 0, zi (nI dv), zi (nI 23), u3] [] A1 = zgo false (d + 3) 61 87 [zr 7 0, zi (nI dv), zi (nI m), zi 1] [] A2 := by
    have a10 : ∀ d, zgo false d 169 0 [zr 33 0, zi 10] [] A1 = some (some (zi (nI (o 10))), A1) := fun d => (at33n false d 0 10 A1 (by omega)).trans (by rw [hH1.1 10 (by omega) (by omega)])
    have a01 : ∀ d, zgo false d 169 0 [zr 33 0, zi 1] [] A1 = some (some (zi (nI (o 1))), A1) := fun d => (at33n false d 0 1 A1 (by omega)).trans (by rw [hH1.1 1 (by omega) (by omega)])
    have l1 : nI dv = 1 ↔ dv = 1 := nI_eq (b := 1) (by omega) (by omega)
    have l10 : nI dv = 10 ↔ dv = 10 := nI_eq (b := 10) (by omega) (by omega)
    have k67 : zgo false (d + 3) 61 3 [zr 7 0, zi (nI dv), zi (nI 23), u3] [] A1 = zgo false (d + 3) 61 67 [zr 7 0, zi (nI dv), zi (nI 23), u3] [zi (nI m)] A1 := by
      rw [B61_3, if_pos (by decide)]
      by_cases z : dv = 1
      · have em : m = o 10 := if_pos z
        rw [if_pos (l1.mpr z), a10, zbsome, zpu1, B61_46, em]
      · rw [if_neg (mt l1.mp z)]
        by_cases z2 : dv = 10
        · have em : m = o 1 := by
            show (if dv = 1 then o 10 else if dv = 10 then o 1 else 0) = _
            rw [if_neg z, if_pos z2]
          rw [if_pos (l10.mpr z2), a01, zbsome, zpu1, B61_63, em]
        · have em : m = 0 := by
            show (if dv = 1 then o 10 else if dv = 10 then o 1 else 0) = _
            rw [if_neg z, if_neg z2]
          rw [if_neg (mt l10.mp z2), em]
          rfl
    have e72 : zgo false (d + 2) 72 0 [zr 7 0, zi (nI m * 1000000)] [] A1 = some (some (zi (yI (oO o q dv 8))), A1) := by
      rw [yI_nat, show (1000000 : Int32) = yI 1000000 from rfl, yI_mul, S72y _ _ hH1 ⟨by omega, by omega⟩, oO_nat o q dv hd]
    rw [k67, B61_67, e72, zbsome]
    show zgo false (d + 3) 61 82 [zr 7 0, zi (nI dv), zi (nI m), u3] [zi (yI (oO o q dv 8)), zi 8, zr 37 0] A1 = _
    have s8 : ∀ d, zgo false d 170 0 [zr 37 0, zi 8, zi (yI (oO o q dv 8))] [] A1 = some (none, A2) := fun d => se37n false d 0 8 _ A1 (by omega)
    rw [B61_82, s8, zbsome, zpu0, B61_85]
  have hN := hH.2.2.1
  obtain ⟨A3, e3, f3, w3⟩ := L61c d dv (nI m) (oO o q dv) 22 0 A2 rfl h2 (fun t t1 t2 => by omega)
  have hA3 : Raf A3 := Raf_fr (Raf_fr (Raf_fr hA f1 (fun v z => by cases z.1)) f2 (fun v z => by cases z.1)) f3 (fun v z => by cases z.1)
  have hH3 : oH A3 o := oH_fr (oH_fr hH1 f2 (fun v z => by cases z.1) (fun z => by cases z.1)) f3 (fun v z => by cases z.1) (fun z => by cases z.1)
  obtain ⟨A4, e4, f4, w4⟩ := L61d d dv (nI m) (o := o) (O := oO o q dv) (fun k => oO_nn dv k) (oO_q hN dv) 21 A3 (by omega) hA3 hH3 w3 ⟨fun t t1 t2 => by omega, fun t t1 t2 => by omega⟩
  refine ⟨A4, ?_, zFo_trans (zFo_mono f1 (fun a b c z => ⟨z.2, by have := z.1; omega⟩)) (zFo_trans (zFo_mono f2 (fun a b c z => ⟨z.2, by have := z.1; omega⟩)) (zFo_trans (zFo_mono f3 (fun a b c z => ⟨z.2, by have := z.1; omega⟩)) (zFo_mono f4 (fun a b c z => ⟨z.2, by have := z.1; omega⟩)))), fun k hk => ?_, oSd_fr w3 f4 (fun v z => by rcases z.1 with z | z <;> cases z), w4⟩
  · rw [B61_0]
    exact e1.trans (e2.trans (e3.trans e4))
  · rw [(f4 37 0 k (by omega)).1, (f3 37 0 k (by omega)).1]
    exact h2 k hk
