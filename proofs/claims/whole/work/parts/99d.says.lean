/-! ===== 'says' ===== -/
def oSu (f : Nat → Int) : Nat → Int
  | 0 => 0
  | n + 1 => oSu f n + f n
theorem oSu_congr {f g : Nat → Int} : ∀ n, (∀ i, i < n → f i = g i) → oSu f n = oSu g n
  | 0, _ => rfl
  | n + 1, h => by
    show oSu f n + f n = oSu g n + g n
    rw [oSu_congr n (fun i hi => h i (by omega)), h n (by omega)]
theorem oSu_add {f g : Nat → Int} : ∀ n, oSu (fun i => f i + g i) n = oSu f n + oSu g n
  | 0 => rfl
  | n + 1 => by
    show oSu (fun i => f i + g i) n + (f n + g n) = (oSu f n + f n) + (oSu g n + g n)
    rw [oSu_add n]
    omega
theorem oSu_first {f : Nat → Int} : ∀ n, oSu f (n + 1) = f 0 + oSu (fun i => f (i + 1)) n
  | 0 => by
    show 0 + f 0 = f 0 + 0
    omega
  | n + 1 => by
    show oSu f (n + 1) + f (n + 1) = f 0 + (oSu (fun i => f (i + 1)) n + f (n + 1))
    rw [oSu_first n]
    omega
/-- pairs by the later one, and by the earlier one -/
theorem oSu_pairs {g : Nat → Nat → Int} (hg : ∀ i j, g i j = g j i) : ∀ n, oSu (fun i => oSu (g i) i) n = oSu (fun i => oSu (fun t => g i (i + 1 + t)) (n - (i + 1))) n
  | 0 => rfl
  | n + 1 => by
    show oSu (fun i => oSu (g i) i) n + oSu (g n) n = oSu (fun i => oSu (fun t => g i (i + 1 + t)) (n + 1 - (i + 1))) n + oSu (fun t => g n (n + 1 + t)) (n + 1 - (n + 1))
    rw [oSu_pairs hg n, Nat.sub_self]
    have e : oSu (fun i => oSu (fun t => g i (i + 1 + t)) (n + 1 - (i + 1))) n = oSu (fun i => oSu (fun t => g i (i + 1 + t)) (n - (i + 1)) + g n i) n := by
      refine oSu_congr n (fun i hi => ?_)
      show oSu (fun t => g i (i + 1 + t)) (n + 1 - (i + 1)) = oSu (fun t => g i (i + 1 + t)) (n - (i + 1)) + g n i
      rw [show n + 1 - (i + 1) = (n - (i + 1)) + 1 by omega]
      show oSu (fun t => g i (i + 1 + t)) (n - (i + 1)) + g i (i + 1 + (n - (i + 1))) = _
      rw [show i + 1 + (n - (i + 1)) = n by omega, hg i n]
    rw [e, oSu_add]
    show oSu _ n + oSu (g n) n = (oSu _ n + oSu (fun i => g n i) n) + 0
    rw [Int.add_zero]
def oCm (x y : Int) : Int := if x < y then -1 else if x = y then 0 else 1
theorem oCm_neg (x y : Int) : oCm x y = -oCm y x := by
  unfold oCm
  rcases Int.lt_trichotomy x y with h | h | h
  · rw [if_pos h, if_neg (by omega), if_neg (by omega)]
  · rw [if_neg (by omega), if_pos h, if_neg (by omega), if_pos h.symm]
    rfl
  · rw [if_neg (by omega), if_neg (by omega), if_pos h]
    rfl
def oAg (T W : Nat → Int) (i j : Nat) : Int := oCm (T i) (T j) * oCm (W i) (W j)
theorem oAg_sym (T W : Nat → Int) (i j : Nat) : oAg T W i j = oAg T W j i := by
  unfold oAg
  rw [oCm_neg (T i) (T j), oCm_neg (W i) (W j), Int.neg_mul_neg]
theorem S314 (b : Bool) (d : Nat) (x y : Int32) (M : zM) : zgo b d 314 0 [zi x, zi y] [] M = some (some (zi (yI (oCm x.toInt y.toInt))), M) := by
  rw [B314_0, B314_19, B314_19, B314_19]
  unfold oCm
  by_cases c : y ≤ x
  · rw [if_pos c, if_neg (show ¬ x.toInt < y.toInt by rw [Int32.le_iff_toInt_le] at c; omega)]
    by_cases c2 : x = y
    · rw [if_pos c2, if_pos (by rw [c2])]
      rfl
    · rw [if_neg c2, if_neg (fun z => c2 (Int32.toInt_inj.mp z))]
      rfl
  · rw [if_neg c, if_pos (show x.toInt < y.toInt by rw [Int32.le_iff_toInt_le] at c; omega)]
    rfl
/-- what was left, in numbers -/
def yLl (M : zM) (h v : Nat) : Nat := (zgI M 28 h v).toInt.toNat
theorem nI_toNat2 {n : Nat} (h : n ≤ 1000) : (nI n).toInt.toNat = n := by
  have e : (nI n).toInt = (n : Int) := yI_int (x := (n : Int)) ⟨by omega, by omega⟩
  rw [e]
  omega
theorem yLl_of {A B : zM} {di h : Nat} {lf : Nat → Nat} (hl : yLft di h A B lf) : (∀ v, 1 ≤ v → v ≤ 10 → zgI A 28 di v = nI (yLl A di v) ∧ zgI B 95 0 (11 * h + v) = nI (yLl A di v)) ∧ zgI B 95 0 (11 * h) = nI (ysm (yLl A di)) ∧ 0 < ysm (yLl A di) ∧ ysm (yLl A di) ≤ 416 := by
  obtain ⟨h1, h2, h3, h4⟩ := hl
  have e : ∀ v, 1 ≤ v → v ≤ 10 → yLl A di v = lf v := fun v v1 v2 => by
    unfold yLl
    rw [(h1 v v1 v2).1]
    have := oLe (o := lf) h4 (n := v - 1) (by omega)
    rw [show v - 1 + 1 = v by omega] at this
    exact nI_toNat2 (by omega)
  have es : ysm (yLl A di) = ysm lf := by
    unfold ysm
    rw [e 1 (by omega) (by omega), e 2 (by omega) (by omega), e 3 (by omega) (by omega), e 4 (by omega) (by omega), e 5 (by omega) (by omega), e 6 (by omega) (by omega), e 7 (by omega) (by omega), e 8 (by omega) (by omega), e 9 (by omega) (by omega), e 10 (by omega) (by omega)]
  refine ⟨fun v v1 v2 => ?_, ?_, by omega, by omega⟩
  · rw [e v v1 v2]
    exact h1 v v1 v2
  · rw [es]
    exact h2
def oSy (a b c : Nat) : Prop := (a = 4 ∧ b < 60 ∧ c = 16) ∨ (b = 1 ∧ (a = 33 ∨ a = 34 ∨ a = 36 ∨ a = 7 ∨ (37 ≤ a ∧ a ≤ 42)))
theorem oSy_own {a b c : Nat} (h : oSy a b c) : zo 12 (zown a b c) = true := by
  rcases h with ⟨rfl, h, rfl⟩ | ⟨rfl, rfl | rfl | rfl | rfl | h⟩
  · rw [show zown 4 b 16 = if b < 60 ∧ (16 : Nat) ≠ 16 then 7 else 12 from rfl, if_neg (fun z => z.2 rfl)]
    rfl
  · rfl
  · rfl
  · rfl
  · rfl
  · rcases (by omega : a = 37 ∨ a = 38 ∨ a = 39 ∨ a = 40 ∨ a = 41 ∨ a = 42) with rfl | rfl | rfl | rfl | rfl | rfl <;> rfl
def mSy (a b _c : Nat) : Prop := b = 0 ∧ ((76 ≤ a ∧ a ≤ 82) ∨ a = 96)
theorem mSy_own {a b c : Nat} (h : mSy a b c) : zo 12 (zown a b c) = true := by
  obtain ⟨rfl, h⟩ := h
  rcases (by omega : a = 76 ∨ a = 77 ∨ a = 78 ∨ a = 79 ∨ a = 80 ∨ a = 81 ∨ a = 82 ∨ a = 96) with rfl | rfl | rfl | rfl | rfl | rfl | rfl | rfl <;> rfl
theorem L149 (d n : Nat) (hn : n ≤ 60) {M : zM} {q : Nat → Nat} (hR : (∀ w, w < 4 → zgI M 29 0 w = nI (q w)) ∧ (q 0 ≤ 1 ∧ 100 ≤ q 1 ∧ q 1 ≤ 200 ∧ q 2 ≤ 1 ∧ 15 ≤ q 3 ∧ q 3 ≤ 19)) (hm : zgI M 12 0 13 = nI n) (hd : ∀ h, h < n → yDl h h M M) : ∀ (j m : Nat) (A : zM) (u2 u3 : zV), m + j = n → zFo oSy M A → RafJ A → (∀ h, h < m → zgI A 4 h 16 = yI (oWh (yLl M h) q)) → ∃ (A' : zM) (v2 v3 : zV), zgo false (d + 6) 149 12 [zr 12 0, zi (nI m), u2, u3] [] A = zgo false (d + 6) 149 76 [zr 12 0, zi (nI 0), zi (nI 0), v3] [] A' ∧ zFo oSy M A' ∧ (∀ h, h < n → zgI A' 4 h 16 = yI (oWh (yLl M h) q))
  | 0, m, A, u2, u3, hj, f, hA, hw => by
    have hj : m = n := hj
    subst hj
    have e13 : zgI A 12 0 13 = nI m := ((f 12 0 13 (by unfold oSy; omega)).1).trans hm
    refine ⟨A, u2, u3, ?_, f, hw⟩
    rw [B149_12, e13, if_pos (nI_le (by omega) (by omega))]
    rfl
  | j + 1, m, A, u2, u3, hj, f, hA, hw => by
    have e13 : zgI A 12 0 13 = nI n := ((f 12 0 13 (by unfold oSy; omega)).1).trans hm
    obtain ⟨l1, l2, l3, l4⟩ := yLl_of (hd m (by omega)).2.2.2.2.2.choose_spec
    obtain ⟨A1, e1, f1, a1, a2, a3, a4⟩ := S60J (d + 2) 28 m zu (o := yLl M m) (q := q) A (by omega) (fun d v A' hv => at28n false d m v A' (by omega)) (fun v v1 v2 => ((f 28 m v (by unfold oSy; omega)).1).trans (l1 v v1 v2).1) ⟨l3, l4⟩ (fun w hw => ((f 29 0 w (by unfold oSy; omega)).1).trans (hR.1 w hw)) hR.2 hA
    obtain ⟨A2, e2, f2⟩ := S66J d zu zu zu a1 a2 a3 a4
    have f12 : zFo oSy A A2 := zFo_trans (zFo_mono f1 (fun a b c z => by unfold oFlJ at z; unfold oSy; omega)) (zFo_mono f2 (fun a b c z => by unfold oFgJ at z; unfold oSy; omega))
    have f12b : zFo (fun a b _ => b = 1 ∧ (a = 33 ∨ a = 34 ∨ a = 36 ∨ a = 7 ∨ (37 ≤ a ∧ a ≤ 42))) A A2 := zFo_trans (zFo_mono f1 (fun a b c z => by unfold oFlJ at z; omega)) (zFo_mono f2 (fun a b c z => by unfold oFgJ at z; omega))
    have hA2 : RafJ A2 := Raf_frJ a1 f2 (fun v z => by unfold oFgJ at z; omega)
    obtain ⟨A', v2, v3, e, g, w⟩ := L149 d n hn hR hm hd j (m + 1) (zsI A2 4 m 16 (yI (oWh (yLl M m) q))) (zr 4 m) u3 (by omega) (zFo_sI (zFo_trans f f12) (Or.inl ⟨rfl, by omega, rfl⟩)) hA2 (fun h hh => by
      rw [zgI_sI]
      by_cases z : h = m
      · rw [if_pos ⟨rfl, z, rfl⟩, z]
      · rw [if_neg (fun y => z y.2.1), (f12b 4 h 16 (by omega)).1]
        exact hw h (by omega))
    refine ⟨A', v2, v3, ?_, g, w⟩
    rw [B149_12, e13, if_neg (nI_ge (by omega) (by omega)), S182n _ _ _ _ e13 hn (by omega), zbsome]
    show zgo false (d + 6) 149 25 [zr 12 0, zi (nI m), u2, u3] [zr 4 m] A = _
    rw [B149_25, zq40, cond_false, zq44, cond_true, e1, zbsome]
    show zgo false (d + 6) 149 49 [zr 12 0, zi (nI m), zr 4 m, u3] [zi 1, zr 4 m] A1 = _
    rw [B149_49, if_neg (by decide), e2, zbsome]
    show zgo false (d + 6) 149 59 [zr 12 0, zi (nI m), zr 4 m, u3] [zi (yI (oWh (yLl M m) q)), zr 4 m] A2 = _
    rw [B149_59, B149_63, B149_66, nI_1]
    exact e
theorem S190 (d i j : Nat) {A : zM} {T W : Nat → Int} (h1 : ∀ h, h = i ∨ h = j → (zgI A 4 h 15).toInt = T h) (h2 : ∀ h, h = i ∨ h = j → zgI A 4 h 16 = yI (W h) ∧ -3000000 ≤ W h ∧ W h ≤ 3000000) : zgo false (d + 1) 190 0 [zr 4 i, zr 4 j] [] A = some (some (zi (yI (oAg T W i j))), A) := by
  have w : ∀ h, h = i ∨ h = j → (zgI A 4 h 16).toInt = W h := fun h hh => by
    rw [(h2 h hh).1]
    exact yI_int ⟨by have := (h2 h hh).2; omega, by have := (h2 h hh).2; omega⟩
  rw [B190_0, zq40, cond_false, cond_false, zq44, cond_true, cond_true, S314, zbsome, zpu1, B190_21, S314, zbsome]
  show zgo false (d + 1) 190 32 _ [zi _, zi _] A = _
  rw [B190_32, h1 i (Or.inl rfl), h1 j (Or.inr rfl), w i (Or.inl rfl), w j (Or.inr rfl), yI_mul]
  rfl
theorem L149j (d n i : Nat) (hn : n ≤ 60) (hi : i < n) {A : zM} {T W : Nat → Int} (hm : zgI A 12 0 13 = nI n) (h1 : ∀ h, h < n → (zgI A 4 h 15).toInt = T h) (h2 : ∀ h, h < n → zgI A 4 h 16 = yI (W h) ∧ -3000000 ≤ W h ∧ W h ≤ 3000000) : ∀ (k j : Nat) (X : Int), j + k = i → zgo false (d + 2) 149 86 [zr 12 0, zi (yI (X + oSu (oAg T W i) j)), zi (nI i), zi (nI j)] [] A = zgo false (d + 2) 149 76 [zr 12 0, zi (yI (X + oSu (oAg T W i) i)), zi (nI (i + 1)), zi (nI i)] [] A
  | 0, j, X, hj => by
    have hj : j = i := hj
    subst hj
    rw [B149_86, if_pos (nI_le (by omega) (by omega)), nI_1]
  | k + 1, j, X, hj => by
    rw [← L149j d n i hn hi hm h1 h2 k (j + 1) X (by omega), B149_86, if_neg (nI_ge (by omega) (by omega)), S182n _ _ _ _ hm hn hi, zbsome]
    show zgo false (d + 2) 149 97 [zr 12 0, zi (yI (X + oSu (oAg T W i) j)), zi (nI i), zi (nI j)] [zr 4 i, zi (yI (X + oSu (oAg T W i) j))] A = _
    rw [B149_97, S182n _ _ _ _ hm hn (by omega), zbsome]
    show zgo false (d + 2) 149 102 [zr 12 0, zi (yI (X + oSu (oAg T W i) j)), zi (nI i), zi (nI j)] [zr 4 j, zr 4 i, zi (yI (X + oSu (oAg T W i) j))] A = _
    rw [B149_102, S190 d i j (fun h hh => h1 h (by omega)) (fun h hh => h2 h (by omega)), zbsome]
    show zgo false (d + 2) 149 105 [zr 12 0, zi (yI (X + oSu (oAg T W i) j)), zi (nI i), zi (nI j)] [zi (yI (oAg T W i j)), zi (yI (X + oSu (oAg T W i) j))] A = _
    rw [B149_105, yI_add, nI_1, Int.add_assoc]
    rfl
theorem L149i (d n : Nat) (hn : n ≤ 60) {A : zM} {T W : Nat → Int} (hm : zgI A 12 0 13 = nI n) (h1 : ∀ h, h < n → (zgI A 4 h 15).toInt = T h) (h2 : ∀ h, h < n → zgI A 4 h 16 = yI (W h) ∧ -3000000 ≤ W h ∧ W h ≤ 3000000) : ∀ (k i : Nat) (u3 : zV), i + k = n → zgo false (d + 2) 149 76 [zr 12 0, zi (yI (oSu (fun i => oSu (oAg T W i) i) i)), zi (nI i), u3] [] A = some (some (zi (yI (oSu (fun i => oSu (oAg T W i) i) n))), A)
  | 0, i, u3, hi => by
    have hi : i = n := hi
    subst hi
    rw [B149_76, hm, if_pos (nI_le (by omega) (by omega))]
  | k + 1, i, u3, hi => by
    rw [B149_76, hm, if_neg (nI_ge (by omega) (by omega))]
    have e := L149j d n i hn (by omega) hm h1 h2 i 0 (oSu (fun i => oSu (oAg T W i) i) i) (by omega)
    rw [show oSu (oAg T W i) 0 = 0 from rfl, Int.add_zero] at e
    exact e.trans (L149i d n hn hm h1 h2 k (i + 1) (zi (nI i)) (by omega))
/-! the model's -/
theorem L276v (d h : Nat) (hh : h < 60) (u3 u4 u5 : zV) {o : Nat → Nat} : ∀ (j m : Nat) (B : zM), m + j = 11 → (∀ v, v ≤ 10 → zgI B 95 0 (11 * h + v) = nI (if v = 0 then ysm o else o v)) → (∀ v, v < m → zgI B 76 0 v = nI (if v = 0 then ysm o else o v)) → ∃ B', zgo false (d + 1) 276 22 [zr 13 0, zi (nI h), zi (nI m), u3, u4, u5] [] B = zgo false (d + 1) 276 22 [zr 13 0, zi (nI h), zi (nI 11), u3, u4, u5] [] B' ∧ zFo (fun a b _ => a = 76 ∧ b = 0) B B' ∧ ∀ v, v ≤ 10 → zgI B' 76 0 v = nI (if v = 0 then ysm o else o v)
  | 0, m, B, hm, _, hv => by
    have hm : m = 11 := hm
    subst hm
    exact ⟨B, rfl, zFo_refl _ B, fun v v1 => hv v (by omega)⟩
  | j + 1, m, B, hm, hl, hv => by
    have c : ¬ (10 : Int32) < nI m := nI_nlt (a := 10) (by omega) (by omega)
    have e1 : 11 * nI h + nI m = nI (11 * h + m) := by rw [show (11 : Int32) = nI 11 from rfl, pk_mul, nI_add]
    have z1 : zin (nI (11 * h + m)) 660 = true := zin_nI (by omega) (by omega)
    have z2 : zin (nI m) 11 = true := zin_nI (by omega) (by omega)
    have c1 : (nI m).toNatClampNeg = m := nI_clamp (by omega)
    have c2 : (nI (11 * h + m)).toNatClampNeg = 11 * h + m := nI_clamp (by omega)
    obtain ⟨B', e, f, w⟩ := L276v d h hh u3 u4 u5 j (m + 1) (zsI B 76 0 m (nI (if m = 0 then ysm o else o m))) (by omega) hl (fun v v2 => by
      rw [zgI_sI]
      by_cases z : v = m
      · rw [if_pos ⟨rfl, rfl, z⟩, z]
      · rw [if_neg (by omega)]
        exact hv v (by omega))
    refine ⟨B', ?_, zFo_trans (zFo_sI (zFo_refl _ B) ⟨rfl, rfl⟩) f, w⟩
    rw [B276_22, if_neg c, e1, if_pos z1, if_pos z2, c1, c2, hl m (by omega), B276_45, nI_1]
    exact e
theorem L276 (d n : Nat) (hn : n ≤ 60) {M : zM} {q : Nat → Nat} (hR : mR M q) (hm : zgI M 13 0 45 = nI n) (O : Nat → Nat → Nat) (hd : ∀ h, h < n → (∀ v, 1 ≤ v → v ≤ 10 → zgI M 95 0 (11 * h + v) = nI (O h v)) ∧ zgI M 95 0 (11 * h) = nI (ysm (O h)) ∧ 0 < ysm (O h) ∧ ysm (O h) ≤ 416) (u4 u5 : zV) : ∀ (j m : Nat) (B : zM) (u2 u3 : zV), m + j = n → zFo mSy M B → (∀ h, h < m → zgL B 96 0 h = yJ (oWh (O h) q)) → ∃ (B' : zM) (v3 : zV), zgo false (d + 27) 276 12 [zr 13 0, zi (nI m), u2, u3, u4, u5] [] B = zgo false (d + 27) 276 84 [zr 13 0, zi (nI 0), zi (nI 0), v3, u4, u5] [] B' ∧ zFo mSy M B' ∧ (∀ h, h < n → zgL B' 96 0 h = yJ (oWh (O h) q))
  | 0, m, B, u2, u3, hj, f, hw => by
    have hj : m = n := hj
    subst hj
    have e13 : zgI B 13 0 45 = nI m := ((f 13 0 45 (by unfold mSy; omega)).1).trans hm
    refine ⟨B, u3, ?_, f, hw⟩
    rw [B276_12, e13, if_pos (nI_le (by omega) (by omega))]
    rfl
  | j + 1, m, B, u2, u3, hj, f, hw => by
    have e13 : zgI B 13 0 45 = nI n := ((f 13 0 45 (by unfold mSy; omega)).1).trans hm
    obtain ⟨l1, l2, l3, l4⟩ := hd m (by omega)
    obtain ⟨B1, e1, f1, w1⟩ := L276v (d + 26) m (by omega) u3 u4 u5 (o := O m) 11 0 B rfl (fun v v1 => by
      rw [(f 95 0 _ (by unfold mSy; omega)).1]
      by_cases z : v = 0
      · rw [if_pos z, z]
        exact l2
      · rw [if_neg z]
        exact l1 v (by omega) v1) (fun v v1 => by omega)
    have hH1 : mH B1 (O m) := ⟨fun v v1 v2 => by rw [w1 v v2, if_neg (by omega)], w1 0 (by omega), l3, l4⟩
    have fB1 : zFo mSy M B1 := zFo_trans f (zFo_mono f1 (fun a b c z => by unfold mSy; omega))
    have hR1 : mR B1 q := mR_fr hR fB1 (fun v z => by unfold mSy at z; omega)
    obtain ⟨B2, e2, f2⟩ := S256 d zu zu zu zu zu zu zu zu zu hH1 hR1
    have f12 : zFo (fun a b _ => b = 0 ∧ 76 ≤ a ∧ a ≤ 82) B B2 := zFo_trans (zFo_mono f1 (fun a b c z => by omega)) (zFo_mono f2 (fun a b c z => by unfold mFw at z; omega))
    obtain ⟨B', v3, e, g, w⟩ := L276 d n hn hR hm O hd u4 u5 j (m + 1) (zsL B2 96 0 m (yJ (oWh (O m) q))) (zi (nI 11)) u3 (by omega) (zFo_sL (zFo_trans f (zFo_mono f12 (fun a b c z => by unfold mSy; omega))) ⟨rfl, Or.inr rfl⟩) (fun h hh => by
      rw [zgL_sL]
      by_cases z : h = m
      · rw [if_pos ⟨rfl, rfl, z⟩, z]
      · rw [if_neg (fun y => z y.2.2), (f12 96 0 h (by omega)).2.1]
        exact hw h (by omega))
    refine ⟨B', v3, ?_, g, w⟩
    have z0 : zin 0 11 = true := rfl
    have n0 : ¬ zgI B1 76 0 (0 : Int32).toNatClampNeg = 0 := by
      have e0 : zgI B1 76 0 (0 : Int32).toNatClampNeg = nI (ysm (O m)) := w1 0 (by omega)
      rw [e0]
      exact nI_ne0 l3 (by omega)
    have z60 : zin (nI m) 60 = true := zin_nI (by omega) (by omega)
    have c60 : (nI m).toNatClampNeg = m := nI_clamp (by omega)
    have k : zgo false (d + 27) 276 22 [zr 13 0, zi (nI m), zi (nI 11), u3, u4, u5] [] B1 = zgo false (d + 27) 276 73 [zr 13 0, zi (nI m), zi (nI 11), u3, u4, u5] [zl (yJ (oWh (O m) q)), zi (nI m), zr 96 0] B2 := by
      rw [B276_22, if_pos (by decide), if_pos z0, if_neg n0, e2, zbsome]
      rfl
    rw [B276_12, e13, if_neg (nI_ge (by omega) (by omega))]
    refine e1.trans ?_
    rw [k, B276_73, if_pos z60, c60, nI_1]
    exact e
theorem L276j (d n i : Nat) (hn : n ≤ 60) (hi : i < n) {B : zM} {T W : Nat → Int} (hm : zgI B 13 0 45 = nI n) (h1 : ∀ h, h < n → (zgI B 86 0 h).toInt = T h) (h2 : ∀ h, h < n → zgL B 96 0 h = yJ (W h) ∧ -3000000 ≤ W h ∧ W h ≤ 3000000) : ∀ (k j : Nat) (X : Int) (u4 u5 : zV), j + k = n → i < j → ∃ (v3 v4 v5 : zV), zgo false d 276 96 [zr 13 0, zi (yI X), zi (nI i), zi (nI j), u4, u5] [] B = zgo false d 276 84 [zr 13 0, zi (yI (X + oSu (fun t => oAg T W i (j + t)) k)), zi (nI (i + 1)), v3, v4, v5] [] B
  | 0, j, X, u4, u5, hj, hij => by
    have hj : j = n := hj
    subst hj
    refine ⟨zi (nI j), u4, u5, ?_⟩
    rw [B276_96, hm, if_pos (nI_le (by omega) (by omega)), nI_1, show oSu (fun t => oAg T W i (j + t)) 0 = 0 from rfl, Int.add_zero]
  | k + 1, j, X, u4, u5, hj, hij => by
    have zi60 : zin (nI i) 60 = true := zin_nI (by omega) (by omega)
    have zj60 : zin (nI j) 60 = true := zin_nI (by omega) (by omega)
    have ci : (nI i).toNatClampNeg = i := nI_clamp (by omega)
    have cj : (nI j).toNatClampNeg = j := nI_clamp (by omega)
    have t1 := h1 i hi
    have t2 := h1 j (by omega)
    have l1 : zgI B 86 0 i ≤ zgI B 86 0 j ↔ T i ≤ T j := by rw [Int32.le_iff_toInt_le, t1, t2]
    have l2 : zgI B 86 0 j ≤ zgI B 86 0 i ↔ T j ≤ T i := by rw [Int32.le_iff_toInt_le, t1, t2]
    obtain ⟨w1, w1b⟩ := h2 i hi
    obtain ⟨w2, w2b⟩ := h2 j (by omega)
    have l3 : lg_cmp (zgL B 96 0 i) (zgL B 96 0 j) ≤ 0 ↔ W i ≤ W j := by
      rw [w1, w2, lg_cmp_le]
      exact yJ_le ⟨by omega, by omega⟩ ⟨by omega, by omega⟩
    have l4 : 0 ≤ lg_cmp (zgL B 96 0 i) (zgL B 96 0 j) ↔ W j ≤ W i := by
      rw [w1, w2, lg_cmp_ge]
      exact yJ_le ⟨by omega, by omega⟩ ⟨by omega, by omega⟩
    have k143 : zgo false d 276 96 [zr 13 0, zi (yI X), zi (nI i), zi (nI j), u4, u5] [] B = zgo false d 276 143 [zr 13 0, zi (yI X), zi (nI i), zi (nI j), u4, u5] [zi (yI (oCm (T i) (T j)))] B := by
      rw [B276_96, hm, if_neg (nI_ge (by omega) (by omega)), if_pos zi60, if_pos zj60, ci, cj, if_pos zi60, if_pos zj60]
      unfold oCm
      by_cases c : T i ≤ T j
      · rw [if_pos (l1.mpr c)]
        by_cases c2 : T j ≤ T i
        · rw [if_pos (l2.mpr c2), if_neg (by omega), if_pos (by omega)]
          rfl
        · rw [if_neg (mt l2.mp c2), if_pos (by omega)]
          rfl
      · rw [if_neg (mt l1.mp c), if_neg (by omega), if_neg (by omega)]
        rfl
    have k186 : ∀ x, zgo false d 276 143 [zr 13 0, zi (yI X), zi (nI i), zi (nI j), u4, u5] [zi x] B = zgo false d 276 186 [zr 13 0, zi (yI X), zi (nI i), zi (nI j), zi x, u5] [zi (yI (oCm (W i) (W j)))] B := by
      intro x
      rw [B276_143, if_pos zi60, if_pos zj60, ci, cj, if_pos zi60, if_pos zj60]
      unfold oCm
      by_cases c : W i ≤ W j
      · rw [if_pos (l3.mpr c)]
        by_cases c2 : W j ≤ W i
        · rw [if_pos (l4.mpr c2), if_neg (by omega), if_pos (by omega)]
          rfl
        · rw [if_neg (mt l4.mp c2), if_pos (by omega)]
          rfl
      · rw [if_neg (mt l3.mp c), if_neg (by omega), if_neg (by omega)]
        rfl
    obtain ⟨v3, v4, v5, e⟩ := L276j d n i hn hi hm h1 h2 k (j + 1) (X + oAg T W i j) (zi (yI (oCm (T i) (T j)))) (zi (yI (oCm (W i) (W j)))) (by omega) (by omega)
    refine ⟨v3, v4, v5, ?_⟩
    rw [k143, k186, B276_186, yI_mul, yI_add, nI_1]
    refine Eq.trans e ?_
    have es : X + oSu (fun t => oAg T W i (j + t)) (k + 1) = X + oAg T W i j + oSu (fun t => oAg T W i (j + 1 + t)) k := by
      rw [oSu_first, Nat.add_zero, oSu_congr (f := fun t => oAg T W i (j + (t + 1))) (g := fun t => oAg T W i (j + 1 + t)) k (fun t _ => by rw [show j + (t + 1) = j + 1 + t by omega])]
      omega
    rw [es]
theorem L276i (d n : Nat) (hn : n ≤ 60) {B : zM} {T W : Nat → Int} (hm : zgI B 13 0 45 = nI n) (h1 : ∀ h, h < n → (zgI B 86 0 h).toInt = T h) (h2 : ∀ h, h < n → zgL B 96 0 h = yJ (W h) ∧ -3000000 ≤ W h ∧ W h ≤ 3000000) : ∀ (k i : Nat) (u3 u4 u5 : zV), i + k = n → zgo false d 276 84 [zr 13 0, zi (yI (oSu (fun i => oSu (fun t => oAg T W i (i + 1 + t)) (n - (i + 1))) i)), zi (nI i), u3, u4, u5] [] B = some (some (zi (yI (oSu (fun i => oSu (fun t => oAg T W i (i + 1 + t)) (n - (i + 1))) n))), B)
  | 0, i, u3, u4, u5, hi => by
    have hi : i = n := hi
    subst hi
    rw [B276_84, hm, if_pos (nI_le (by omega) (by omega))]
  | k + 1, i, u3, u4, u5, hi => by
    obtain ⟨v3, v4, v5, e⟩ := L276j d n i hn (by omega) hm h1 h2 k (i + 1) (oSu (fun i => oSu (fun t => oAg T W i (i + 1 + t)) (n - (i + 1))) i) u4 u5 (by omega) (by omega)
    rw [B276_84, hm, if_neg (nI_ge (by omega) (by omega)), nI_1]
    refine e.trans ?_
    have hk : k = n - (i + 1) := by omega
    rw [hk]
    exact L276i d n hn hm h1 h2 k (i + 1) v3 v4 v5 (by omega)
/-- 'says' -/
theorem Q19 (d : Nat) (M : zM) (hR : Rrul M) (hA : RafJ M) (hL : Rled M) : ∃ (y : Int32) (M1 M2 : zM), zgo false (d + 28) 149 0 [zr 12 0, zu, zu, zu] [] M = some (some (zi y), M1) ∧ zgo false (d + 28) 276 0 [zr 13 0, zu, zu, zu, zu, zu] [] M1 = some (some (zi y), M2) ∧ zFr (zo 12) M M2 := by
  obtain ⟨n, hn, hm, hm2, hd⟩ := hL
  obtain ⟨q, hq, hq2⟩ := Rrul_q hR
  by_cases c : n = 0
  · refine ⟨-2000000000, M, M, ?_, ?_, zFr_refl _ M⟩
    · rw [B149_0, hm, c, if_pos (show nI 0 = 0 from rfl)]
    · rw [B276_0, hm2, c, if_pos (show nI 0 = 0 from rfl)]
  have n0 : ¬ nI n = 0 := nI_ne0 (by omega) (by omega)
  obtain ⟨A, v2, v3, e1, fA, wA⟩ := L149 (d + 22) n hn ⟨fun w hw => (hq w hw).1, hq2⟩ hm hd n 0 M zu zu (by omega) (zFo_refl _ M) hA (fun h hh => by omega)
  have wb : ∀ h, h < n → -3000000 ≤ oWh (yLl M h) q ∧ oWh (yLl M h) q ≤ 3000000 := fun h hh => oWh_b (yLl_of (hd h hh).2.2.2.2.2.choose_spec).2.2.1 hq2.2.2.1
  have hRA : mR A q := ⟨fun w hw => by
    rw [(fA 57 0 w (by unfold oSy; omega)).1]
    exact (hq w hw).2, hq2⟩
  obtain ⟨B, w3, e2, fB, wB⟩ := L276 (d + 1) n hn hRA (((fA 13 0 45 (by unfold oSy; omega)).1).trans hm2) (yLl M) (fun h hh => by
    obtain ⟨l1, l2, l3⟩ := yLl_of (hd h hh).2.2.2.2.2.choose_spec
    exact ⟨fun v v1 v2 => ((fA 95 0 _ (by unfold oSy; omega)).1).trans (l1 v v1 v2).2, ((fA 95 0 _ (by unfold oSy; omega)).1).trans l2, l3⟩) zu zu n 0 A zu zu (by omega) (zFo_refl _ A) (fun h hh => by omega)
  have ec := L149i (d + 26) n hn (A := A) (T := fun h => (zgI M 4 h 15).toInt) (W := fun h => oWh (yLl M h) q) (((fA 12 0 13 (by unfold oSy; omega)).1).trans hm) (fun h hh => by rw [(fA 4 h 15 (by unfold oSy; omega)).1]) (fun h hh => ⟨wA h hh, wb h hh⟩) n 0 v3 (by omega)
  have em := L276i (d + 28) n hn (B := B) (T := fun h => (zgI M 4 h 15).toInt) (W := fun h => oWh (yLl M h) q) (((fB 13 0 45 (by unfold mSy; omega)).1).trans (((fA 13 0 45 (by unfold oSy; omega)).1).trans hm2)) (fun h hh => by rw [(fB 86 0 h (by unfold mSy; omega)).1, (fA 86 0 h (by unfold oSy; omega)).1, (hd h hh).1.2.2.2.1]) (fun h hh => ⟨wB h hh, wb h hh⟩) n 0 w3 zu zu (by omega)
  refine ⟨yI (oSu (fun i => oSu (oAg (fun h => (zgI M 4 h 15).toInt) (fun h => oWh (yLl M h) q) i) i) n), A, B, ?_, ?_, zFr_trans (zFr_of fA (fun a b c z => oSy_own z)) (zFr_of fB (fun a b c z => mSy_own z))⟩
  · rw [B149_0, hm, if_neg n0]
    exact e1.trans ec
  · have e13 : zgI A 13 0 45 = nI n := ((fA 13 0 45 (by unfold oSy; omega)).1).trans hm2
    rw [B276_0, e13, if_neg n0, oSu_pairs (oAg_sym _ _)]
    exact e2.trans em
