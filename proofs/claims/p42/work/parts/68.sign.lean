/-! ===== signs of the tape; by program (wip/whole/src/gen68.py) ===== -/
def yS (c : Nat) : Int32 := if c < 256 then nI c else -1
def yL (c : Nat) : Int32 := if c < 256 then (nI c).toInt8.toInt32 else -1
def yC (n : Nat) (t : Nat → Nat) (p : Nat) : Nat := if p < n then t p else 256
theorem y8 : ∀ c, c < 256 → (nI c).toInt8.toInt32 = if c < 128 then nI c else nI c - 256 := by decide +kernel
theorem yS_k {c k : Nat} (hc : c ≤ 256) (hk : k < 128) : yS c = nI k ↔ c = k := by
  unfold yS
  by_cases h : c < 256
  · rw [if_pos h, nI_eq (by omega) (by omega)]
  · rw [if_neg h]
    have k0 : 0 ≤ nI k := nI_pos' (by omega)
    constructor
    · intro q
      rw [← q] at k0
      exact absurd k0 (by decide)
    · intro q
      omega
theorem yL_k {c k : Nat} (hc : c ≤ 256) (hk : k < 128) : yL c = nI k ↔ c = k := by
  unfold yL
  have k0 : 0 ≤ nI k := nI_pos' (by omega)
  by_cases h : c < 256
  · rw [if_pos h, y8 c h]
    by_cases h2 : c < 128
    · rw [if_pos h2, nI_eq (by omega) (by omega)]
    · rw [if_neg h2]
      have c0 : nI c ≤ 255 := nI_le (b := 255) (by omega) (by omega)
      have c1 : 128 ≤ nI c := nI_le (a := 128) (by omega) (by omega)
      constructor
      · intro q
        exfalso
        grind
      · intro q
        omega
  · rw [if_neg h]
    constructor
    · intro q
      rw [← q] at k0
      exact absurd k0 (by decide)
    · intro q
      omega
theorem yC_le {n : Nat} {t : Nat → Nat} (ht : ∀ s, s < n → t s < 256) (p : Nat) : yC n t p ≤ 256 := by
  unfold yC
  by_cases h : p < n
  · rw [if_pos h]
    exact Nat.le_of_lt (ht p h)
  · rw [if_neg h]
    exact Nat.le_refl _
theorem yC_lt {n : Nat} {t : Nat → Nat} {p : Nat} (h : yC n t p < 256) : p < n := by
  unfold yC at h
  by_cases q : p < n
  · exact q
  · rw [if_neg q] at h
    omega
theorem yS33 {c : Nat} (hc : c ≤ 256) : (yS c = 33) = (c = 33) := propext (yS_k (k := 33) hc (by omega))
theorem yL33 {c : Nat} (hc : c ≤ 256) : (yL c = 33) = (c = 33) := propext (yL_k (k := 33) hc (by omega))
theorem yS37 {c : Nat} (hc : c ≤ 256) : (yS c = 37) = (c = 37) := propext (yS_k (k := 37) hc (by omega))
theorem yL37 {c : Nat} (hc : c ≤ 256) : (yL c = 37) = (c = 37) := propext (yL_k (k := 37) hc (by omega))
theorem yS38 {c : Nat} (hc : c ≤ 256) : (yS c = 38) = (c = 38) := propext (yS_k (k := 38) hc (by omega))
theorem yL38 {c : Nat} (hc : c ≤ 256) : (yL c = 38) = (c = 38) := propext (yL_k (k := 38) hc (by omega))
theorem yS40 {c : Nat} (hc : c ≤ 256) : (yS c = 40) = (c = 40) := propext (yS_k (k := 40) hc (by omega))
theorem yL40 {c : Nat} (hc : c ≤ 256) : (yL c = 40) = (c = 40) := propext (yL_k (k := 40) hc (by omega))
theorem yS41 {c : Nat} (hc : c ≤ 256) : (yS c = 41) = (c = 41) := propext (yS_k (k := 41) hc (by omega))
theorem yL41 {c : Nat} (hc : c ≤ 256) : (yL c = 41) = (c = 41) := propext (yL_k (k := 41) hc (by omega))
theorem yS42 {c : Nat} (hc : c ≤ 256) : (yS c = 42) = (c = 42) := propext (yS_k (k := 42) hc (by omega))
theorem yL42 {c : Nat} (hc : c ≤ 256) : (yL c = 42) = (c = 42) := propext (yL_k (k := 42) hc (by omega))
theorem yS43 {c : Nat} (hc : c ≤ 256) : (yS c = 43) = (c = 43) := propext (yS_k (k := 43) hc (by omega))
theorem yL43 {c : Nat} (hc : c ≤ 256) : (yL c = 43) = (c = 43) := propext (yL_k (k := 43) hc (by omega))
theorem yS45 {c : Nat} (hc : c ≤ 256) : (yS c = 45) = (c = 45) := propext (yS_k (k := 45) hc (by omega))
theorem yL45 {c : Nat} (hc : c ≤ 256) : (yL c = 45) = (c = 45) := propext (yL_k (k := 45) hc (by omega))
theorem yS47 {c : Nat} (hc : c ≤ 256) : (yS c = 47) = (c = 47) := propext (yS_k (k := 47) hc (by omega))
theorem yL47 {c : Nat} (hc : c ≤ 256) : (yL c = 47) = (c = 47) := propext (yL_k (k := 47) hc (by omega))
theorem yS59 {c : Nat} (hc : c ≤ 256) : (yS c = 59) = (c = 59) := propext (yS_k (k := 59) hc (by omega))
theorem yL59 {c : Nat} (hc : c ≤ 256) : (yL c = 59) = (c = 59) := propext (yL_k (k := 59) hc (by omega))
theorem yS60 {c : Nat} (hc : c ≤ 256) : (yS c = 60) = (c = 60) := propext (yS_k (k := 60) hc (by omega))
theorem yL60 {c : Nat} (hc : c ≤ 256) : (yL c = 60) = (c = 60) := propext (yL_k (k := 60) hc (by omega))
theorem yS61 {c : Nat} (hc : c ≤ 256) : (yS c = 61) = (c = 61) := propext (yS_k (k := 61) hc (by omega))
theorem yL61 {c : Nat} (hc : c ≤ 256) : (yL c = 61) = (c = 61) := propext (yL_k (k := 61) hc (by omega))
theorem yS62 {c : Nat} (hc : c ≤ 256) : (yS c = 62) = (c = 62) := propext (yS_k (k := 62) hc (by omega))
theorem yL62 {c : Nat} (hc : c ≤ 256) : (yL c = 62) = (c = 62) := propext (yL_k (k := 62) hc (by omega))
theorem yS63 {c : Nat} (hc : c ≤ 256) : (yS c = 63) = (c = 63) := propext (yS_k (k := 63) hc (by omega))
theorem yL63 {c : Nat} (hc : c ≤ 256) : (yL c = 63) = (c = 63) := propext (yL_k (k := 63) hc (by omega))
theorem yS97 {c : Nat} (hc : c ≤ 256) : (yS c = 97) = (c = 97) := propext (yS_k (k := 97) hc (by omega))
theorem yL97 {c : Nat} (hc : c ≤ 256) : (yL c = 97) = (c = 97) := propext (yL_k (k := 97) hc (by omega))
theorem yS98 {c : Nat} (hc : c ≤ 256) : (yS c = 98) = (c = 98) := propext (yS_k (k := 98) hc (by omega))
theorem yL98 {c : Nat} (hc : c ≤ 256) : (yL c = 98) = (c = 98) := propext (yL_k (k := 98) hc (by omega))
theorem yS99 {c : Nat} (hc : c ≤ 256) : (yS c = 99) = (c = 99) := propext (yS_k (k := 99) hc (by omega))
theorem yL99 {c : Nat} (hc : c ≤ 256) : (yL c = 99) = (c = 99) := propext (yL_k (k := 99) hc (by omega))
theorem yS100 {c : Nat} (hc : c ≤ 256) : (yS c = 100) = (c = 100) := propext (yS_k (k := 100) hc (by omega))
theorem yL100 {c : Nat} (hc : c ≤ 256) : (yL c = 100) = (c = 100) := propext (yL_k (k := 100) hc (by omega))
theorem yS108 {c : Nat} (hc : c ≤ 256) : (yS c = 108) = (c = 108) := propext (yS_k (k := 108) hc (by omega))
theorem yL108 {c : Nat} (hc : c ≤ 256) : (yL c = 108) = (c = 108) := propext (yL_k (k := 108) hc (by omega))
theorem yS110 {c : Nat} (hc : c ≤ 256) : (yS c = 110) = (c = 110) := propext (yS_k (k := 110) hc (by omega))
theorem yL110 {c : Nat} (hc : c ≤ 256) : (yL c = 110) = (c = 110) := propext (yL_k (k := 110) hc (by omega))
theorem yS112 {c : Nat} (hc : c ≤ 256) : (yS c = 112) = (c = 112) := propext (yS_k (k := 112) hc (by omega))
theorem yL112 {c : Nat} (hc : c ≤ 256) : (yL c = 112) = (c = 112) := propext (yL_k (k := 112) hc (by omega))
theorem yS114 {c : Nat} (hc : c ≤ 256) : (yS c = 114) = (c = 114) := propext (yS_k (k := 114) hc (by omega))
theorem yL114 {c : Nat} (hc : c ≤ 256) : (yL c = 114) = (c = 114) := propext (yL_k (k := 114) hc (by omega))
theorem yS115 {c : Nat} (hc : c ≤ 256) : (yS c = 115) = (c = 115) := propext (yS_k (k := 115) hc (by omega))
theorem yL115 {c : Nat} (hc : c ≤ 256) : (yL c = 115) = (c = 115) := propext (yL_k (k := 115) hc (by omega))
theorem yS116 {c : Nat} (hc : c ≤ 256) : (yS c = 116) = (c = 116) := propext (yS_k (k := 116) hc (by omega))
theorem yL116 {c : Nat} (hc : c ≤ 256) : (yL c = 116) = (c = 116) := propext (yL_k (k := 116) hc (by omega))
theorem yS118 {c : Nat} (hc : c ≤ 256) : (yS c = 118) = (c = 118) := propext (yS_k (k := 118) hc (by omega))
theorem yL118 {c : Nat} (hc : c ≤ 256) : (yL c = 118) = (c = 118) := propext (yL_k (k := 118) hc (by omega))
theorem yS119 {c : Nat} (hc : c ≤ 256) : (yS c = 119) = (c = 119) := propext (yS_k (k := 119) hc (by omega))
theorem yL119 {c : Nat} (hc : c ≤ 256) : (yL c = 119) = (c = 119) := propext (yL_k (k := 119) hc (by omega))
theorem yS124 {c : Nat} (hc : c ≤ 256) : (yS c = 124) = (c = 124) := propext (yS_k (k := 124) hc (by omega))
theorem yL124 {c : Nat} (hc : c ≤ 256) : (yL c = 124) = (c = 124) := propext (yL_k (k := 124) hc (by omega))
def yDg (c : Nat) : Prop := 48 ≤ c ∧ c ≤ 57
theorem ySd {c : Nat} (hc : c ≤ 256) : (48 ≤ yS c ∧ yS c ≤ 57) ↔ yDg c := by
  unfold yDg yS
  by_cases h : c < 256
  · rw [if_pos h, show (48 : Int32) = nI 48 from rfl, show (57 : Int32) = nI 57 from rfl, nI_leI (by omega) (by omega), nI_leI (by omega) (by omega)]
  · rw [if_neg h]
    constructor
    · intro q
      exact absurd q.1 (by decide)
    · intro q
      omega
theorem yLd {c : Nat} (hc : c ≤ 256) : (48 ≤ yL c ∧ yL c ≤ 57) ↔ yDg c := by
  unfold yDg yL
  by_cases h : c < 256
  · rw [if_pos h, y8 c h]
    by_cases h2 : c < 128
    · rw [if_pos h2, show (48 : Int32) = nI 48 from rfl, show (57 : Int32) = nI 57 from rfl, nI_leI (by omega) (by omega), nI_leI (by omega) (by omega)]
    · rw [if_neg h2]
      have c0 : nI c ≤ 255 := nI_le (b := 255) (by omega) (by omega)
      have c1 : 128 ≤ nI c := nI_le (a := 128) (by omega) (by omega)
      constructor
      · rintro ⟨q1, q2⟩
        exfalso
        grind
      · intro q
        omega
  · rw [if_neg h]
    constructor
    · intro q
      exact absurd q.1 (by decide)
    · intro q
      omega
theorem yLv {c : Nat} (h : yDg c) : yL c = nI c ∧ yS c = nI c := by
  unfold yDg at h
  unfold yL yS
  rw [if_pos (by omega), if_pos (by omega), y8 c (by omega), if_pos (by omega)]
  exact ⟨rfl, rfl⟩
/-- a name's number, -1 for what is none -/
def yNx (c : Nat) : Int32 := if c = 112 then 0 else if c = 97 then 1 else if c = 100 then 2 else if c = 110 then 3 else if c = 118 then 4 else if c = 98 then 5 else if c = 108 then 6 else if c = 119 then 7 else if c = 114 then 8 else if c = 99 then 9 else if c = 116 then 10 else if c = 115 then 11 else -1
theorem S214 (d c : Nat) (M : zM) (hc : c ≤ 256) : zgo false d 214 0 [zi (yL c)] [] M = some (some (zi (yNx c)), M) := by
  rw [B214_0, B214_138]
  unfold yNx
  by_cases h112 : c = 112
  · subst h112
    rfl
  by_cases h97 : c = 97
  · subst h97
    rfl
  by_cases h100 : c = 100
  · subst h100
    rfl
  by_cases h110 : c = 110
  · subst h110
    rfl
  by_cases h118 : c = 118
  · subst h118
    rfl
  by_cases h98 : c = 98
  · subst h98
    rfl
  by_cases h108 : c = 108
  · subst h108
    rfl
  by_cases h119 : c = 119
  · subst h119
    rfl
  by_cases h114 : c = 114
  · subst h114
    rfl
  by_cases h99 : c = 99
  · subst h99
    rfl
  by_cases h116 : c = 116
  · subst h116
    rfl
  by_cases h115 : c = 115
  · subst h115
    rfl
  simp only [yL112 hc, h112, yL97 hc, h97, yL100 hc, h100, yL110 hc, h110, yL118 hc, h118, yL98 hc, h98, yL108 hc, h108, yL119 hc, h119, yL114 hc, h114, yL99 hc, h99, yL116 hc, h116, yL115 hc, h115, if_false, ite_self]
theorem yld15 (M : zM) (j : Nat) : zld M 15 0 j = zsb j := rfl
theorem ylen15 (M : zM) : zlen M 15 = 12 := rfl
theorem ycl11 : (11 : Int32).toNatClampNeg = 11 := rfl
theorem yat15 : zat 15 = 2 := rfl
theorem yblt02 : Nat.blt 0 2 = true := rfl
theorem S315 (d : Nat) (M : zM) : zgo false (d + 1) 315 0 [zr 14 0] [] M = some (some (zi 12), M) := by
  have e : zgo false d 318 0 [zr 14 0] [] M = some (some (zi 0), M) := by
    rw [B318_0, if_neg (by decide), B318_14]
    rfl
  rw [B315_0, e]
  refine (B315_9 (d + 1) 12 0 M).trans ?_
  rfl
theorem ysb0 : zsb 0 = 112 := rfl
theorem ysb1 : zsb 1 = 97 := rfl
theorem ysb2 : zsb 2 = 100 := rfl
theorem ysb3 : zsb 3 = 110 := rfl
theorem ysb4 : zsb 4 = 118 := rfl
theorem ysb5 : zsb 5 = 98 := rfl
theorem ysb6 : zsb 6 = 108 := rfl
theorem ysb7 : zsb 7 = 119 := rfl
theorem ysb8 : zsb 8 = 114 := rfl
theorem ysb9 : zsb 9 = 99 := rfl
theorem ysb10 : zsb 10 = 116 := rfl
theorem ysb11 : zsb 11 = 115 := rfl
theorem yCh (c : Nat) (h : c < 256) : ((yS c).toUInt32 % 65536).toInt32 = nI c := by
  unfold yS
  rw [if_pos h, pk_char, pk_tn (by omega), Nat.mod_eq_of_lt (by omega)]
set_option maxRecDepth 20000 in
theorem S316 (d c : Nat) (M : zM) (hc : c < 256) : zgo false (d + 5) 316 0 [zr 14 0, zi (nI c)] [] M = some (some (zi (yNx c)), M) := by
  have c0 : ¬ nI c < 0 := nI_pos (by omega)
  have c1 : ¬ (255 : Int32) < nI c := nI_nlt (a := 255) (by omega) (by omega)
  have cc : (nI c).toInt8.toInt32 = yL c := by
    unfold yL
    rw [if_pos hc]
  have sw : ∀ k : Int32, (k = yL c) = (yL c = k) := fun k => propext eq_comm
  have go : zgo false (d + 5) 316 0 [zr 14 0, zi (nI c)] [] M = some (some (zi (yNx c)), M) := by
    unfold yNx
    by_cases h112 : c = 112
    · subst h112
      simp +decide only [B316_0, B316_6, B317_0, B317_4, B317_17, B317_20, B317_36, B319_0, B319_17, B319_18, B320_0, B320_15, B320_16, B321_0, B321_4, B321_22, B321_36, B322_0, B322_7, S315, c0, c1, cc, sw, yL112 (show 112 ≤ 256 by omega), yL97 (show 112 ≤ 256 by omega), yL100 (show 112 ≤ 256 by omega), yL110 (show 112 ≤ 256 by omega), yL118 (show 112 ≤ 256 by omega), yL98 (show 112 ≤ 256 by omega), yL108 (show 112 ≤ 256 by omega), yL119 (show 112 ≤ 256 by omega), yL114 (show 112 ≤ 256 by omega), yL99 (show 112 ≤ 256 by omega), yL116 (show 112 ≤ 256 by omega), yL115 (show 112 ≤ 256 by omega), yld15, ylen15, yat15, yblt02, zcl0, zcl1, zcl2, zcl3, zcl4, ycl5, ycl6, ycl7, ycl8, ycl9, ycl10, ycl11, ysb0, ysb1, ysb2, ysb3, ysb4, ysb5, ysb6, ysb7, ysb8, ysb9, ysb10, ysb11, Bool.or_true, Bool.true_or, Bool.or_false, zbsome, zpu1, zpu0, cond_true, cond_false, zib0, zib1, zib_ite, zq00, zq20, zq22, zq90, zq99, zq40, zq44, zq100, zq1010, Bool.and_true, if_true, if_false, z1ne0, not_true_eq_false, not_false_eq_true, zite10, eq_self, and_true, true_and, and_false, false_and, ↓reduceIte, Int32.reduceLT, Int32.reduceLE, Int32.reduceAdd, Int32.reduceSub, Int32.reduceMul]
    by_cases h97 : c = 97
    · subst h97
      simp +decide only [B316_0, B316_6, B317_0, B317_4, B317_17, B317_20, B317_36, B319_0, B319_17, B319_18, B320_0, B320_15, B320_16, B321_0, B321_4, B321_22, B321_36, B322_0, B322_7, S315, c0, c1, cc, sw, yL112 (show 97 ≤ 256 by omega), yL97 (show 97 ≤ 256 by omega), yL100 (show 97 ≤ 256 by omega), yL110 (show 97 ≤ 256 by omega), yL118 (show 97 ≤ 256 by omega), yL98 (show 97 ≤ 256 by omega), yL108 (show 97 ≤ 256 by omega), yL119 (show 97 ≤ 256 by omega), yL114 (show 97 ≤ 256 by omega), yL99 (show 97 ≤ 256 by omega), yL116 (show 97 ≤ 256 by omega), yL115 (show 97 ≤ 256 by omega), yld15, ylen15, yat15, yblt02, zcl0, zcl1, zcl2, zcl3, zcl4, ycl5, ycl6, ycl7, ycl8, ycl9, ycl10, ycl11, ysb0, ysb1, ysb2, ysb3, ysb4, ysb5, ysb6, ysb7, ysb8, ysb9, ysb10, ysb11, Bool.or_true, Bool.true_or, Bool.or_false, zbsome, zpu1, zpu0, cond_true, cond_false, zib0, zib1, zib_ite, zq00, zq20, zq22, zq90, zq99, zq40, zq44, zq100, zq1010, Bool.and_true, if_true, if_false, z1ne0, not_true_eq_false, not_false_eq_true, zite10, eq_self, and_true, true_and, and_false, false_and, ↓reduceIte, Int32.reduceLT, Int32.reduceLE, Int32.reduceAdd, Int32.reduceSub, Int32.reduceMul]
    by_cases h100 : c = 100
    · subst h100
      simp +decide only [B316_0, B316_6, B317_0, B317_4, B317_17, B317_20, B317_36, B319_0, B319_17, B319_18, B320_0, B320_15, B320_16, B321_0, B321_4, B321_22, B321_36, B322_0, B322_7, S315, c0, c1, cc, sw, yL112 (show 100 ≤ 256 by omega), yL97 (show 100 ≤ 256 by omega), yL100 (show 100 ≤ 256 by omega), yL110 (show 100 ≤ 256 by omega), yL118 (show 100 ≤ 256 by omega), yL98 (show 100 ≤ 256 by omega), yL108 (show 100 ≤ 256 by omega), yL119 (show 100 ≤ 256 by omega), yL114 (show 100 ≤ 256 by omega), yL99 (show 100 ≤ 256 by omega), yL116 (show 100 ≤ 256 by omega), yL115 (show 100 ≤ 256 by omega), yld15, ylen15, yat15, yblt02, zcl0, zcl1, zcl2, zcl3, zcl4, ycl5, ycl6, ycl7, ycl8, ycl9, ycl10, ycl11, ysb0, ysb1, ysb2, ysb3, ysb4, ysb5, ysb6, ysb7, ysb8, ysb9, ysb10, ysb11, Bool.or_true, Bool.true_or, Bool.or_false, zbsome, zpu1, zpu0, cond_true, cond_false, zib0, zib1, zib_ite, zq00, zq20, zq22, zq90, zq99, zq40, zq44, zq100, zq1010, Bool.and_true, if_true, if_false, z1ne0, not_true_eq_false, not_false_eq_true, zite10, eq_self, and_true, true_and, and_false, false_and, ↓reduceIte, Int32.reduceLT, Int32.reduceLE, Int32.reduceAdd, Int32.reduceSub, Int32.reduceMul]
    by_cases h110 : c = 110
    · subst h110
      simp +decide only [B316_0, B316_6, B317_0, B317_4, B317_17, B317_20, B317_36, B319_0, B319_17, B319_18, B320_0, B320_15, B320_16, B321_0, B321_4, B321_22, B321_36, B322_0, B322_7, S315, c0, c1, cc, sw, yL112 (show 110 ≤ 256 by omega), yL97 (show 110 ≤ 256 by omega), yL100 (show 110 ≤ 256 by omega), yL110 (show 110 ≤ 256 by omega), yL118 (show 110 ≤ 256 by omega), yL98 (show 110 ≤ 256 by omega), yL108 (show 110 ≤ 256 by omega), yL119 (show 110 ≤ 256 by omega), yL114 (show 110 ≤ 256 by omega), yL99 (show 110 ≤ 256 by omega), yL116 (show 110 ≤ 256 by omega), yL115 (show 110 ≤ 256 by omega), yld15, ylen15, yat15, yblt02, zcl0, zcl1, zcl2, zcl3, zcl4, ycl5, ycl6, ycl7, ycl8, ycl9, ycl10, ycl11, ysb0, ysb1, ysb2, ysb3, ysb4, ysb5, ysb6, ysb7, ysb8, ysb9, ysb10, ysb11, Bool.or_true, Bool.true_or, Bool.or_false, zbsome, zpu1, zpu0, cond_true, cond_false, zib0, zib1, zib_ite, zq00, zq20, zq22, zq90, zq99, zq40, zq44, zq100, zq1010, Bool.and_true, if_true, if_false, z1ne0, not_true_eq_false, not_false_eq_true, zite10, eq_self, and_true, true_and, and_false, false_and, ↓reduceIte, Int32.reduceLT, Int32.reduceLE, Int32.reduceAdd, Int32.reduceSub, Int32.reduceMul]
    by_cases h118 : c = 118
    · subst h118
      simp +decide only [B316_0, B316_6, B317_0, B317_4, B317_17, B317_20, B317_36, B319_0, B319_17, B319_18, B320_0, B320_15, B320_16, B321_0, B321_4, B321_22, B321_36, B322_0, B322_7, S315, c0, c1, cc, sw, yL112 (show 118 ≤ 256 by omega), yL97 (show 118 ≤ 256 by omega), yL100 (show 118 ≤ 256 by omega), yL110 (show 118 ≤ 256 by omega), yL118 (show 118 ≤ 256 by omega), yL98 (show 118 ≤ 256 by omega), yL108 (show 118 ≤ 256 by omega), yL119 (show 118 ≤ 256 by omega), yL114 (show 118 ≤ 256 by omega), yL99 (show 118 ≤ 256 by omega), yL116 (show 118 ≤ 256 by omega), yL115 (show 118 ≤ 256 by omega), yld15, ylen15, yat15, yblt02, zcl0, zcl1, zcl2, zcl3, zcl4, ycl5, ycl6, ycl7, ycl8, ycl9, ycl10, ycl11, ysb0, ysb1, ysb2, ysb3, ysb4, ysb5, ysb6, ysb7, ysb8, ysb9, ysb10, ysb11, Bool.or_true, Bool.true_or, Bool.or_false, zbsome, zpu1, zpu0, cond_true, cond_false, zib0, zib1, zib_ite, zq00, zq20, zq22, zq90, zq99, zq40, zq44, zq100, zq1010, Bool.and_true, if_true, if_false, z1ne0, not_true_eq_false, not_false_eq_true, zite10, eq_self, and_true, true_and, and_false, false_and, ↓reduceIte, Int32.reduceLT, Int32.reduceLE, Int32.reduceAdd, Int32.reduceSub, Int32.reduceMul]
    by_cases h98 : c = 98
    · subst h98
      simp +decide only [B316_0, B316_6, B317_0, B317_4, B317_17, B317_20, B317_36, B319_0, B319_17, B319_18, B320_0, B320_15, B320_16, B321_0, B321_4, B321_22, B321_36, B322_0, B322_7, S315, c0, c1, cc, sw, yL112 (show 98 ≤ 256 by omega), yL97 (show 98 ≤ 256 by omega), yL100 (show 98 ≤ 256 by omega), yL110 (show 98 ≤ 256 by omega), yL118 (show 98 ≤ 256 by omega), yL98 (show 98 ≤ 256 by omega), yL108 (show 98 ≤ 256 by omega), yL119 (show 98 ≤ 256 by omega), yL114 (show 98 ≤ 256 by omega), yL99 (show 98 ≤ 256 by omega), yL116 (show 98 ≤ 256 by omega), yL115 (show 98 ≤ 256 by omega), yld15, ylen15, yat15, yblt02, zcl0, zcl1, zcl2, zcl3, zcl4, ycl5, ycl6, ycl7, ycl8, ycl9, ycl10, ycl11, ysb0, ysb1, ysb2, ysb3, ysb4, ysb5, ysb6, ysb7, ysb8, ysb9, ysb10, ysb11, Bool.or_true, Bool.true_or, Bool.or_false, zbsome, zpu1, zpu0, cond_true, cond_false, zib0, zib1, zib_ite, zq00, zq20, zq22, zq90, zq99, zq40, zq44, zq100, zq1010, Bool.and_true, if_true, if_false, z1ne0, not_true_eq_false, not_false_eq_true, zite10, eq_self, and_true, true_and, and_false, false_and, ↓reduceIte, Int32.reduceLT, Int32.reduceLE, Int32.reduceAdd, Int32.reduceSub, Int32.reduceMul]
    by_cases h108 : c = 108
    · subst h108
      simp +decide only [B316_0, B316_6, B317_0, B317_4, B317_17, B317_20, B317_36, B319_0, B319_17, B319_18, B320_0, B320_15, B320_16, B321_0, B321_4, B321_22, B321_36, B322_0, B322_7, S315, c0, c1, cc, sw, yL112 (show 108 ≤ 256 by omega), yL97 (show 108 ≤ 256 by omega), yL100 (show 108 ≤ 256 by omega), yL110 (show 108 ≤ 256 by omega), yL118 (show 108 ≤ 256 by omega), yL98 (show 108 ≤ 256 by omega), yL108 (show 108 ≤ 256 by omega), yL119 (show 108 ≤ 256 by omega), yL114 (show 108 ≤ 256 by omega), yL99 (show 108 ≤ 256 by omega), yL116 (show 108 ≤ 256 by omega), yL115 (show 108 ≤ 256 by omega), yld15, ylen15, yat15, yblt02, zcl0, zcl1, zcl2, zcl3, zcl4, ycl5, ycl6, ycl7, ycl8, ycl9, ycl10, ycl11, ysb0, ysb1, ysb2, ysb3, ysb4, ysb5, ysb6, ysb7, ysb8, ysb9, ysb10, ysb11, Bool.or_true, Bool.true_or, Bool.or_false, zbsome, zpu1, zpu0, cond_true, cond_false, zib0, zib1, zib_ite, zq00, zq20, zq22, zq90, zq99, zq40, zq44, zq100, zq1010, Bool.and_true, if_true, if_false, z1ne0, not_true_eq_false, not_false_eq_true, zite10, eq_self, and_true, true_and, and_false, false_and, ↓reduceIte, Int32.reduceLT, Int32.reduceLE, Int32.reduceAdd, Int32.reduceSub, Int32.reduceMul]
    by_cases h119 : c = 119
    · subst h119
      simp +decide only [B316_0, B316_6, B317_0, B317_4, B317_17, B317_20, B317_36, B319_0, B319_17, B319_18, B320_0, B320_15, B320_16, B321_0, B321_4, B321_22, B321_36, B322_0, B322_7, S315, c0, c1, cc, sw, yL112 (show 119 ≤ 256 by omega), yL97 (show 119 ≤ 256 by omega), yL100 (show 119 ≤ 256 by omega), yL110 (show 119 ≤ 256 by omega), yL118 (show 119 ≤ 256 by omega), yL98 (show 119 ≤ 256 by omega), yL108 (show 119 ≤ 256 by omega), yL119 (show 119 ≤ 256 by omega), yL114 (show 119 ≤ 256 by omega), yL99 (show 119 ≤ 256 by omega), yL116 (show 119 ≤ 256 by omega), yL115 (show 119 ≤ 256 by omega), yld15, ylen15, yat15, yblt02, zcl0, zcl1, zcl2, zcl3, zcl4, ycl5, ycl6, ycl7, ycl8, ycl9, ycl10, ycl11, ysb0, ysb1, ysb2, ysb3, ysb4, ysb5, ysb6, ysb7, ysb8, ysb9, ysb10, ysb11, Bool.or_true, Bool.true_or, Bool.or_false, zbsome, zpu1, zpu0, cond_true, cond_false, zib0, zib1, zib_ite, zq00, zq20, zq22, zq90, zq99, zq40, zq44, zq100, zq1010, Bool.and_true, if_true, if_false, z1ne0, not_true_eq_false, not_false_eq_true, zite10, eq_self, and_true, true_and, and_false, false_and, ↓reduceIte, Int32.reduceLT, Int32.reduceLE, Int32.reduceAdd, Int32.reduceSub, Int32.reduceMul]
    by_cases h114 : c = 114
    · subst h114
      simp +decide only [B316_0, B316_6, B317_0, B317_4, B317_17, B317_20, B317_36, B319_0, B319_17, B319_18, B320_0, B320_15, B320_16, B321_0, B321_4, B321_22, B321_36, B322_0, B322_7, S315, c0, c1, cc, sw, yL112 (show 114 ≤ 256 by omega), yL97 (show 114 ≤ 256 by omega), yL100 (show 114 ≤ 256 by omega), yL110 (show 114 ≤ 256 by omega), yL118 (show 114 ≤ 256 by omega), yL98 (show 114 ≤ 256 by omega), yL108 (show 114 ≤ 256 by omega), yL119 (show 114 ≤ 256 by omega), yL114 (show 114 ≤ 256 by omega), yL99 (show 114 ≤ 256 by omega), yL116 (show 114 ≤ 256 by omega), yL115 (show 114 ≤ 256 by omega), yld15, ylen15, yat15, yblt02, zcl0, zcl1, zcl2, zcl3, zcl4, ycl5, ycl6, ycl7, ycl8, ycl9, ycl10, ycl11, ysb0, ysb1, ysb2, ysb3, ysb4, ysb5, ysb6, ysb7, ysb8, ysb9, ysb10, ysb11, Bool.or_true, Bool.true_or, Bool.or_false, zbsome, zpu1, zpu0, cond_true, cond_false, zib0, zib1, zib_ite, zq00, zq20, zq22, zq90, zq99, zq40, zq44, zq100, zq1010, Bool.and_true, if_true, if_false, z1ne0, not_true_eq_false, not_false_eq_true, zite10, eq_self, and_true, true_and, and_false, false_and, ↓reduceIte, Int32.reduceLT, Int32.reduceLE, Int32.reduceAdd, Int32.reduceSub, Int32.reduceMul]
    by_cases h99 : c = 99
    · subst h99
      simp +decide only [B316_0, B316_6, B317_0, B317_4, B317_17, B317_20, B317_36, B319_0, B319_17, B319_18, B320_0, B320_15, B320_16, B321_0, B321_4, B321_22, B321_36, B322_0, B322_7, S315, c0, c1, cc, sw, yL112 (show 99 ≤ 256 by omega), yL97 (show 99 ≤ 256 by omega), yL100 (show 99 ≤ 256 by omega), yL110 (show 99 ≤ 256 by omega), yL118 (show 99 ≤ 256 by omega), yL98 (show 99 ≤ 256 by omega), yL108 (show 99 ≤ 256 by omega), yL119 (show 99 ≤ 256 by omega), yL114 (show 99 ≤ 256 by omega), yL99 (show 99 ≤ 256 by omega), yL116 (show 99 ≤ 256 by omega), yL115 (show 99 ≤ 256 by omega), yld15, ylen15, yat15, yblt02, zcl0, zcl1, zcl2, zcl3, zcl4, ycl5, ycl6, ycl7, ycl8, ycl9, ycl10, ycl11, ysb0, ysb1, ysb2, ysb3, ysb4, ysb5, ysb6, ysb7, ysb8, ysb9, ysb10, ysb11, Bool.or_true, Bool.true_or, Bool.or_false, zbsome, zpu1, zpu0, cond_true, cond_false, zib0, zib1, zib_ite, zq00, zq20, zq22, zq90, zq99, zq40, zq44, zq100, zq1010, Bool.and_true, if_true, if_false, z1ne0, not_true_eq_false, not_false_eq_true, zite10, eq_self, and_true, true_and, and_false, false_and, ↓reduceIte, Int32.reduceLT, Int32.reduceLE, Int32.reduceAdd, Int32.reduceSub, Int32.reduceMul]
    by_cases h116 : c = 116
    · subst h116
      simp +decide only [B316_0, B316_6, B317_0, B317_4, B317_17, B317_20, B317_36, B319_0, B319_17, B319_18, B320_0, B320_15, B320_16, B321_0, B321_4, B321_22, B321_36, B322_0, B322_7, S315, c0, c1, cc, sw, yL112 (show 116 ≤ 256 by omega), yL97 (show 116 ≤ 256 by omega), yL100 (show 116 ≤ 256 by omega), yL110 (show 116 ≤ 256 by omega), yL118 (show 116 ≤ 256 by omega), yL98 (show 116 ≤ 256 by omega), yL108 (show 116 ≤ 256 by omega), yL119 (show 116 ≤ 256 by omega), yL114 (show 116 ≤ 256 by omega), yL99 (show 116 ≤ 256 by omega), yL116 (show 116 ≤ 256 by omega), yL115 (show 116 ≤ 256 by omega), yld15, ylen15, yat15, yblt02, zcl0, zcl1, zcl2, zcl3, zcl4, ycl5, ycl6, ycl7, ycl8, ycl9, ycl10, ycl11, ysb0, ysb1, ysb2, ysb3, ysb4, ysb5, ysb6, ysb7, ysb8, ysb9, ysb10, ysb11, Bool.or_true, Bool.true_or, Bool.or_false, zbsome, zpu1, zpu0, cond_true, cond_false, zib0, zib1, zib_ite, zq00, zq20, zq22, zq90, zq99, zq40, zq44, zq100, zq1010, Bool.and_true, if_true, if_false, z1ne0, not_true_eq_false, not_false_eq_true, zite10, eq_self, and_true, true_and, and_false, false_and, ↓reduceIte, Int32.reduceLT, Int32.reduceLE, Int32.reduceAdd, Int32.reduceSub, Int32.reduceMul]
    by_cases h115 : c = 115
    · subst h115
      simp +decide only [B316_0, B316_6, B317_0, B317_4, B317_17, B317_20, B317_36, B319_0, B319_17, B319_18, B320_0, B320_15, B320_16, B321_0, B321_4, B321_22, B321_36, B322_0, B322_7, S315, c0, c1, cc, sw, yL112 (show 115 ≤ 256 by omega), yL97 (show 115 ≤ 256 by omega), yL100 (show 115 ≤ 256 by omega), yL110 (show 115 ≤ 256 by omega), yL118 (show 115 ≤ 256 by omega), yL98 (show 115 ≤ 256 by omega), yL108 (show 115 ≤ 256 by omega), yL119 (show 115 ≤ 256 by omega), yL114 (show 115 ≤ 256 by omega), yL99 (show 115 ≤ 256 by omega), yL116 (show 115 ≤ 256 by omega), yL115 (show 115 ≤ 256 by omega), yld15, ylen15, yat15, yblt02, zcl0, zcl1, zcl2, zcl3, zcl4, ycl5, ycl6, ycl7, ycl8, ycl9, ycl10, ycl11, ysb0, ysb1, ysb2, ysb3, ysb4, ysb5, ysb6, ysb7, ysb8, ysb9, ysb10, ysb11, Bool.or_true, Bool.true_or, Bool.or_false, zbsome, zpu1, zpu0, cond_true, cond_false, zib0, zib1, zib_ite, zq00, zq20, zq22, zq90, zq99, zq40, zq44, zq100, zq1010, Bool.and_true, if_true, if_false, z1ne0, not_true_eq_false, not_false_eq_true, zite10, eq_self, and_true, true_and, and_false, false_and, ↓reduceIte, Int32.reduceLT, Int32.reduceLE, Int32.reduceAdd, Int32.reduceSub, Int32.reduceMul]
    simp +decide only [B316_0, B316_6, B317_0, B317_4, B317_17, B317_20, B317_36, B319_0, B319_17, B319_18, B320_0, B320_15, B320_16, B321_0, B321_4, B321_22, B321_36, B322_0, B322_7, S315, c0, c1, cc, sw, yL112 (show c ≤ 256 by omega), h112, yL97 (show c ≤ 256 by omega), h97, yL100 (show c ≤ 256 by omega), h100, yL110 (show c ≤ 256 by omega), h110, yL118 (show c ≤ 256 by omega), h118, yL98 (show c ≤ 256 by omega), h98, yL108 (show c ≤ 256 by omega), h108, yL119 (show c ≤ 256 by omega), h119, yL114 (show c ≤ 256 by omega), h114, yL99 (show c ≤ 256 by omega), h99, yL116 (show c ≤ 256 by omega), h116, yL115 (show c ≤ 256 by omega), h115, yld15, ylen15, yat15, yblt02, zcl0, zcl1, zcl2, zcl3, zcl4, ycl5, ycl6, ycl7, ycl8, ycl9, ycl10, ycl11, ysb0, ysb1, ysb2, ysb3, ysb4, ysb5, ysb6, ysb7, ysb8, ysb9, ysb10, ysb11, Bool.or_true, Bool.true_or, Bool.or_false, zbsome, zpu1, zpu0, cond_true, cond_false, zib0, zib1, zib_ite, zq00, zq20, zq22, zq90, zq99, zq40, zq44, zq100, zq1010, Bool.and_true, if_true, if_false, z1ne0, not_true_eq_false, not_false_eq_true, zite10, eq_self, and_true, true_and, and_false, false_and, ↓reduceIte, Int32.reduceLT, Int32.reduceLE, Int32.reduceAdd, Int32.reduceSub, Int32.reduceMul]
  exact go
