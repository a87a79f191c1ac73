/-! ===== the hands of one play, as the law goes over them ===== -/
def sF : Nat → Nat
  | 0 => 6000
  | k + 1 => sF k + 200 + sF k / 25
theorem sF_b : ∀ k, k < 46 → sF k < 495000 := by decide +kernel
theorem nI_d100 (n : Nat) (h : n ≤ 9999999) : nI n / 100 = nI (n / 100) := by
  rw [yI_nat, yI_nat, show (100 : Int32) = yI 100 from rfl, yI_div ⟨by omega, by omega⟩ ⟨by omega, by omega⟩ (by omega)]
  congr 1

theorem sBetOk (d kd n : Nat) (u24 u25 u26 u27 : zV) {x3 x4 x5 x11 x12 x13 x14 x15 x16 x17 x18 x19 x20 x21 t b u23 : Int32} (cc la : Int32) (M : zM) (hk : kd ≤ 7) (h1 : 100 ≤ n) (h2 : n ≤ 9999999) (h3 : kd ≤ 1 ∨ kd = 6 → n < 495000) (hb : b = yBe sT2 (nI n / 100) kd x3 cc t la) (v23 : zV) : ∃ v24, zgo false d 326 651 [zr 16 0, zr 12 0, zi (nI kd), zi x3, zi x4, zi x5, zr 114 0, zr 115 0, zr 116 0, zi (bI (ySee kd)), zi (nI n), zi x11, zi x12, zi x13, zi x14, zi x15, zi x16, zi x17, zi x18, zi x19, zi x20, zi x21, zi t, v23, u24, u25, u26, u27] [zi b] M = zgo false d 326 806 [zr 16 0, zr 12 0, zi (nI kd), zi x3, zi x4, zi x5, zr 114 0, zr 115 0, zr 116 0, zi (bI (ySee kd)), zi (nI n), zi x11, zi x12, zi x13, zi x14, zi x15, zi x16, zi x17, zi x18, zi x19, zi x20, zi x21, zi t, zi b, v24, u25, u26, u27] [] M := by
  have eu : nI n / 100 = nI (n / 100) := nI_d100 n h2
  have u1 : 1 ≤ nI n / 100 := by rw [eu]; exact nI_le (a := 1) (by omega) (by omega)
  have ble : b ≤ nI n / 100 := by rw [hb]; exact sBle kd x3 cc t la
  have n0 : ¬ (100 : Int32) = 0 := by decide
  have n5 : ¬ (50 : Int32) = 0 := by decide
  -- from 699 on
  have q4 : kd = 0 ∨ kd = 1 ∨ kd = 2 ∨ kd = 3 ∨ kd = 4 ∨ kd = 5 ∨ kd = 6 ∨ kd = 7 := by omega
  have hN : kd ≤ 1 ∨ kd = 6 → ∃ v24, zgo false d 326 699 [zr 16 0, zr 12 0, zi (nI kd), zi x3, zi x4, zi x5, zr 114 0, zr 115 0, zr 116 0, zi (bI (ySee kd)), zi (nI n), zi x11, zi x12, zi x13, zi x14, zi x15, zi x16, zi x17, zi x18, zi x19, zi x20, zi x21, zi t, zi b, u24, u25, u26, u27] [] M = zgo false d 326 806 [zr 16 0, zr 12 0, zi (nI kd), zi x3, zi x4, zi x5, zr 114 0, zr 115 0, zr 116 0, zi (bI (ySee kd)), zi (nI n), zi x11, zi x12, zi x13, zi x14, zi x15, zi x16, zi x17, zi x18, zi x19, zi x20, zi x21, zi t, zi b, v24, u25, u26, u27] [] M := by
    intro hs
    refine ⟨u24, ?_⟩
    have e9 : bI (ySee kd) = 0 := by
      rw [show ySee kd = false from decide_eq_false (by omega)]
      rfl
    have eb : b = if 1 + nI n / 100 / 50 < nI n / 100 then 1 + nI n / 100 / 50 else nI n / 100 := by
      rw [hb, eu]
      exact sBno x3 cc la t hs (by have := h3 hs; omega)
    rw [e9, B326_699, if_neg n0, if_pos ble, if_pos rfl, B326_776, if_pos rfl, if_neg n0, if_neg n0, if_neg n5, if_pos eb]
  have hS : ¬ (kd ≤ 1 ∨ kd = 6) → bI (ySee kd) = 1 := by
    intro hs
    rw [show ySee kd = true from decide_eq_true (by omega)]
    rfl
  have one : ¬ (1 : Int32) = 0 := by decide
  have hV : kd = 2 ∨ kd = 5 ∨ kd = 7 → ∃ v24, zgo false d 326 699 [zr 16 0, zr 12 0, zi (nI kd), zi x3, zi x4, zi x5, zr 114 0, zr 115 0, zr 116 0, zi (bI (ySee kd)), zi (nI n), zi x11, zi x12, zi x13, zi x14, zi x15, zi x16, zi x17, zi x18, zi x19, zi x20, zi x21, zi t, zi b, u24, u25, u26, u27] [] M = zgo false d 326 806 [zr 16 0, zr 12 0, zi (nI kd), zi x3, zi x4, zi x5, zr 114 0, zr 115 0, zr 116 0, zi (bI (ySee kd)), zi (nI n), zi x11, zi x12, zi x13, zi x14, zi x15, zi x16, zi x17, zi x18, zi x19, zi x20, zi x21, zi t, zi b, v24, u25, u26, u27] [] M := by
    intro hs
    rw [hS (by omega)]
    have c3 : ¬ nI kd = 3 := fun q => by have := (nI_eq (b := 3) (by omega) (by omega)).mp q; omega
    have c4 : ¬ nI kd = 4 := fun q => by have := (nI_eq (b := 4) (by omega) (by omega)).mp q; omega
    by_cases c : t < x3
    · exact ⟨u24, by rw [B326_699, if_neg n0, if_pos ble, if_neg one, if_neg c3, if_neg c4, if_pos c, B326_776, if_neg one]⟩
    · refine ⟨zi (sLb1 (nI n / 100) t), ?_⟩
      have eb : b = sLb1 (nI n / 100) t := hb.trans (sBsee x3 cc la t hs c)
      rw [B326_699, if_neg n0, if_pos ble, if_neg one, if_neg c3, if_neg c4, if_neg c, if_neg n0, if_neg n0, if_neg n5]
      show zgo false d 326 767 [zr 16 0, zr 12 0, zi (nI kd), zi x3, zi x4, zi x5, zr 114 0, zr 115 0, zr 116 0, zi 1, zi (nI n), zi x11, zi x12, zi x13, zi x14, zi x15, zi x16, zi x17, zi x18, zi x19, zi x20, zi x21, zi t, zi b, zi (sLb1 (nI n / 100) t), u25, u26, u27] [] M = _
      rw [B326_767, if_pos eb, B326_776, if_neg one]
  have hW : kd = 3 ∨ kd = 4 → zgo false d 326 699 [zr 16 0, zr 12 0, zi (nI kd), zi x3, zi x4, zi x5, zr 114 0, zr 115 0, zr 116 0, zi (bI (ySee kd)), zi (nI n), zi x11, zi x12, zi x13, zi x14, zi x15, zi x16, zi x17, zi x18, zi x19, zi x20, zi x21, zi t, zi b, u24, u25, u26, u27] [] M = zgo false d 326 806 [zr 16 0, zr 12 0, zi (nI kd), zi x3, zi x4, zi x5, zr 114 0, zr 115 0, zr 116 0, zi (bI (ySee kd)), zi (nI n), zi x11, zi x12, zi x13, zi x14, zi x15, zi x16, zi x17, zi x18, zi x19, zi x20, zi x21, zi t, zi b, u24, u25, u26, u27] [] M := by
    intro hs
    rw [hS (by omega)]
    rcases hs with rfl | rfl
    · rw [B326_699, if_neg n0, if_pos ble, if_neg one, if_pos (show nI 3 = 3 from rfl), B326_776, if_neg one]
    · rw [B326_699, if_neg n0, if_pos ble, if_neg one, if_neg (show ¬ nI 4 = 3 by decide), if_pos (show nI 4 = 4 from rfl), B326_776, if_neg one]
  have h57 : kd = 5 ∨ kd = 7 → zgo false d 326 675 [zr 16 0, zr 12 0, zi (nI kd), zi x3, zi x4, zi x5, zr 114 0, zr 115 0, zr 116 0, zi (bI (ySee kd)), zi (nI n), zi x11, zi x12, zi x13, zi x14, zi x15, zi x16, zi x17, zi x18, zi x19, zi x20, zi x21, zi t, zi b, u24, u25, u26, u27] [] M = zgo false d 326 699 [zr 16 0, zr 12 0, zi (nI kd), zi x3, zi x4, zi x5, zr 114 0, zr 115 0, zr 116 0, zi (bI (ySee kd)), zi (nI n), zi x11, zi x12, zi x13, zi x14, zi x15, zi x16, zi x17, zi x18, zi x19, zi x20, zi x21, zi t, zi b, u24, u25, u26, u27] [] M := by
    intro hs
    have e0 := sB57 (u := nI n / 100) (kd := kd) x3 cc la t hs u1
    rw [← hb] at e0
    by_cases c : t < x3
    · rw [B326_675, if_neg (fun q => z_le_nlt q c), B326_686, if_pos (e0.mpr c), B326_696, if_pos rfl]
    · rw [B326_675, if_pos (z_nlt_le c), B326_686, if_neg (mt e0.mp c), B326_696, if_pos rfl]
  rw [B326_651]
  rcases q4 with rfl | rfl | rfl | rfl | rfl | rfl | rfl | rfl

  · rw [if_neg (show ¬ nI 0 = 4 by decide), B326_664, if_neg (show ¬ nI 0 = 5 by decide), if_neg (show ¬ nI 0 = 7 by decide)]
    exact hN (by omega)
  · rw [if_neg (show ¬ nI 1 = 4 by decide), B326_664, if_neg (show ¬ nI 1 = 5 by decide), if_neg (show ¬ nI 1 = 7 by decide)]
    exact hN (by omega)
  · rw [if_neg (show ¬ nI 2 = 4 by decide), B326_664, if_neg (show ¬ nI 2 = 5 by decide), if_neg (show ¬ nI 2 = 7 by decide)]
    exact hV (by omega)
  · rw [if_neg (show ¬ nI 3 = 4 by decide), B326_664, if_neg (show ¬ nI 3 = 5 by decide), if_neg (show ¬ nI 3 = 7 by decide)]
    exact ⟨_, hW (by omega)⟩
  · have e1 : b = 1 := hb.trans (sB4 x3 cc t la u1)
    rw [if_pos (show nI 4 = 4 from rfl), if_pos e1, B326_664, if_neg (show ¬ nI 4 = 5 by decide), if_neg (show ¬ nI 4 = 7 by decide)]
    exact ⟨_, hW (by omega)⟩
  · rw [if_neg (show ¬ nI 5 = 4 by decide), B326_664, if_pos (show nI 5 = 5 from rfl), h57 (by omega)]
    exact hV (by omega)
  · rw [if_neg (show ¬ nI 6 = 4 by decide), B326_664, if_neg (show ¬ nI 6 = 5 by decide), if_neg (show ¬ nI 6 = 7 by decide)]
    exact hN (by omega)
  · rw [if_neg (show ¬ nI 7 = 4 by decide), B326_664, if_neg (show ¬ nI 7 = 5 by decide), if_pos (show nI 7 = 7 from rfl), h57 (by omega)]
    exact hV (by omega)
theorem sLp0 (b lb rr t : Int32) : sLp b lb 0 rr t = if (b + lb * 2 + (if 0 ≤ rr then 0 else 4) + (if t ≤ 0 then 0 else 5)) < 99 then (b + lb * 2 + (if 0 ≤ rr then 0 else 4) + (if t ≤ 0 then 0 else 5)) else 99 := by
  unfold sLp
  rw [show (0 : Int32) * 3 = 0 from rfl, Int32.add_zero]

theorem sPtsOk (d g h : Nat) (u25 u26 u27 : zV) {x2 x3 x4 x5 x9 x10 x11 x12 x13 x14 x15 x16 x17 x18 x19 x20 x22 x23 x24 : Int32} {M : zM} (h13 : zgI M 12 0 13 = nI h) (hh : h ≤ 60) (hg : g < h) (w1 : x24 = 0 ∨ x24 = 1) (w2 : zgI M 4 g 11 = 0 → x24 = 0) (e12 : zgI M 4 g 12 = sLp x23 x12 x24 (zgI M 4 g 10 / 100) x22) : zgo false (d + 4) 326 823 [zr 16 0, zr 12 0, zi x2, zi x3, zi x4, zi x5, zr 114 0, zr 115 0, zr 116 0, zi x9, zi x10, zi x11, zi x12, zi x13, zi x14, zi x15, zi x16, zi x17, zi x18, zi x19, zi x20, zi (nI g), zi x22, zi x23, zi x24, u25, u26, u27] [zi (zgI M 4 g 10)] M = zgo false (d + 4) 326 946 [zr 16 0, zr 12 0, zi x2, zi x3, zi x4, zi x5, zr 114 0, zr 115 0, zr 116 0, zi x9, zi x10, zi x11, zi x12, zi x13, zi x14, zi x15, zi x16, zi x17, zi x18, zi x19, zi x20, zi (nI g), zi x22, zi x23, zi x24, zi (zgI M 4 g 10 / 100), zi (zgI M 4 g 12), zi (sLp x23 x12 0 (zgI M 4 g 10 / 100) x22)] [] M := by
  have l6 : zgo false (d + 3) 141 0 [zr 12 0, zi (nI g), zi 6, zu] [] M = some (some (zi (zgI M 4 g 12)), M) := sLed d h g 6 _ h13 hh hg (fun d => sTold6 d g M)
  have l4 : zgo false (d + 3) 141 0 [zr 12 0, zi (nI g), zi 4, zu] [] M = some (some (zi (zgI M 4 g 11)), M) := sLed d h g 4 _ h13 hh hg (fun d => sTold4 d g M)
  have tail : zgo false (d + 4) 326 913 [zr 16 0, zr 12 0, zi x2, zi x3, zi x4, zi x5, zr 114 0, zr 115 0, zr 116 0, zi x9, zi x10, zi x11, zi x12, zi x13, zi x14, zi x15, zi x16, zi x17, zi x18, zi x19, zi x20, zi (nI g), zi x22, zi x23, zi x24, zi (zgI M 4 g 10 / 100), zi (zgI M 4 g 12), zi (sLp x23 x12 0 (zgI M 4 g 10 / 100) x22)] [zi (zgI M 4 g 12)] M = zgo false (d + 4) 326 946 [zr 16 0, zr 12 0, zi x2, zi x3, zi x4, zi x5, zr 114 0, zr 115 0, zr 116 0, zi x9, zi x10, zi x11, zi x12, zi x13, zi x14, zi x15, zi x16, zi x17, zi x18, zi x19, zi x20, zi (nI g), zi x22, zi x23, zi x24, zi (zgI M 4 g 10 / 100), zi (zgI M 4 g 12), zi (sLp x23 x12 0 (zgI M 4 g 10 / 100) x22)] [] M := by
    have a1 : ¬ x24 < 0 := by rcases w1 with e | e <;> (rw [e]; decide)
    have a2 : ¬ 1 < x24 := by rcases w1 with e | e <;> (rw [e]; decide)
    rw [B326_913, if_pos rfl, if_neg a1, if_neg a2, l4, zbsome, zpu1, B326_936]
    by_cases c : zgI M 4 g 11 = 0
    · rw [if_pos c, if_pos (w2 c)]
    · rw [if_neg c]
  rw [← tail, B326_823, if_neg (show ¬ (100 : Int32) = 0 by decide)]
  unfold sLp at e12
  rw [sLp0, e12]
  by_cases c1 : 0 ≤ zgI M 4 g 10 / 100
  · rw [if_pos c1]
    by_cases c2 : x22 ≤ 0
    · rw [B326_852, if_pos c2, B326_863, if_pos c1, B326_888, if_pos c2, B326_899, l6, e12, zbsome, zpu1]
      simp only [if_pos c1, if_pos c2]
    · rw [B326_852, if_neg c2, B326_863, if_pos c1, B326_888, if_neg c2, B326_899, l6, e12, zbsome, zpu1]
      simp only [if_pos c1, if_neg c2]
  · rw [if_neg c1]
    by_cases c2 : x22 ≤ 0
    · rw [B326_852, if_pos c2, B326_863, if_neg c1, B326_888, if_pos c2, B326_899, l6, e12, zbsome, zpu1]
      simp only [if_neg c1, if_pos c2]
    · rw [B326_852, if_neg c2, B326_863, if_neg c1, B326_888, if_neg c2, B326_899, l6, e12, zbsome, zpu1]
      simp only [if_neg c1, if_neg c2]

