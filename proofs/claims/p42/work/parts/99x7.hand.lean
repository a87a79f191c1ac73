/-! ===== the hands of one play, as the law goes over them ===== -/
def sF : Nat → Nat
  | 0 => 6000
  | k + 1 => sF k + 200 + sF k / 25
theorem sF_b : ∀ k, k < 46 → sF k < 495000 := by decide +kernel
theorem nI_d100 (n : Nat) (h : n ≤ 9999999) : nI n / 100 = nI (n / 100) := by
  rw [yI_nat, yI_nat, show (100 : Int32) = yI 100 from rfl, yI_div ⟨by omega, by omega⟩ ⟨by omega, by omega⟩ (by omega)]
  congr 1

theorem sBetOk (d kd n : Nat) (u24 u25 u26 u27 : zV) {x3 x4 x5 x11 x12 x13 x14 x15 x16 x17 x18 x19 x20 x21 t b u23 : Int32} (cc la : Int32) (M : zM) (hk : kd ≤ 7) (h1 : 100 ≤ n) (h2 : n ≤ 9999999) (h3 : kd ≤ 1 ∨ kd = 6 → n < 495000) (hb : b = yBe sT2 (nI n / 100) kd x3 cc t la) (v23 : zV) : ∃ v24, zgo false d 326 651 [zr 16 0, zr 12 0, zi (nI kd), zi x3, zi x4, zi x5, zr 114 0, zr 115 0, zr 116 0, zi (bI (ySee kd)), zi (nI n), zi x11, zi x12, zi x13, zi x14, zi x15, zi x16, zi x17, zi x18, zi x19, zi x20, zi x21, zi t, v23, u24, u25, u26, u27] [zi b] M = zgo false d 326 806 [zr 16 0, zr 12 0, zi (nI kd), zi x3, zi x4, zi x5, zr 114 0, zr 115 0, zr 116 0, zi (bI (ySee kd)), zi (nI n), zi x11, zi x12, zi x13, zi x14, zi x15, zi x16, zi x17, zi x18, zi x19, zi x20, zi x21, zi t, zi b, v24, u25, u26, u27] [] M := by
  have eu : nI n / 100 = nI (n / 100) := nI_d100 n h2
  have u1 : 1 ≤ nI n / 100 := by rw [eu]; exact nI_le (a := 1) (by omega) (by omega)
  have ble : b ≤ nI n / 100 := by rw [hb]; exact sBle kd x3 cc t la
  have n0 : ¬ (100 : Int32) = 0 := by decide
  have n5 : ¬ (50 : Int32) = 0 := by decide
  -- from 699 on
  have q4 : kd = 0 ∨ kd = 1 ∨ kd = 2 ∨ kd = 3 ∨ kd = 4 ∨ kd = 5 ∨ kd = 6 ∨ kd = 7 := by omega
  have hN : kd ≤ 1 ∨ kd = 6 → ∃ v24, zgo false d 326 699 [zr 16 0, zr 12 0, zi (nI kd), zi x3, zi x4, zi x5, zr 114 0, zr 115 0, zr 116 0, zi (bI (ySee kd)), zi (nI n), zi x11, zi x12, zi x13, zi x14, zi x15, zi x16, zi x17, zi x18, zi x19, zi x20, zi x21, zi t, zi b, u24, u25, u26, u27] [] M = zgo false d 326 806 [zr 16 0, zr 12 0, zi (nI kd), zi x3, zi x4, zi x5, zr 114 0, zr 115 0, zr 116 0, zi (bI (ySee kd)), zi (nI n), zi x11, zi x12, zi x13, zi x14, zi x15, zi x16, zi x17, zi x18, zi x19, zi x20, zi x21, zi t, zi b, v24, u25, u26, u27] [] M := by
    intro hs
    refine ⟨u24, ?_⟩
    have e9 : bI (ySee kd) = 0 := by
      rw [show ySee kd = false from decide_eq_false (by omega)]
      rfl
    have eb : b = if 1 + nI n / 100 / 50 < nI n / 100 then 1 + nI n / 100 / 50 else nI n / 100 := by
      rw [hb, eu]
      exact sBno x3 cc la t hs (by have := h3 hs; omega)
    rw [e9, B326_699, if_neg n0, if_pos ble, if_pos rfl, B326_776, if_pos rfl, if_neg n0, if_neg n0, if_neg n5, if_pos eb]
  have hS : ¬ (kd ≤ 1 ∨ kd = 6) → bI (ySee kd) = 1 := by
    intro hs
    rw [show ySee kd = true from decide_eq_true (by omega)]
    rfl
  have one : ¬ (1 : Int32) = 0 := by decide
  have hV : kd = 2 ∨ kd = 5 ∨ kd = 7 → ∃ v24, zgo false d 326 699 [zr 16 0, zr 12 0, zi (nI kd), zi x3, zi x4, zi x5, zr 114 0, zr 115 0, zr 116 0, zi (bI (ySee kd)), zi (nI n), zi x11, zi x12, zi x13, zi x14, zi x15, zi x16, zi x17, zi x18, zi x19, zi x20, zi x21, zi t, zi b, u24, u25, u26, u27] [] M = zgo false d 326 806 [zr 16 0, zr 12 0, zi (nI kd), zi x3, zi x4, zi x5, zr 114 0, zr 115 0, zr 116 0, zi (bI (ySee kd)), zi (nI n), zi x11, zi x12, zi x13, zi x14, zi x15, zi x16, zi x17, zi x18, zi x19, zi x20, zi x21, zi t, zi b, v24, u25, u26, u27] [] M := by
    intro hs
    rw [hS (by omega)]
    have c3 : ¬ nI kd = 3 := fun q => by have := (nI_eq (b := 3) (by omega) (by omega)).mp q; omega
    have c4 : ¬ nI kd = 4 := fun q => by have := (nI_eq (b := 4) (by omega) (by omega)).mp q; omega
    by_cases c : t < x3
    · exact ⟨u24, by rw [B326_699, if_neg n0, if_pos ble, if_neg one, if_neg c3, if_neg c4, if_pos c, B326_776, if_neg one]⟩
    · refine ⟨zi (sLb1 (nI n / 100) t), ?_⟩
      have eb : b = sLb1 (nI n / 100) t := hb.trans (sBsee x3 cc la t hs c)
      rw [B326_699, if_neg n0, if_pos ble, if_neg one, if_neg c3, if_neg c4, if_neg c, if_neg n0, if_neg n0, if_neg n5]
      show zgo false d 326 767 [zr 16 0, zr 12 0, zi (nI kd), zi x3, zi x4, zi x5, zr 114 0, zr 115 0, zr 116 0, zi 1, zi (nI n), zi x11, zi x12, zi x13, zi x14, zi x15, zi x16, zi x17, zi x18, zi x19, zi x20, zi x21, zi t, zi b, zi (sLb1 (nI n / 100) t), u25, u26, u27] [] M = _
      rw [B326_767, if_pos eb, B326_776, if_neg one]
  have hW : kd = 3 ∨ kd = 4 → zgo false d 326 699 [zr 16 0, zr 12 0, zi (nI kd), zi x3, zi x4, zi x5, zr 114 0, zr 115 0, zr 116 0, zi (bI (ySee kd)), zi (nI n), zi x11, zi x12, zi x13, zi x14, zi x15, zi x16, zi x17, zi x18, zi x19, zi x20, zi x21, zi t, zi b, u24, u25, u26, u27] [] M = zgo false d 326 806 [zr 16 0, zr 12 0, zi (nI kd), zi x3, zi x4, zi x5, zr 114 0, zr 115 0, zr 116 0, zi (bI (ySee kd)), zi (nI n), zi x11, zi x12, zi x13, zi x14, zi x15, zi x16, zi x17, zi x18, zi x19, zi x20, zi x21, zi t, zi b, u24, u25, u26, u27] [] M := by
    intro hs
    rw [hS (by omega)]
    rcases hs with rfl | rfl
    · rw [B326_699, if_neg n0, if_pos ble, if_neg one, if_pos (show nI 3 = 3 from rfl), B326_776, if_neg one]
    · rw [B326_699, if_neg n0, if_pos ble, if_neg one, if_neg (show ¬ nI 4 = 3 by decide), if_pos (show nI 4 = 4 from rfl), B326_776, if_neg one]
  have h57 : kd = 5 ∨ kd = 7 → zgo false d 326 675 [zr 16 0, zr 12 0, zi (nI kd), zi x3, zi x4, zi x5, zr 114 0, zr 115 0, zr 116 0, zi (bI (ySee kd)), zi (nI n), zi x11, zi x12, zi x13, zi x14, zi x15, zi x16, zi x17, zi x18, zi x19, zi x20, zi x21, zi t, zi b, u24, u25, u26, u27] [] M = zgo false d 326 699 [zr 16 0, zr 12 0, zi (nI kd), zi x3, zi x4, zi x5, zr 114 0, zr 115 0, zr 116 0, zi (bI (ySee kd)), zi (nI n), zi x11, zi x12, zi x13, zi x14, zi x15, zi x16, zi x17, zi x18, zi x19, zi x20, zi x21, zi t, zi b, u24, u25, u26, u27] [] M := by
    intro hs
    have e0 := sB57 (u := nI n / 100) (kd := kd) x3 cc la t hs u1
    rw [← hb] at e0
    by_cases c : t < x3
    · rw [B326_675, if_neg (fun q => z_le_nlt q c), B326_686, if_pos (e0.mpr c), B326_696, if_pos rfl]
    · rw [B326_675, if_pos (z_nlt_le c), B326_686, if_neg (mt e0.mp c), B326_696, if_pos rfl]
  rw [B326_651]
  rcases q4 with rfl | rfl | rfl | rfl | rfl | rfl | rfl | rfl

  · rw [if_neg (show ¬ nI 0 = 4 by decide), B326_664, if_neg (show ¬ nI 0 = 5 by decide), if_neg (show ¬ nI 0 = 7 by decide)]
    exact hN (by omega)
  · rw [if_neg (show ¬ nI 1 = 4 by decide), B326_664, if_neg (show ¬ nI 1 = 5 by decide), if_neg (show ¬ nI 1 = 7 by decide)]
    exact hN (by omega)
  · rw [if_neg (show ¬ nI 2 = 4 by decide), B326_664, if_neg (show ¬ nI 2 = 5 by decide), if_neg (show ¬ nI 2 = 7 by decide)]
    exact hV (by omega)
  · rw [if_neg (show ¬ nI 3 = 4 by decide), B326_664, if_neg (show ¬ nI 3 = 5 by decide), if_neg (show ¬ nI 3 = 7 by decide)]
    exact ⟨_, hW (by omega)⟩
  · have e1 : b = 1 := hb.trans (sB4 x3 cc t la u1)
    rw [if_pos (show nI 4 = 4 from rfl), if_pos e1, B326_664, if_neg (show ¬ nI 4 = 5 by decide), if_neg (show ¬ nI 4 = 7 by decide)]
    exact ⟨_, hW (by omega)⟩
  · rw [if_neg (show ¬ nI 5 = 4 by decide), B326_664, if_pos (show nI 5 = 5 from rfl), h57 (by omega)]
    exact hV (by omega)
  · rw [if_neg (show ¬ nI 6 = 4 by decide), B326_664, if_neg (show ¬ nI 6 = 5 by decide), if_neg (show ¬ nI 6 = 7 by decide)]
    exact hN (by omega)
  · rw [if_neg (show ¬ nI 7 = 4 by decide), B326_664, if_neg (show ¬ nI 7 = 5 by decide), if_pos (show nI 7 = 7 from rfl), h57 (by omega)]
    exact hV (by omega)
theorem sLp0 (b lb rr t : Int32) : sLp b lb 0 rr t = if (b + lb * 2 + (if 0 ≤ rr then 0 else 4) + (if t ≤ 0 then 0 else 5)) < 99 then (b + lb * 2 + (if 0 ≤ rr then 0 else 4) + (if t ≤ 0 then 0 else 5)) else 99 := by
  unfold sLp
  rw [show (0 : Int32) * 3 = 0 from rfl, Int32.add_zero]

theorem sPtsOk (d g h : Nat) (u25 u26 u27 : zV) {x2 x3 x4 x5 x9 x10 x11 x12 x13 x14 x15 x16 x17 x18 x19 x20 x22 x23 x24 : Int32} {M : zM} (h13 : zgI M 12 0 13 = nI h) (hh : h ≤ 60) (hg : g < h) (w1 : x24 = 0 ∨ x24 = 1) (w2 : zgI M 4 g 11 = 0 → x24 = 0) (e12 : zgI M 4 g 12 = sLp x23 x12 x24 (zgI M 4 g 10 / 100) x22) : zgo false (d + 4) 326 823 [zr 16 0, zr 12 0, zi x2, zi x3, zi x4, zi x5, zr 114 0, zr 115 0, zr 116 0, zi x9, zi x10, zi x11, zi x12, zi x13, zi x14, zi x15, zi x16, zi x17, zi x18, zi x19, zi x20, zi (nI g), zi x22, zi x23, zi x24, u25, u26, u27] [zi (zgI M 4 g 10)] M = zgo false (d + 4) 326 946 [zr 16 0, zr 12 0, zi x2, zi x3, zi x4, zi x5, zr 114 0, zr 115 0, zr 116 0, zi x9, zi x10, zi x11, zi x12, zi x13, zi x14, zi x15, zi x16, zi x17, zi x18, zi x19, zi x20, zi (nI g), zi x22, zi x23, zi x24, zi (zgI M 4 g 10 / 100), zi (zgI M 4 g 12), zi (sLp x23 x12 0 (zgI M 4 g 10 / 100) x22)] [] M := by
  have l6 : zgo false (d + 3) 141 0 [zr 12 0, zi (nI g), zi 6, zu] [] M = some (some (zi (zgI M 4 g 12)), M) := sLed d h g 6 _ h13 hh hg (fun d => sTold6 d g M)
  have l4 : zgo false (d + 3) 141 0 [zr 12 0, zi (nI g), zi 4, zu] [] M = some (some (zi (zgI M 4 g 11)), M) := sLed d h g 4 _ h13 hh hg (fun d => sTold4 d g M)
  have tail : zgo false (d + 4) 326 913 [zr 16 0, zr 12 0, zi x2, zi x3, zi x4, zi x5, zr 114 0, zr 115 0, zr 116 0, zi x9, zi x10, zi x11, zi x12, zi x13, zi x14, zi x15, zi x16, zi x17, zi x18, zi x19, zi x20, zi (nI g), zi x22, zi x23, zi x24, zi (zgI M 4 g 10 / 100), zi (zgI M 4 g 12), zi (sLp x23 x12 0 (zgI M 4 g 10 / 100) x22)] [zi (zgI M 4 g 12)] M = zgo false (d + 4) 326 946 [zr 16 0, zr 12 0, zi x2, zi x3, zi x4, zi x5, zr 114 0, zr 115 0, zr 116 0, zi x9, zi x10, zi x11, zi x12, zi x13, zi x14, zi x15, zi x16, zi x17, zi x18, zi x19, zi x20, zi (nI g), zi x22, zi x23, zi x24, zi (zgI M 4 g 10 / 100), zi (zgI M 4 g 12), zi (sLp x23 x12 0 (zgI M 4 g 10 / 100) x22)] [] M := by
    have a1 : ¬ x24 < 0 := by rcases w1 with e | e <;> (rw [e]; decide)
    have a2 : ¬ 1 < x24 := by rcases w1 with e | e <;> (rw [e]; decide)
    rw [B326_913, if_pos rfl, if_neg a1, if_neg a2, l4, zbsome, zpu1, B326_936]
    by_cases c : zgI M 4 g 11 = 0
    · rw [if_pos c, if_pos (w2 c)]
    · rw [if_neg c]
  rw [← tail, B326_823, if_neg (show ¬ (100 : Int32) = 0 by decide)]
  unfold sLp at e12
  rw [sLp0, e12]
  by_cases c1 : 0 ≤ zgI M 4 g 10 / 100
  · rw [if_pos c1]
    by_cases c2 : x22 ≤ 0
    · rw [B326_852, if_pos c2, B326_863, if_pos c1, B326_888, if_pos c2, B326_899, l6, e12, zbsome, zpu1]
      simp only [if_pos c1, if_pos c2]
    · rw [B326_852, if_neg c2, B326_863, if_pos c1, B326_888, if_neg c2, B326_899, l6, e12, zbsome, zpu1]
      simp only [if_pos c1, if_neg c2]
  · rw [if_neg c1]
    by_cases c2 : x22 ≤ 0
    · rw [B326_852, if_pos c2, B326_863, if_neg c1, B326_888, if_pos c2, B326_899, l6, e12, zbsome, zpu1]
      simp only [if_neg c1, if_pos c2]
    · rw [B326_852, if_neg c2, B326_863, if_neg c1, B326_888, if_neg c2, B326_899, l6, e12, zbsome, zpu1]
      simp only [if_neg c1, if_neg c2]

def sBd (kd N : Nat) (now last : Int32) : Prop := ∃ n, now = nI n ∧ n ≤ 6000 + 19800 * N ∧ (kd ≤ 1 ∨ kd = 6 → n ≤ sF N) ∧ 0 ≤ last ∧ last ≤ 99
theorem sBd_step {kd N : Nat} {now br bet last cl c t la : Int32} (H : sBd kd N now last) (hN : N ≤ 45) (h100 : 100 ≤ now) (hb : bet = yBe sT2 (now / 100) kd cl c t la) (hbr : br = 0 ∨ ∃ y : Int, -200 ≤ y ∧ y ≤ 200 ∧ br = yI y * bet) : sBd kd (N + 1) (yHe (now + br) 0 9999900) bet ∧ (if 0 < now + br then now + br else 0) = yHe (now + br) 0 9999900 := by
  obtain ⟨n, rfl, n1, n2, -⟩ := H
  have n100 : 100 ≤ n := by
    rcases Nat.lt_or_ge n 100 with q | q
    · exact absurd (nI_lt (b := 100) q (by omega)) (z_le_nlt h100)
    · exact q
  have eu : nI n / 100 = nI (n / 100) := nI_d100 n (by omega)
  have u1 : 1 ≤ nI n / 100 := by rw [eu]; exact nI_le (a := 1) (by omega) (by omega)
  obtain ⟨b1, b2⟩ := sBb (u := nI n / 100) kd cl c t la u1
  rw [← hb] at b1 b2
  have sFs : sF (N + 1) = sF N + 200 + sF N / 25 := rfl
  have bno : kd ≤ 1 ∨ kd = 6 → bet ≤ nI (1 + n / 100 / 50) := by
    intro hs
    have hF := sF_b N (by omega)
    have := n2 hs
    rw [hb, eu, sBno cl c la t hs (by omega)]
    have e50 : (1 : Int32) + nI (n / 100) / 50 = nI (1 + n / 100 / 50) := by
      rw [show nI (n / 100) / 50 = nI (n / 100 / 50) by
        rw [yI_nat, yI_nat, show (50 : Int32) = yI 50 from rfl, yI_div ⟨by omega, by omega⟩ ⟨by omega, by omega⟩ (by omega)]
        congr 1, show (1 : Int32) = nI 1 from rfl, nI_add]
    rw [e50]
    by_cases q : nI (1 + n / 100 / 50) < nI (n / 100)
    · rw [if_pos q]; exact Int32.le_refl _
    · rw [if_neg q]; exact z_nlt_le q
  obtain ⟨β, rfl, hβ⟩ : ∃ β : Int, bet = yI β ∧ (0 ≤ β ∧ β ≤ 99) := ⟨bet.toInt, (Int32.ofInt_toInt bet).symm, by rw [zI_le] at b1 b2; exact ⟨b1, b2⟩⟩
  have bno2 : kd ≤ 1 ∨ kd = 6 → β ≤ (1 + n / 100 / 50 : Nat) := fun hs => by
    have := bno hs
    rw [yI_nat, yI_le ⟨by omega, by omega⟩ ⟨by omega, by omega⟩] at this
    exact this
  obtain ⟨z, rfl, z1, z2⟩ : ∃ z : Int, br = yI z ∧ -(200 * β) ≤ z ∧ z ≤ 200 * β := by
    rcases hbr with rfl | ⟨y, y1, y2, rfl⟩
    · exact ⟨0, rfl, by omega, by omega⟩
    · have p1 := Int.mul_le_mul_of_nonneg_right y1 hβ.1
      have p2 := Int.mul_le_mul_of_nonneg_right y2 hβ.1
      exact ⟨y * β, yI_mul y β, by omega, by omega⟩
  have eV : nI n + yI z = yI (n + z) := by rw [yI_nat, yI_add]
  rw [eV]
  have hVb : yB (n + z) := ⟨by omega, by omega⟩
  have k2 : ¬ 9999900 < yI (n + z) := fun q => by
    have := (yI_lt (a := 9999900) ⟨by decide, by decide⟩ hVb).mp q
    omega
  have k1 : yI (n + z) < 0 ↔ (n : Int) + z < 0 := yI_lt (b := 0) hVb ⟨by decide, by decide⟩
  have k3 : 0 < yI (n + z) ↔ 0 < (n : Int) + z := yI_lt (a := 0) ⟨by decide, by decide⟩ hVb
  unfold yHe
  by_cases q : (n : Int) + z < 0
  · rw [if_pos (k1.mpr q), if_neg (fun w => by have := k3.mp w; omega)]
    exact ⟨⟨0, rfl, by omega, fun _ => Nat.zero_le _, b1, b2⟩, rfl⟩
  · rw [if_neg (mt k1.mp q), if_neg k2]
    obtain ⟨m, hm⟩ : ∃ m : Nat, (n : Int) + z = m := ⟨((n : Int) + z).toNat, by omega⟩
    refine ⟨⟨m, by rw [hm]; rfl, by omega, fun hs => ?_, b1, b2⟩, ?_⟩
    · have := bno2 hs
      have := n2 hs
      omega
    · by_cases w : 0 < (n : Int) + z
      · rw [if_pos (k3.mpr w)]
      · rw [if_neg (mt k3.mp w), show (n : Int) + z = 0 by omega]
        rfl

theorem sHand (d g h kd N0 : Nat) (u22 u23 u24 u25 u26 u27 : zV) {cl lim p0 t0 l0 x4 x15 x16 x17 x18 : Int32} {M : zM} (h13 : zgI M 12 0 13 = nI h) (hh : h ≤ 60) (hg : g < h) (hk : kd ≤ 7) (hN : N0 + g ≤ 45) (H : sHd sT2 sT3 kd cl lim p0 t0 l0 M g) (hB : sBd kd (N0 + g) (sPu M p0 g) (sLb M l0 g)) : sBd kd (N0 + (g + 1)) (sPu M p0 (g + 1)) (sLb M l0 (g + 1)) ∧ ∃ v22 v23 v24 v25 v26 v27, zgo false (d + 4) 326 612 [zr 16 0, zr 12 0, zi (nI kd), zi cl, zi x4, zi lim, zr 114 0, zr 115 0, zr 116 0, zi (bI (ySee kd)), zi (sPu M p0 g), zi (sPt M t0 g), zi (sLb M l0 g), zi (nI (N0 + g)), zi (sHi M g), zi x15, zi x16, zi x17, zi x18, zi (nI h), zi (sBr M g), zi (nI g), u22, u23, u24, u25, u26, u27] [] M = zgo false (d + 4) 326 612 [zr 16 0, zr 12 0, zi (nI kd), zi cl, zi x4, zi lim, zr 114 0, zr 115 0, zr 116 0, zi (bI (ySee kd)), zi (sPu M p0 (g + 1)), zi (sPt M t0 (g + 1)), zi (sLb M l0 (g + 1)), zi (nI (N0 + (g + 1))), zi (sHi M (g + 1)), zi x15, zi x16, zi x17, zi x18, zi (nI h), zi (sBr M (g + 1)), zi (nI (g + 1)), v22, v23, v24, v25, v26, v27] [] M := by
  obtain ⟨⟨p1, p2⟩, ⟨la, hb⟩, hbr, hw, hw2, e12, e13⟩ := H
  obtain ⟨s1, s2⟩ := sBd_step hB hN p1 hb hbr
  obtain ⟨n, hn, n1, n2, l1, l2⟩ := hB
  refine ⟨s1, zi (zgI M 4 g 15), zi (zgI M 4 g 9), zi (zgI M 4 g 19), zi (zgI M 4 g 10 / 100), zi (zgI M 4 g 12), zi (sLp (zgI M 4 g 9) (sLb M l0 g) 0 (zgI M 4 g 10 / 100) (zgI M 4 g 15)), ?_⟩
  obtain ⟨-, -, -, -, b1, b2⟩ := s1
  have n100 : 100 ≤ n := by
    rcases Nat.lt_or_ge n 100 with q | q
    · rw [hn] at p1
      exact absurd (nI_lt (b := 100) q (by omega)) (z_le_nlt p1)
    · exact q
  obtain ⟨v24, eB⟩ := sBetOk (d + 4) kd n u24 u25 u26 u27 (x3 := cl) (x4 := x4) (x5 := lim) (x11 := sPt M t0 g) (x12 := sLb M l0 g) (x13 := nI (N0 + g)) (x14 := sHi M g) (x15 := x15) (x16 := x16) (x17 := x17) (x18 := x18) (x19 := nI h) (x20 := sBr M g) (x21 := nI g) (t := zgI M 4 g 15) (b := zgI M 4 g 9) (u23 := 0) (zgI M 4 g 14) la M hk n100 (by omega) (fun hs => by have := n2 hs; have := sF_b (N0 + g) (by omega); omega) (by rw [← hn]; exact hb) u23
  rw [← hn] at eB
  have ld : ∀ w v, (∀ d, zgo false (d + 1) 29 0 [zr 4 g, zi w] [] M = some (some (zi v), M)) → zgo false (d + 3) 141 0 [zr 12 0, zi (nI g), zi w, zu] [] M = some (some (zi v), M) := fun w v q => sLed d h g w v h13 hh hg q
  have q5 := ld 5 _ (fun d => sTold5 d g M)
  have q0 := ld 0 _ (fun d => sTold0 d g M)
  have q8 := ld 8 _ (fun d => sTold8 d g hw)
  have q1 := ld 1 _ (fun d => sTold1 d g M)
  rw [sPtl (zgI M 4 g 10 / 100) (zgI M 4 g 14) (zgI M 4 g 15) b1 b2 l1 l2 hw] at e12
  rw [sPtl (zgI M 4 g 10 / 100) (zgI M 4 g 14) (zgI M 4 g 15) b1 b2 l1 l2 (Or.inl rfl)] at e13
  rw [B326_612, if_neg (show ¬ nI h ≤ nI g from nI_ge (by omega) (by omega)), if_neg (z_le_nlt p1), if_pos p2, q5, zbsome, zpu1, B326_642, q0, zbsome, zpu1, eB, B326_806, q8, zbsome, zpu1, B326_814, q1, zbsome, zpu1, sPtsOk d g h u25 u26 u27 h13 hh hg hw hw2 e12, B326_946, B326_967, q1, zbsome, zpu1, B326_977, q1, zbsome, zpu1, B326_992, s2, nI_1, nI_1, ← e13]
  rfl
theorem sHands (d h kd N0 : Nat) {cl lim p0 t0 l0 x4 x15 x16 x17 x18 : Int32} {M : zM} (h13 : zgI M 12 0 13 = nI h) (hh : h ≤ 60) (hk : kd ≤ 7) (hN : N0 + h ≤ 45) (H : ∀ g, g < h → sHd sT2 sT3 kd cl lim p0 t0 l0 M g) : ∀ (j g : Nat) (u22 u23 u24 u25 u26 u27 : zV), g + j = h → sBd kd (N0 + g) (sPu M p0 g) (sLb M l0 g) → sBd kd (N0 + h) (sPu M p0 h) (sLb M l0 h) ∧ ∃ v22 v23 v24 v25 v26 v27, zgo false (d + 4) 326 612 [zr 16 0, zr 12 0, zi (nI kd), zi cl, zi x4, zi lim, zr 114 0, zr 115 0, zr 116 0, zi (bI (ySee kd)), zi (sPu M p0 g), zi (sPt M t0 g), zi (sLb M l0 g), zi (nI (N0 + g)), zi (sHi M g), zi x15, zi x16, zi x17, zi x18, zi (nI h), zi (sBr M g), zi (nI g), u22, u23, u24, u25, u26, u27] [] M = zgo false (d + 4) 326 612 [zr 16 0, zr 12 0, zi (nI kd), zi cl, zi x4, zi lim, zr 114 0, zr 115 0, zr 116 0, zi (bI (ySee kd)), zi (sPu M p0 h), zi (sPt M t0 h), zi (sLb M l0 h), zi (nI (N0 + h)), zi (sHi M h), zi x15, zi x16, zi x17, zi x18, zi (nI h), zi (sBr M h), zi (nI h), v22, v23, v24, v25, v26, v27] [] M := by
  intro j
  induction j with
  | zero =>
    intro g u22 u23 u24 u25 u26 u27 hj hB
    have hj : g = h := hj
    subst hj
    exact ⟨hB, u22, u23, u24, u25, u26, u27, rfl⟩
  | succ j ih =>
    intro g u22 u23 u24 u25 u26 u27 hj hB
    obtain ⟨B1, w22, w23, w24, w25, w26, w27, e1⟩ := sHand d g h kd N0 u22 u23 u24 u25 u26 u27 (cl := cl) (lim := lim) (p0 := p0) (t0 := t0) (l0 := l0) (x4 := x4) (x15 := x15) (x16 := x16) (x17 := x17) (x18 := x18) h13 hh (by omega) hk (by omega) (H g (by omega)) hB
    obtain ⟨B2, v22, v23, v24, v25, v26, v27, e2⟩ := ih (g + 1) w22 w23 w24 w25 w26 w27 (by omega) B1
    exact ⟨B2, v22, v23, v24, v25, v26, v27, e1.trans e2⟩

