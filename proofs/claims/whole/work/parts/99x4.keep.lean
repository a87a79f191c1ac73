/-! ===== hands led, kept and brought back ===== -/
def kp1 (B B' : zM) (g : Nat) : Prop := (zgI B' 99 0 g = zgI B 83 0 g ∧ zgI B' 99 0 (60 + g) = zgI B 84 0 g ∧ zgI B' 99 0 (120 + g) = zgI B 85 0 g ∧ zgI B' 99 0 (180 + g) = zgI B 86 0 g ∧ zgI B' 99 0 (240 + g) = zgI B 87 0 g ∧ zgI B' 99 0 (300 + g) = zgI B 88 0 g ∧ zgI B' 99 0 (360 + g) = zgI B 90 0 g) ∧ zgI B' 100 0 g = zgI B 89 0 g &&& 1 ∧ zgI B' 103 0 g = (zgI B 92 0 g).toInt8.toInt32 ∧ zgI B' 103 0 (60 + g) = (zgI B 94 0 g).toInt8.toInt32
def kp2 (B B' : zM) (g : Nat) : Prop := (zgI B' 83 0 g = zgI B 99 0 g ∧ zgI B' 84 0 g = zgI B 99 0 (60 + g) ∧ zgI B' 85 0 g = zgI B 99 0 (120 + g) ∧ zgI B' 86 0 g = zgI B 99 0 (180 + g) ∧ zgI B' 87 0 g = zgI B 99 0 (240 + g) ∧ zgI B' 88 0 g = zgI B 99 0 (300 + g) ∧ zgI B' 90 0 g = zgI B 99 0 (360 + g)) ∧ zgI B' 89 0 g = zgI B 100 0 g &&& 1 ∧ zgI B' 92 0 g = (zgI B 103 0 g).toInt8.toInt32 ∧ zgI B' 94 0 g = (zgI B 103 0 (60 + g)).toInt8.toInt32
def kf1 (n a b c : Nat) : Prop := b = 0 ∧ ((a = 99 ∧ n ≤ c % 60) ∨ (a = 100 ∧ n ≤ c) ∨ (a = 103 ∧ n ≤ c % 60))
def kf2 (n a b c : Nat) : Prop := b = 0 ∧ ((83 ≤ a ∧ a ≤ 90) ∨ a = 92 ∨ a = 94) ∧ n ≤ c
theorem K279k (d k h j : Nat) (B : zM) (hh : h < 60) (hj : j < 420) (h1 : Nat.beq (zat k) 1 = true) (h2 : zlen B k = 60) (h3 : zld B k 0 h = zgI B k 0 h) : zgo false d 279 0 [zr 13 0, zi 0, zr k 0, zi (nI h), zi (nI j)] [] B = some (none, zsI B 99 0 j (zgI B k 0 h)) := by
  have z1 : zin (nI h) 60 = true := zin_nI (by omega) (by omega)
  have z2 : zin (nI j) 420 = true := zin_nI (by omega) (by omega)
  have c1 : (nI h).toNatClampNeg = h := nI_clamp (by omega)
  have c2 : (nI j).toNatClampNeg = j := nI_clamp (by omega)
  rw [B279_0, if_pos rfl, h1, cond_true, h2, if_pos z1, if_pos z2, c1, c2, h3, B279_27]
theorem K279b (d k h j : Nat) (B : zM) (hh : h < 60) (hj : j < 420) (h1 : (Nat.beq (zat k) 1 && Nat.ble 17 k) = true) (h2 : zlen B k = 60) : zgo false d 279 0 [zr 13 0, zi 1, zr k 0, zi (nI h), zi (nI j)] [] B = some (none, zsI B k 0 h (zgI B 99 0 j)) := by
  have z1 : zin (nI h) 60 = true := zin_nI (by omega) (by omega)
  have z2 : zin (nI j) 420 = true := zin_nI (by omega) (by omega)
  have c1 : (nI h).toNatClampNeg = h := nI_clamp (by omega)
  have c2 : (nI j).toNatClampNeg = j := nI_clamp (by omega)
  rw [B279_0, if_neg (show ¬ (1 : Int32) = 0 by decide), if_pos z2, h1, cond_true, h2, if_pos z1, c1, c2, B279_27]
theorem nI_60 (k n : Nat) : nI k + nI n = nI (k + n) := nI_add k n
theorem L278a (d : Nat) : ∀ (j n : Nat) (B : zM), n + j = 60 → ∃ B', zgo false (d + 2) 278 2 [zr 13 0, zi 0, zi (nI n)] [] B = zgo false (d + 2) 278 214 [zr 13 0, zi 0, zi (nI 0)] [] B' ∧ zFo (kf1 n) B B' ∧ ∀ g, n ≤ g → g < 60 → kp1 B B' g
  | 0, n, B, hn => by
    have hn : n = 60 := hn
    subst hn
    refine ⟨B, ?_, zFo_refl _ B, fun g g1 g2 => absurd g1 (by omega)⟩
    rw [B278_2, if_pos (by decide)]
    rfl
  | j + 1, n, B, hn => by
    have z60 : zin (nI n) 60 = true := zin_nI (by omega) (by omega)
    have z120 : zin (nI n) 120 = true := zin_nI (by omega) (by omega)
    have z120b : zin (nI (60 + n)) 120 = true := zin_nI (by omega) (by omega)
    have c1 : (nI n).toNatClampNeg = n := nI_clamp (by omega)
    have c2 : (nI (60 + n)).toNatClampNeg = 60 + n := nI_clamp (by omega)
    obtain ⟨M1, hM1⟩ : ∃ M, M = zsI B 99 0 n (zgI B 83 0 n) := ⟨_, rfl⟩
    have f1 : zFo (fun a b c => a = 99 ∧ b = 0 ∧ c = n) B M1 := by
      rw [hM1]
      exact zFo_sI (zFo_refl _ B) ⟨rfl, rfl, rfl⟩
    have F1 : zFo (fun a b c => b = 0 ∧ (a = 99 ∨ a = 100 ∨ a = 103) ∧ c % 60 = n) B M1 := (zFo_mono f1 (fun a b c y => by omega))
    obtain ⟨M2, hM2⟩ : ∃ M, M = zsI M1 99 0 (60 + n) (zgI B 84 0 n) := ⟨_, rfl⟩
    have f2 : zFo (fun a b c => a = 99 ∧ b = 0 ∧ c = (60 + n)) M1 M2 := by
      rw [hM2]
      exact zFo_sI (zFo_refl _ M1) ⟨rfl, rfl, rfl⟩
    have F2 : zFo (fun a b c => b = 0 ∧ (a = 99 ∨ a = 100 ∨ a = 103) ∧ c % 60 = n) B M2 := zFo_trans F1 (zFo_mono f2 (fun a b c y => by omega))
    obtain ⟨M3, hM3⟩ : ∃ M, M = zsI M2 99 0 (120 + n) (zgI B 85 0 n) := ⟨_, rfl⟩
    have f3 : zFo (fun a b c => a = 99 ∧ b = 0 ∧ c = (120 + n)) M2 M3 := by
      rw [hM3]
      exact zFo_sI (zFo_refl _ M2) ⟨rfl, rfl, rfl⟩
    have F3 : zFo (fun a b c => b = 0 ∧ (a = 99 ∨ a = 100 ∨ a = 103) ∧ c % 60 = n) B M3 := zFo_trans F2 (zFo_mono f3 (fun a b c y => by omega))
    obtain ⟨M4, hM4⟩ : ∃ M, M = zsI M3 99 0 (180 + n) (zgI B 86 0 n) := ⟨_, rfl⟩
    have f4 : zFo (fun a b c => a = 99 ∧ b = 0 ∧ c = (180 + n)) M3 M4 := by
      rw [hM4]
      exact zFo_sI (zFo_refl _ M3) ⟨rfl, rfl, rfl⟩
    have F4 : zFo (fun a b c => b = 0 ∧ (a = 99 ∨ a = 100 ∨ a = 103) ∧ c % 60 = n) B M4 := zFo_trans F3 (zFo_mono f4 (fun a b c y => by omega))
    obtain ⟨M5, hM5⟩ : ∃ M, M = zsI M4 99 0 (240 + n) (zgI B 87 0 n) := ⟨_, rfl⟩
    have f5 : zFo (fun a b c => a = 99 ∧ b = 0 ∧ c = (240 + n)) M4 M5 := by
      rw [hM5]
      exact zFo_sI (zFo_refl _ M4) ⟨rfl, rfl, rfl⟩
    have F5 : zFo (fun a b c => b = 0 ∧ (a = 99 ∨ a = 100 ∨ a = 103) ∧ c % 60 = n) B M5 := zFo_trans F4 (zFo_mono f5 (fun a b c y => by omega))
    obtain ⟨M6, hM6⟩ : ∃ M, M = zsI M5 99 0 (300 + n) (zgI B 88 0 n) := ⟨_, rfl⟩
    have f6 : zFo (fun a b c => a = 99 ∧ b = 0 ∧ c = (300 + n)) M5 M6 := by
      rw [hM6]
      exact zFo_sI (zFo_refl _ M5) ⟨rfl, rfl, rfl⟩
    have F6 : zFo (fun a b c => b = 0 ∧ (a = 99 ∨ a = 100 ∨ a = 103) ∧ c % 60 = n) B M6 := zFo_trans F5 (zFo_mono f6 (fun a b c y => by omega))
    obtain ⟨M7, hM7⟩ : ∃ M, M = zsI M6 99 0 (360 + n) (zgI B 90 0 n) := ⟨_, rfl⟩
    have f7 : zFo (fun a b c => a = 99 ∧ b = 0 ∧ c = (360 + n)) M6 M7 := by
      rw [hM7]
      exact zFo_sI (zFo_refl _ M6) ⟨rfl, rfl, rfl⟩
    have F7 : zFo (fun a b c => b = 0 ∧ (a = 99 ∨ a = 100 ∨ a = 103) ∧ c % 60 = n) B M7 := zFo_trans F6 (zFo_mono f7 (fun a b c y => by omega))
    obtain ⟨M8, hM8⟩ : ∃ M, M = zsI M7 100 0 n ((zgI B 89 0 n &&& 1)) := ⟨_, rfl⟩
    have f8 : zFo (fun a b c => a = 100 ∧ b = 0 ∧ c = n) M7 M8 := by
      rw [hM8]
      exact zFo_sI (zFo_refl _ M7) ⟨rfl, rfl, rfl⟩
    have F8 : zFo (fun a b c => b = 0 ∧ (a = 99 ∨ a = 100 ∨ a = 103) ∧ c % 60 = n) B M8 := zFo_trans F7 (zFo_mono f8 (fun a b c y => by omega))
    obtain ⟨M9, hM9⟩ : ∃ M, M = zsI M8 103 0 n (((zgI B 92 0 n).toInt8.toInt32)) := ⟨_, rfl⟩
    have f9 : zFo (fun a b c => a = 103 ∧ b = 0 ∧ c = n) M8 M9 := by
      rw [hM9]
      exact zFo_sI (zFo_refl _ M8) ⟨rfl, rfl, rfl⟩
    have F9 : zFo (fun a b c => b = 0 ∧ (a = 99 ∨ a = 100 ∨ a = 103) ∧ c % 60 = n) B M9 := zFo_trans F8 (zFo_mono f9 (fun a b c y => by omega))
    obtain ⟨M10, hM10⟩ : ∃ M, M = zsI M9 103 0 (60 + n) (((zgI B 94 0 n).toInt8.toInt32)) := ⟨_, rfl⟩
    have f10 : zFo (fun a b c => a = 103 ∧ b = 0 ∧ c = (60 + n)) M9 M10 := by
      rw [hM10]
      exact zFo_sI (zFo_refl _ M9) ⟨rfl, rfl, rfl⟩
    have F10 : zFo (fun a b c => b = 0 ∧ (a = 99 ∨ a = 100 ∨ a = 103) ∧ c % 60 = n) B M10 := zFo_trans F9 (zFo_mono f10 (fun a b c y => by omega))
    obtain ⟨B', e, f, w⟩ := L278a d j (n + 1) M10 (by omega)
    have fA : zFo (kf1 n) B B' := zFo_trans (zFo_mono F10 (fun a b c y => by unfold kf1; omega)) (zFo_mono f (fun a b c y => by unfold kf1 at y ⊢; omega))
    have v1 : zgI B' 99 0 n = zgI B 83 0 n := by
      rw [(f 99 0 n (by unfold kf1; omega)).1, (f10 99 0 n (by omega)).1, (f9 99 0 n (by omega)).1, (f8 99 0 n (by omega)).1, (f7 99 0 n (by omega)).1, (f6 99 0 n (by omega)).1, (f5 99 0 n (by omega)).1, (f4 99 0 n (by omega)).1, (f3 99 0 n (by omega)).1, (f2 99 0 n (by omega)).1, hM1, zgI_sI, if_pos ⟨rfl, rfl, rfl⟩]
    have v2 : zgI B' 99 0 (60 + n) = zgI B 84 0 n := by
      rw [(f 99 0 (60 + n) (by unfold kf1; omega)).1, (f10 99 0 (60 + n) (by omega)).1, (f9 99 0 (60 + n) (by omega)).1, (f8 99 0 (60 + n) (by omega)).1, (f7 99 0 (60 + n) (by omega)).1, (f6 99 0 (60 + n) (by omega)).1, (f5 99 0 (60 + n) (by omega)).1, (f4 99 0 (60 + n) (by omega)).1, (f3 99 0 (60 + n) (by omega)).1, hM2, zgI_sI, if_pos ⟨rfl, rfl, rfl⟩]
    have v3 : zgI B' 99 0 (120 + n) = zgI B 85 0 n := by
      rw [(f 99 0 (120 + n) (by unfold kf1; omega)).1, (f10 99 0 (120 + n) (by omega)).1, (f9 99 0 (120 + n) (by omega)).1, (f8 99 0 (120 + n) (by omega)).1, (f7 99 0 (120 + n) (by omega)).1, (f6 99 0 (120 + n) (by omega)).1, (f5 99 0 (120 + n) (by omega)).1, (f4 99 0 (120 + n) (by omega)).1, hM3, zgI_sI, if_pos ⟨rfl, rfl, rfl⟩]
    have v4 : zgI B' 99 0 (180 + n) = zgI B 86 0 n := by
      rw [(f 99 0 (180 + n) (by unfold kf1; omega)).1, (f10 99 0 (180 + n) (by omega)).1, (f9 99 0 (180 + n) (by omega)).1, (f8 99 0 (180 + n) (by omega)).1, (f7 99 0 (180 + n) (by omega)).1, (f6 99 0 (180 + n) (by omega)).1, (f5 99 0 (180 + n) (by omega)).1, hM4, zgI_sI, if_pos ⟨rfl, rfl, rfl⟩]
    have v5 : zgI B' 99 0 (240 + n) = zgI B 87 0 n := by
      rw [(f 99 0 (240 + n) (by unfold kf1; omega)).1, (f10 99 0 (240 + n) (by omega)).1, (f9 99 0 (240 + n) (by omega)).1, (f8 99 0 (240 + n) (by omega)).1, (f7 99 0 (240 + n) (by omega)).1, (f6 99 0 (240 + n) (by omega)).1, hM5, zgI_sI, if_pos ⟨rfl, rfl, rfl⟩]
    have v6 : zgI B' 99 0 (300 + n) = zgI B 88 0 n := by
      rw [(f 99 0 (300 + n) (by unfold kf1; omega)).1, (f10 99 0 (300 + n) (by omega)).1, (f9 99 0 (300 + n) (by omega)).1, (f8 99 0 (300 + n) (by omega)).1, (f7 99 0 (300 + n) (by omega)).1, hM6, zgI_sI, if_pos ⟨rfl, rfl, rfl⟩]
    have v7 : zgI B' 99 0 (360 + n) = zgI B 90 0 n := by
      rw [(f 99 0 (360 + n) (by unfold kf1; omega)).1, (f10 99 0 (360 + n) (by omega)).1, (f9 99 0 (360 + n) (by omega)).1, (f8 99 0 (360 + n) (by omega)).1, hM7, zgI_sI, if_pos ⟨rfl, rfl, rfl⟩]
    have v8 : zgI B' 100 0 n = (zgI B 89 0 n &&& 1) := by
      rw [(f 100 0 n (by unfold kf1; omega)).1, (f10 100 0 n (by omega)).1, (f9 100 0 n (by omega)).1, hM8, zgI_sI, if_pos ⟨rfl, rfl, rfl⟩]
    have v9 : zgI B' 103 0 n = ((zgI B 92 0 n).toInt8.toInt32) := by
      rw [(f 103 0 n (by unfold kf1; omega)).1, (f10 103 0 n (by omega)).1, hM9, zgI_sI, if_pos ⟨rfl, rfl, rfl⟩]
    have v10 : zgI B' 103 0 (60 + n) = ((zgI B 94 0 n).toInt8.toInt32) := by
      rw [(f 103 0 (60 + n) (by unfold kf1; omega)).1, hM10, zgI_sI, if_pos ⟨rfl, rfl, rfl⟩]
    refine ⟨B', ?_, fA, fun g g1 g2 => ?_⟩
    · refine Eq.trans ?_ e
      rw [B278_2, if_neg (show ¬ (60 : Int32) ≤ nI n from nI_ge (b := 60) (by omega) (by omega))]
      have s0 : zgo false (d + 1) 279 0 [zr 13 0, zi 0, zr 83 0, zi (nI n), zi (nI n)] [] B = some (none, M1) := by
        rw [K279k (d + 1) 83 n n B (by omega) (by omega) rfl rfl rfl, hM1]
      have s1 : zgo false (d + 1) 279 0 [zr 13 0, zi 0, zr 84 0, zi (nI n), zi (60 + nI n)] [] M1 = some (none, M2) := by
        rw [show (60 : Int32) + nI n = nI (60 + n) from nI_60 60 n]
        rw [K279k (d + 1) 84 n (60 + n) M1 (by omega) (by omega) rfl rfl rfl, hM2, (F1 84 0 n (by omega)).1]
      have s2 : zgo false (d + 1) 279 0 [zr 13 0, zi 0, zr 85 0, zi (nI n), zi (120 + nI n)] [] M2 = some (none, M3) := by
        rw [show (120 : Int32) + nI n = nI (120 + n) from nI_60 120 n]
        rw [K279k (d + 1) 85 n (120 + n) M2 (by omega) (by omega) rfl rfl rfl, hM3, (F2 85 0 n (by omega)).1]
      have s3 : zgo false (d + 1) 279 0 [zr 13 0, zi 0, zr 86 0, zi (nI n), zi (180 + nI n)] [] M3 = some (none, M4) := by
        rw [show (180 : Int32) + nI n = nI (180 + n) from nI_60 180 n]
        rw [K279k (d + 1) 86 n (180 + n) M3 (by omega) (by omega) rfl rfl rfl, hM4, (F3 86 0 n (by omega)).1]
      have s4 : zgo false (d + 1) 279 0 [zr 13 0, zi 0, zr 87 0, zi (nI n), zi (240 + nI n)] [] M4 = some (none, M5) := by
        rw [show (240 : Int32) + nI n = nI (240 + n) from nI_60 240 n]
        rw [K279k (d + 1) 87 n (240 + n) M4 (by omega) (by omega) rfl rfl rfl, hM5, (F4 87 0 n (by omega)).1]
      have s5 : zgo false (d + 1) 279 0 [zr 13 0, zi 0, zr 88 0, zi (nI n), zi (300 + nI n)] [] M5 = some (none, M6) := by
        rw [show (300 : Int32) + nI n = nI (300 + n) from nI_60 300 n]
        rw [K279k (d + 1) 88 n (300 + n) M5 (by omega) (by omega) rfl rfl rfl, hM6, (F5 88 0 n (by omega)).1]
      have s6 : zgo false (d + 1) 279 0 [zr 13 0, zi 0, zr 90 0, zi (nI n), zi (360 + nI n)] [] M6 = some (none, M7) := by
        rw [show (360 : Int32) + nI n = nI (360 + n) from nI_60 360 n]
        rw [K279k (d + 1) 90 n (360 + n) M6 (by omega) (by omega) rfl rfl rfl, hM7, (F6 90 0 n (by omega)).1]
      rw [s0, zbsome, zpu0, B278_19, s1, zbsome, zpu0, B278_33, s2, zbsome, zpu0, B278_47, s3, zbsome, zpu0, B278_62, s4, zbsome, zpu0, B278_77, s5, zbsome, zpu0, B278_92, s6, zbsome, zpu0]
      have q1 : zgI M7 89 0 n = zgI B 89 0 n := (F7 89 0 n (by omega)).1
      have q2 : zgI M8 92 0 n = zgI B 92 0 n := (F8 92 0 n (by omega)).1
      have q3 : zgI M9 94 0 n = zgI B 94 0 n := (F9 94 0 _ (by omega)).1
      rw [B278_107, if_pos rfl, if_pos z60, if_pos z60, c1, q1, ← hM8, B278_138, if_pos rfl, if_pos z60, if_pos z120, c1, q2, ← hM9, B278_169, if_pos rfl, show (60 : Int32) + nI n = nI (60 + n) from nI_60 60 n, if_pos z60, if_pos z120b, c1, c2, q3, ← hM10, B278_206, nI_1]
    · by_cases y : g = n
      · rw [y]
        exact ⟨⟨v1, v2, v3, v4, v5, v6, v7⟩, v8, v9, v10⟩
      · obtain ⟨⟨w1, w2, w3, w4, w5, w6, w7⟩, w8, w9, w10⟩ := w g (by omega) g2
        refine ⟨⟨w1.trans (F10 83 0 _ (by omega)).1, w2.trans (F10 84 0 _ (by omega)).1, w3.trans (F10 85 0 _ (by omega)).1, w4.trans (F10 86 0 _ (by omega)).1, w5.trans (F10 87 0 _ (by omega)).1, w6.trans (F10 88 0 _ (by omega)).1, w7.trans (F10 90 0 _ (by omega)).1⟩, ?_, ?_, ?_⟩
        · rw [w8, (F10 89 0 _ (by omega)).1]
        · rw [w9, (F10 92 0 _ (by omega)).1]
        · rw [w10, (F10 94 0 _ (by omega)).1]
theorem L278b (d : Nat) : ∀ (j n : Nat) (B : zM), n + j = 60 → ∃ B', zgo false (d + 2) 278 2 [zr 13 0, zi 1, zi (nI n)] [] B = zgo false (d + 2) 278 214 [zr 13 0, zi 1, zi (nI 0)] [] B' ∧ zFo (kf2 n) B B' ∧ ∀ g, n ≤ g → g < 60 → kp2 B B' g
  | 0, n, B, hn => by
    have hn : n = 60 := hn
    subst hn
    refine ⟨B, ?_, zFo_refl _ B, fun g g1 g2 => absurd g1 (by omega)⟩
    rw [B278_2, if_pos (by decide)]
    rfl
  | j + 1, n, B, hn => by
    have z60 : zin (nI n) 60 = true := zin_nI (by omega) (by omega)
    have z120 : zin (nI n) 120 = true := zin_nI (by omega) (by omega)
    have z120b : zin (nI (60 + n)) 120 = true := zin_nI (by omega) (by omega)
    have c1 : (nI n).toNatClampNeg = n := nI_clamp (by omega)
    have c2 : (nI (60 + n)).toNatClampNeg = 60 + n := nI_clamp (by omega)
    obtain ⟨M1, hM1⟩ : ∃ M, M = zsI B 83 0 n (zgI B 99 0 n) := ⟨_, rfl⟩
    have f1 : zFo (fun a b c => a = 83 ∧ b = 0 ∧ c = n) B M1 := by
      rw [hM1]
      exact zFo_sI (zFo_refl _ B) ⟨rfl, rfl, rfl⟩
    have F1 : zFo (fun a b c => b = 0 ∧ ((83 ≤ a ∧ a ≤ 90) ∨ a = 92 ∨ a = 94) ∧ c = n) B M1 := (zFo_mono f1 (fun a b c y => by omega))
    obtain ⟨M2, hM2⟩ : ∃ M, M = zsI M1 84 0 n (zgI B 99 0 (60 + n)) := ⟨_, rfl⟩
    have f2 : zFo (fun a b c => a = 84 ∧ b = 0 ∧ c = n) M1 M2 := by
      rw [hM2]
      exact zFo_sI (zFo_refl _ M1) ⟨rfl, rfl, rfl⟩
    have F2 : zFo (fun a b c => b = 0 ∧ ((83 ≤ a ∧ a ≤ 90) ∨ a = 92 ∨ a = 94) ∧ c = n) B M2 := zFo_trans F1 (zFo_mono f2 (fun a b c y => by omega))
    obtain ⟨M3, hM3⟩ : ∃ M, M = zsI M2 85 0 n (zgI B 99 0 (120 + n)) := ⟨_, rfl⟩
    have f3 : zFo (fun a b c => a = 85 ∧ b = 0 ∧ c = n) M2 M3 := by
      rw [hM3]
      exact zFo_sI (zFo_refl _ M2) ⟨rfl, rfl, rfl⟩
    have F3 : zFo (fun a b c => b = 0 ∧ ((83 ≤ a ∧ a ≤ 90) ∨ a = 92 ∨ a = 94) ∧ c = n) B M3 := zFo_trans F2 (zFo_mono f3 (fun a b c y => by omega))
    obtain ⟨M4, hM4⟩ : ∃ M, M = zsI M3 86 0 n (zgI B 99 0 (180 + n)) := ⟨_, rfl⟩
    have f4 : zFo (fun a b c => a = 86 ∧ b = 0 ∧ c = n) M3 M4 := by
      rw [hM4]
      exact zFo_sI (zFo_refl _ M3) ⟨rfl, rfl, rfl⟩
    have F4 : zFo (fun a b c => b = 0 ∧ ((83 ≤ a ∧ a ≤ 90) ∨ a = 92 ∨ a = 94) ∧ c = n) B M4 := zFo_trans F3 (zFo_mono f4 (fun a b c y => by omega))
    obtain ⟨M5, hM5⟩ : ∃ M, M = zsI M4 87 0 n (zgI B 99 0 (240 + n)) := ⟨_, rfl⟩
    have f5 : zFo (fun a b c => a = 87 ∧ b = 0 ∧ c = n) M4 M5 := by
      rw [hM5]
      exact zFo_sI (zFo_refl _ M4) ⟨rfl, rfl, rfl⟩
    have F5 : zFo (fun a b c => b = 0 ∧ ((83 ≤ a ∧ a ≤ 90) ∨ a = 92 ∨ a = 94) ∧ c = n) B M5 := zFo_trans F4 (zFo_mono f5 (fun a b c y => by omega))
    obtain ⟨M6, hM6⟩ : ∃ M, M = zsI M5 88 0 n (zgI B 99 0 (300 + n)) := ⟨_, rfl⟩
    have f6 : zFo (fun a b c => a = 88 ∧ b = 0 ∧ c = n) M5 M6 := by
      rw [hM6]
      exact zFo_sI (zFo_refl _ M5) ⟨rfl, rfl, rfl⟩
    have F6 : zFo (fun a b c => b = 0 ∧ ((83 ≤ a ∧ a ≤ 90) ∨ a = 92 ∨ a = 94) ∧ c = n) B M6 := zFo_trans F5 (zFo_mono f6 (fun a b c y => by omega))
    obtain ⟨M7, hM7⟩ : ∃ M, M = zsI M6 90 0 n (zgI B 99 0 (360 + n)) := ⟨_, rfl⟩
    have f7 : zFo (fun a b c => a = 90 ∧ b = 0 ∧ c = n) M6 M7 := by
      rw [hM7]
      exact zFo_sI (zFo_refl _ M6) ⟨rfl, rfl, rfl⟩
    have F7 : zFo (fun a b c => b = 0 ∧ ((83 ≤ a ∧ a ≤ 90) ∨ a = 92 ∨ a = 94) ∧ c = n) B M7 := zFo_trans F6 (zFo_mono f7 (fun a b c y => by omega))
    obtain ⟨M8, hM8⟩ : ∃ M, M = zsI M7 89 0 n ((zgI B 100 0 n &&& 1)) := ⟨_, rfl⟩
    have f8 : zFo (fun a b c => a = 89 ∧ b = 0 ∧ c = n) M7 M8 := by
      rw [hM8]
      exact zFo_sI (zFo_refl _ M7) ⟨rfl, rfl, rfl⟩
    have F8 : zFo (fun a b c => b = 0 ∧ ((83 ≤ a ∧ a ≤ 90) ∨ a = 92 ∨ a = 94) ∧ c = n) B M8 := zFo_trans F7 (zFo_mono f8 (fun a b c y => by omega))
    obtain ⟨M9, hM9⟩ : ∃ M, M = zsI M8 92 0 n (((zgI B 103 0 n).toInt8.toInt32)) := ⟨_, rfl⟩
    have f9 : zFo (fun a b c => a = 92 ∧ b = 0 ∧ c = n) M8 M9 := by
      rw [hM9]
      exact zFo_sI (zFo_refl _ M8) ⟨rfl, rfl, rfl⟩
    have F9 : zFo (fun a b c => b = 0 ∧ ((83 ≤ a ∧ a ≤ 90) ∨ a = 92 ∨ a = 94) ∧ c = n) B M9 := zFo_trans F8 (zFo_mono f9 (fun a b c y => by omega))
    obtain ⟨M10, hM10⟩ : ∃ M, M = zsI M9 94 0 n (((zgI B 103 0 (60 + n)).toInt8.toInt32)) := ⟨_, rfl⟩
    have f10 : zFo (fun a b c => a = 94 ∧ b = 0 ∧ c = n) M9 M10 := by
      rw [hM10]
      exact zFo_sI (zFo_refl _ M9) ⟨rfl, rfl, rfl⟩
    have F10 : zFo (fun a b c => b = 0 ∧ ((83 ≤ a ∧ a ≤ 90) ∨ a = 92 ∨ a = 94) ∧ c = n) B M10 := zFo_trans F9 (zFo_mono f10 (fun a b c y => by omega))
    obtain ⟨B', e, f, w⟩ := L278b d j (n + 1) M10 (by omega)
    have fA : zFo (kf2 n) B B' := zFo_trans (zFo_mono F10 (fun a b c y => by unfold kf2; omega)) (zFo_mono f (fun a b c y => by unfold kf2 at y ⊢; omega))
    have v1 : zgI B' 83 0 n = zgI B 99 0 n := by
      rw [(f 83 0 n (by unfold kf2; omega)).1, (f10 83 0 n (by omega)).1, (f9 83 0 n (by omega)).1, (f8 83 0 n (by omega)).1, (f7 83 0 n (by omega)).1, (f6 83 0 n (by omega)).1, (f5 83 0 n (by omega)).1, (f4 83 0 n (by omega)).1, (f3 83 0 n (by omega)).1, (f2 83 0 n (by omega)).1, hM1, zgI_sI, if_pos ⟨rfl, rfl, rfl⟩]
    have v2 : zgI B' 84 0 n = zgI B 99 0 (60 + n) := by
      rw [(f 84 0 n (by unfold kf2; omega)).1, (f10 84 0 n (by omega)).1, (f9 84 0 n (by omega)).1, (f8 84 0 n (by omega)).1, (f7 84 0 n (by omega)).1, (f6 84 0 n (by omega)).1, (f5 84 0 n (by omega)).1, (f4 84 0 n (by omega)).1, (f3 84 0 n (by omega)).1, hM2, zgI_sI, if_pos ⟨rfl, rfl, rfl⟩]
    have v3 : zgI B' 85 0 n = zgI B 99 0 (120 + n) := by
      rw [(f 85 0 n (by unfold kf2; omega)).1, (f10 85 0 n (by omega)).1, (f9 85 0 n (by omega)).1, (f8 85 0 n (by omega)).1, (f7 85 0 n (by omega)).1, (f6 85 0 n (by omega)).1, (f5 85 0 n (by omega)).1, (f4 85 0 n (by omega)).1, hM3, zgI_sI, if_pos ⟨rfl, rfl, rfl⟩]
    have v4 : zgI B' 86 0 n = zgI B 99 0 (180 + n) := by
      rw [(f 86 0 n (by unfold kf2; omega)).1, (f10 86 0 n (by omega)).1, (f9 86 0 n (by omega)).1, (f8 86 0 n (by omega)).1, (f7 86 0 n (by omega)).1, (f6 86 0 n (by omega)).1, (f5 86 0 n (by omega)).1, hM4, zgI_sI, if_pos ⟨rfl, rfl, rfl⟩]
    have v5 : zgI B' 87 0 n = zgI B 99 0 (240 + n) := by
      rw [(f 87 0 n (by unfold kf2; omega)).1, (f10 87 0 n (by omega)).1, (f9 87 0 n (by omega)).1, (f8 87 0 n (by omega)).1, (f7 87 0 n (by omega)).1, (f6 87 0 n (by omega)).1, hM5, zgI_sI, if_pos ⟨rfl, rfl, rfl⟩]
    have v6 : zgI B' 88 0 n = zgI B 99 0 (300 + n) := by
      rw [(f 88 0 n (by unfold kf2; omega)).1, (f10 88 0 n (by omega)).1, (f9 88 0 n (by omega)).1, (f8 88 0 n (by omega)).1, (f7 88 0 n (by omega)).1, hM6, zgI_sI, if_pos ⟨rfl, rfl, rfl⟩]
    have v7 : zgI B' 90 0 n = zgI B 99 0 (360 + n) := by
      rw [(f 90 0 n (by unfold kf2; omega)).1, (f10 90 0 n (by omega)).1, (f9 90 0 n (by omega)).1, (f8 90 0 n (by omega)).1, hM7, zgI_sI, if_pos ⟨rfl, rfl, rfl⟩]
    have v8 : zgI B' 89 0 n = (zgI B 100 0 n &&& 1) := by
      rw [(f 89 0 n (by unfold kf2; omega)).1, (f10 89 0 n (by omega)).1, (f9 89 0 n (by omega)).1, hM8, zgI_sI, if_pos ⟨rfl, rfl, rfl⟩]
    have v9 : zgI B' 92 0 n = ((zgI B 103 0 n).toInt8.toInt32) := by
      rw [(f 92 0 n (by unfold kf2; omega)).1, (f10 92 0 n (by omega)).1, hM9, zgI_sI, if_pos ⟨rfl, rfl, rfl⟩]
    have v10 : zgI B' 94 0 n = ((zgI B 103 0 (60 + n)).toInt8.toInt32) := by
      rw [(f 94 0 n (by unfold kf2; omega)).1, hM10, zgI_sI, if_pos ⟨rfl, rfl, rfl⟩]
    refine ⟨B', ?_, fA, fun g g1 g2 => ?_⟩
    · refine Eq.trans ?_ e
      rw [B278_2, if_neg (show ¬ (60 : Int32) ≤ nI n from nI_ge (b := 60) (by omega) (by omega))]
      have s0 : zgo false (d + 1) 279 0 [zr 13 0, zi 1, zr 83 0, zi (nI n), zi (nI n)] [] B = some (none, M1) := by
        rw [K279b (d + 1) 83 n n B (by omega) (by omega) rfl rfl, hM1]
      have s1 : zgo false (d + 1) 279 0 [zr 13 0, zi 1, zr 84 0, zi (nI n), zi (60 + nI n)] [] M1 = some (none, M2) := by
        rw [show (60 : Int32) + nI n = nI (60 + n) from nI_60 60 n]
        rw [K279b (d + 1) 84 n (60 + n) M1 (by omega) (by omega) rfl rfl, hM2, (F1 99 0 _ (by omega)).1]
      have s2 : zgo false (d + 1) 279 0 [zr 13 0, zi 1, zr 85 0, zi (nI n), zi (120 + nI n)] [] M2 = some (none, M3) := by
        rw [show (120 : Int32) + nI n = nI (120 + n) from nI_60 120 n]
        rw [K279b (d + 1) 85 n (120 + n) M2 (by omega) (by omega) rfl rfl, hM3, (F2 99 0 _ (by omega)).1]
      have s3 : zgo false (d + 1) 279 0 [zr 13 0, zi 1, zr 86 0, zi (nI n), zi (180 + nI n)] [] M3 = some (none, M4) := by
        rw [show (180 : Int32) + nI n = nI (180 + n) from nI_60 180 n]
        rw [K279b (d + 1) 86 n (180 + n) M3 (by omega) (by omega) rfl rfl, hM4, (F3 99 0 _ (by omega)).1]
      have s4 : zgo false (d + 1) 279 0 [zr 13 0, zi 1, zr 87 0, zi (nI n), zi (240 + nI n)] [] M4 = some (none, M5) := by
        rw [show (240 : Int32) + nI n = nI (240 + n) from nI_60 240 n]
        rw [K279b (d + 1) 87 n (240 + n) M4 (by omega) (by omega) rfl rfl, hM5, (F4 99 0 _ (by omega)).1]
      have s5 : zgo false (d + 1) 279 0 [zr 13 0, zi 1, zr 88 0, zi (nI n), zi (300 + nI n)] [] M5 = some (none, M6) := by
        rw [show (300 : Int32) + nI n = nI (300 + n) from nI_60 300 n]
        rw [K279b (d + 1) 88 n (300 + n) M5 (by omega) (by omega) rfl rfl, hM6, (F5 99 0 _ (by omega)).1]
      have s6 : zgo false (d + 1) 279 0 [zr 13 0, zi 1, zr 90 0, zi (nI n), zi (360 + nI n)] [] M6 = some (none, M7) := by
        rw [show (360 : Int32) + nI n = nI (360 + n) from nI_60 360 n]
        rw [K279b (d + 1) 90 n (360 + n) M6 (by omega) (by omega) rfl rfl, hM7, (F6 99 0 _ (by omega)).1]
      rw [s0, zbsome, zpu0, B278_19, s1, zbsome, zpu0, B278_33, s2, zbsome, zpu0, B278_47, s3, zbsome, zpu0, B278_62, s4, zbsome, zpu0, B278_77, s5, zbsome, zpu0, B278_92, s6, zbsome, zpu0]
      have q1 : zgI M7 100 0 n = zgI B 100 0 n := (F7 100 0 n (by omega)).1
      have q2 : zgI M8 103 0 n = zgI B 103 0 n := (F8 103 0 n (by omega)).1
      have q3 : zgI M9 103 0 (60 + n) = zgI B 103 0 (60 + n) := (F9 103 0 _ (by omega)).1
      have n1 : ¬ (1 : Int32) = 0 := by decide
      rw [B278_107, if_neg n1, if_pos z60, if_pos z60, c1, q1, ← hM8, B278_138, if_neg n1, if_pos z120, if_pos z60, c1, q2, ← hM9, B278_169, if_neg n1, show (60 : Int32) + nI n = nI (60 + n) from nI_60 60 n, if_pos z120b, if_pos z60, c1, c2, q3, ← hM10, B278_188, B278_206, nI_1]
    · by_cases y : g = n
      · rw [y]
        exact ⟨⟨v1, v2, v3, v4, v5, v6, v7⟩, v8, v9, v10⟩
      · obtain ⟨⟨w1, w2, w3, w4, w5, w6, w7⟩, w8, w9, w10⟩ := w g (by omega) g2
        refine ⟨⟨w1.trans (F10 99 0 _ (by omega)).1, w2.trans (F10 99 0 _ (by omega)).1, w3.trans (F10 99 0 _ (by omega)).1, w4.trans (F10 99 0 _ (by omega)).1, w5.trans (F10 99 0 _ (by omega)).1, w6.trans (F10 99 0 _ (by omega)).1, w7.trans (F10 99 0 _ (by omega)).1⟩, ?_, ?_, ?_⟩
        · rw [w8, (F10 100 0 _ (by omega)).1]
        · rw [w9, (F10 103 0 _ (by omega)).1]
        · rw [w10, (F10 103 0 _ (by omega)).1]
theorem L278c (d : Nat) : ∀ (j n : Nat) (B : zM), n + j = 1440 → ∃ B', zgo false (d + 2) 278 214 [zr 13 0, zi 0, zi (nI n)] [] B = zgo false (d + 2) 278 291 [zr 13 0, zi 0, zi (nI 0)] [] B' ∧ zFo (fun a b c => b = 0 ∧ (a = 101 ∨ a = 102) ∧ n ≤ c) B B' ∧ ∀ g, n ≤ g → g < 1440 → zgI B' 101 0 g = (zgI B 91 0 g).toInt8.toInt32 ∧ zgI B' 102 0 g = (zgI B 93 0 g).toInt8.toInt32
  | 0, n, B, hn => by
    have hn : n = 1440 := hn
    subst hn
    refine ⟨B, ?_, zFo_refl _ B, fun g g1 g2 => absurd g1 (by omega)⟩
    rw [B278_214, if_pos (by decide)]
    rfl
  | j + 1, n, B, hn => by
    have z1 : zin (nI n) 1440 = true := zin_nI (by omega) (by omega)
    have c1 : (nI n).toNatClampNeg = n := nI_clamp (by omega)
    obtain ⟨M1, hM1⟩ : ∃ M, M = zsI B 101 0 n ((zgI B 91 0 n).toInt8.toInt32) := ⟨_, rfl⟩
    obtain ⟨M2, hM2⟩ : ∃ M, M = zsI M1 102 0 n ((zgI B 93 0 n).toInt8.toInt32) := ⟨_, rfl⟩
    have q2 : zgI M1 93 0 n = zgI B 93 0 n := by rw [hM1, zgI_sI, if_neg (by omega)]
    have F : zFo (fun a b c => b = 0 ∧ (a = 101 ∨ a = 102) ∧ c = n) B M2 := by
      rw [hM2, hM1]
      exact zFo_sI (zFo_sI (zFo_refl _ B) (by omega)) (by omega)
    obtain ⟨B', e, f, w⟩ := L278c d j (n + 1) M2 (by omega)
    refine ⟨B', ?_, zFo_trans (zFo_mono F (fun a b c y => by omega)) (zFo_mono f (fun a b c y => by omega)), fun g g1 g2 => ?_⟩
    · refine Eq.trans ?_ e
      have l : ¬ 1440 ≤ nI n := nI_ge (b := 1440) (by omega) (by omega)
      rw [B278_214, if_neg l, if_pos rfl, if_pos z1, if_pos z1, c1, ← hM1, B278_252, if_pos rfl, if_pos z1, if_pos z1, c1, q2, ← hM2, B278_283, nI_1]
    · by_cases y : g = n
      · rw [y, (f 101 0 n (by omega)).1, (f 102 0 n (by omega)).1, hM2, zgI_sI, if_neg (by omega), hM1, zgI_sI, if_pos ⟨rfl, rfl, rfl⟩, zgI_sI, if_pos ⟨rfl, rfl, rfl⟩]
        exact ⟨rfl, rfl⟩
      · obtain ⟨w1, w2⟩ := w g (by omega) g2
        rw [w1, w2, (F 91 0 g (by omega)).1, (F 93 0 g (by omega)).1]
        exact ⟨rfl, rfl⟩
theorem L278d (d : Nat) : ∀ (j n : Nat) (B : zM), n + j = 1440 → ∃ B', zgo false (d + 2) 278 214 [zr 13 0, zi 1, zi (nI n)] [] B = zgo false (d + 2) 278 291 [zr 13 0, zi 1, zi (nI 0)] [] B' ∧ zFo (fun a b c => b = 0 ∧ (a = 91 ∨ a = 93) ∧ n ≤ c) B B' ∧ ∀ g, n ≤ g → g < 1440 → zgI B' 91 0 g = (zgI B 101 0 g).toInt8.toInt32 ∧ zgI B' 93 0 g = (zgI B 102 0 g).toInt8.toInt32
  | 0, n, B, hn => by
    have hn : n = 1440 := hn
    subst hn
    refine ⟨B, ?_, zFo_refl _ B, fun g g1 g2 => absurd g1 (by omega)⟩
    rw [B278_214, if_pos (by decide)]
    rfl
  | j + 1, n, B, hn => by
    have z1 : zin (nI n) 1440 = true := zin_nI (by omega) (by omega)
    have c1 : (nI n).toNatClampNeg = n := nI_clamp (by omega)
    obtain ⟨M1, hM1⟩ : ∃ M, M = zsI B 91 0 n ((zgI B 101 0 n).toInt8.toInt32) := ⟨_, rfl⟩
    obtain ⟨M2, hM2⟩ : ∃ M, M = zsI M1 93 0 n ((zgI B 102 0 n).toInt8.toInt32) := ⟨_, rfl⟩
    have q2 : zgI M1 102 0 n = zgI B 102 0 n := by rw [hM1, zgI_sI, if_neg (by omega)]
    have F : zFo (fun a b c => b = 0 ∧ (a = 91 ∨ a = 93) ∧ c = n) B M2 := by
      rw [hM2, hM1]
      exact zFo_sI (zFo_sI (zFo_refl _ B) (by omega)) (by omega)
    obtain ⟨B', e, f, w⟩ := L278d d j (n + 1) M2 (by omega)
    refine ⟨B', ?_, zFo_trans (zFo_mono F (fun a b c y => by omega)) (zFo_mono f (fun a b c y => by omega)), fun g g1 g2 => ?_⟩
    · refine Eq.trans ?_ e
      have l : ¬ 1440 ≤ nI n := nI_ge (b := 1440) (by omega) (by omega)
      have n1 : ¬ (1 : Int32) = 0 := by decide
      rw [B278_214, if_neg l, if_neg n1, if_pos z1, if_pos z1, c1, ← hM1, B278_237, B278_252, if_neg n1, if_pos z1, if_pos z1, c1, q2, ← hM2, B278_283, nI_1]
    · by_cases y : g = n
      · rw [y, (f 91 0 n (by omega)).1, (f 93 0 n (by omega)).1, hM2, zgI_sI, if_neg (by omega), hM1, zgI_sI, if_pos ⟨rfl, rfl, rfl⟩, zgI_sI, if_pos ⟨rfl, rfl, rfl⟩]
        exact ⟨rfl, rfl⟩
      · obtain ⟨w1, w2⟩ := w g (by omega) g2
        rw [w1, w2, (F 101 0 g (by omega)).1, (F 102 0 g (by omega)).1]
        exact ⟨rfl, rfl⟩
theorem L278e (d : Nat) : ∀ (j n : Nat) (B : zM), n + j = 660 → ∃ B', zgo false (d + 2) 278 291 [zr 13 0, zi 0, zi (nI n)] [] B = some (none, B') ∧ zFo (fun a b c => b = 0 ∧ a = 104 ∧ n ≤ c) B B' ∧ ∀ g, n ≤ g → g < 660 → zgI B' 104 0 g = zgI B 95 0 g
  | 0, n, B, hn => by
    have hn : n = 660 := hn
    subst hn
    refine ⟨B, ?_, zFo_refl _ B, fun g g1 g2 => absurd g1 (by omega)⟩
    rw [B278_291, if_pos (by decide)]
  | j + 1, n, B, hn => by
    have z1 : zin (nI n) 660 = true := zin_nI (by omega) (by omega)
    have c1 : (nI n).toNatClampNeg = n := nI_clamp (by omega)
    obtain ⟨M1, hM1⟩ : ∃ M, M = zsI B 104 0 n (zgI B 95 0 n) := ⟨_, rfl⟩
    have F : zFo (fun a b c => b = 0 ∧ a = 104 ∧ c = n) B M1 := by
      rw [hM1]
      exact zFo_sI (zFo_refl _ B) (by omega)
    obtain ⟨B', e, f, w⟩ := L278e d j (n + 1) M1 (by omega)
    refine ⟨B', ?_, zFo_trans (zFo_mono F (fun a b c y => by omega)) (zFo_mono f (fun a b c y => by omega)), fun g g1 g2 => ?_⟩
    · refine Eq.trans ?_ e
      have l : ¬ 660 ≤ nI n := nI_ge (b := 660) (by omega) (by omega)
      rw [B278_291, if_neg l, if_pos rfl, if_pos z1, if_pos z1, c1, ← hM1, B278_329, nI_1]
    · by_cases y : g = n
      · rw [y, (f 104 0 n (by omega)).1, hM1, zgI_sI, if_pos ⟨rfl, rfl, rfl⟩]
      · rw [w g (by omega) g2, (F 95 0 g (by omega)).1]
theorem L278f (d : Nat) : ∀ (j n : Nat) (B : zM), n + j = 660 → ∃ B', zgo false (d + 2) 278 291 [zr 13 0, zi 1, zi (nI n)] [] B = some (none, B') ∧ zFo (fun a b c => b = 0 ∧ a = 95 ∧ n ≤ c) B B' ∧ ∀ g, n ≤ g → g < 660 → zgI B' 95 0 g = zgI B 104 0 g
  | 0, n, B, hn => by
    have hn : n = 660 := hn
    subst hn
    refine ⟨B, ?_, zFo_refl _ B, fun g g1 g2 => absurd g1 (by omega)⟩
    rw [B278_291, if_pos (by decide)]
  | j + 1, n, B, hn => by
    have z1 : zin (nI n) 660 = true := zin_nI (by omega) (by omega)
    have c1 : (nI n).toNatClampNeg = n := nI_clamp (by omega)
    obtain ⟨M1, hM1⟩ : ∃ M, M = zsI B 95 0 n (zgI B 104 0 n) := ⟨_, rfl⟩
    have F : zFo (fun a b c => b = 0 ∧ a = 95 ∧ c = n) B M1 := by
      rw [hM1]
      exact zFo_sI (zFo_refl _ B) (by omega)
    obtain ⟨B', e, f, w⟩ := L278f d j (n + 1) M1 (by omega)
    refine ⟨B', ?_, zFo_trans (zFo_mono F (fun a b c y => by omega)) (zFo_mono f (fun a b c y => by omega)), fun g g1 g2 => ?_⟩
    · refine Eq.trans ?_ e
      have l : ¬ 660 ≤ nI n := nI_ge (b := 660) (by omega) (by omega)
      have n1 : ¬ (1 : Int32) = 0 := by decide
      rw [B278_291, if_neg l, if_neg n1, if_pos z1, if_pos z1, c1, ← hM1, B278_314, B278_329, nI_1]
    · by_cases y : g = n
      · rw [y, (f 95 0 n (by omega)).1, hM1, zgI_sI, if_pos ⟨rfl, rfl, rfl⟩]
      · rw [w g (by omega) g2, (F 104 0 g (by omega)).1]
/-- 'keepLed', kept -/
theorem K278k (d : Nat) (u : zV) (B : zM) : ∃ B', zgo false (d + 2) 278 0 [zr 13 0, zi 0, u] [] B = some (none, B') ∧ zFo (fun a b _ => b = 0 ∧ 99 ≤ a ∧ a ≤ 104) B B' ∧ (∀ g, g < 60 → kp1 B B' g) ∧ (∀ g, g < 1440 → zgI B' 101 0 g = (zgI B 91 0 g).toInt8.toInt32 ∧ zgI B' 102 0 g = (zgI B 93 0 g).toInt8.toInt32) ∧ ∀ g, g < 660 → zgI B' 104 0 g = zgI B 95 0 g := by
  obtain ⟨B1, e1, f1, w1⟩ := L278a d 60 0 B rfl
  obtain ⟨B2, e2, f2, w2⟩ := L278c d 1440 0 B1 rfl
  obtain ⟨B3, e3, f3, w3⟩ := L278e d 660 0 B2 rfl
  refine ⟨B3, ?_, zFo_trans (zFo_mono f1 (fun a b c y => by unfold kf1 at y; omega)) (zFo_trans (zFo_mono f2 (fun a b c y => by omega)) (zFo_mono f3 (fun a b c y => by omega))), fun g hg => ?_, fun g hg => ?_, fun g hg => ?_⟩
  · rw [B278_0]
    exact e1.trans (e2.trans e3)
  · obtain ⟨⟨a1, a2, a3, a4, a5, a6, a7⟩, a8, a9, a10⟩ := w1 g (by omega) hg
    have t : ∀ k s, k = 99 ∨ k = 100 ∨ k = 103 → zgI B3 k 0 s = zgI B1 k 0 s := fun k s hk => by rw [(f3 k 0 s (by omega)).1, (f2 k 0 s (by omega)).1]
    unfold kp1
    rw [t 99 g (by omega), t 99 _ (by omega), t 99 _ (by omega), t 99 _ (by omega), t 99 _ (by omega), t 99 _ (by omega), t 99 _ (by omega), t 100 g (by omega), t 103 g (by omega), t 103 _ (by omega)]
    exact ⟨⟨a1, a2, a3, a4, a5, a6, a7⟩, a8, a9, a10⟩
  · obtain ⟨a1, a2⟩ := w2 g (by omega) hg
    rw [(f3 101 0 g (by omega)).1, (f3 102 0 g (by omega)).1, a1, a2, (f1 91 0 g (by unfold kf1; omega)).1, (f1 93 0 g (by unfold kf1; omega)).1]
    exact ⟨rfl, rfl⟩
  · rw [w3 g (by omega) hg, (f2 95 0 g (by omega)).1, (f1 95 0 g (by unfold kf1; omega)).1]
/-- 'keepLed', brought back -/
theorem K278b (d : Nat) (u : zV) (B : zM) : ∃ B', zgo false (d + 2) 278 0 [zr 13 0, zi 1, u] [] B = some (none, B') ∧ zFo (fun a b _ => b = 0 ∧ 83 ≤ a ∧ a ≤ 95) B B' ∧ (∀ g, g < 60 → kp2 B B' g) ∧ (∀ g, g < 1440 → zgI B' 91 0 g = (zgI B 101 0 g).toInt8.toInt32 ∧ zgI B' 93 0 g = (zgI B 102 0 g).toInt8.toInt32) ∧ ∀ g, g < 660 → zgI B' 95 0 g = zgI B 104 0 g := by
  obtain ⟨B1, e1, f1, w1⟩ := L278b d 60 0 B rfl
  obtain ⟨B2, e2, f2, w2⟩ := L278d d 1440 0 B1 rfl
  obtain ⟨B3, e3, f3, w3⟩ := L278f d 660 0 B2 rfl
  refine ⟨B3, ?_, zFo_trans (zFo_mono f1 (fun a b c y => by unfold kf2 at y; omega)) (zFo_trans (zFo_mono f2 (fun a b c y => by omega)) (zFo_mono f3 (fun a b c y => by omega))), fun g hg => ?_, fun g hg => ?_, fun g hg => ?_⟩
  · rw [B278_0]
    exact e1.trans (e2.trans e3)
  · obtain ⟨⟨a1, a2, a3, a4, a5, a6, a7⟩, a8, a9, a10⟩ := w1 g (by omega) hg
    have t : ∀ k s, (83 ≤ k ∧ k ≤ 90) ∨ k = 92 ∨ k = 94 → zgI B3 k 0 s = zgI B1 k 0 s := fun k s hk => by rw [(f3 k 0 s (by omega)).1, (f2 k 0 s (by omega)).1]
    unfold kp2
    rw [t 83 g (by omega), t 84 g (by omega), t 85 g (by omega), t 86 g (by omega), t 87 g (by omega), t 88 g (by omega), t 90 g (by omega), t 89 g (by omega), t 92 g (by omega), t 94 g (by omega)]
    exact ⟨⟨a1, a2, a3, a4, a5, a6, a7⟩, a8, a9, a10⟩
  · obtain ⟨a1, a2⟩ := w2 g (by omega) hg
    rw [(f3 91 0 g (by omega)).1, (f3 93 0 g (by omega)).1, a1, a2, (f1 101 0 g (by unfold kf2; omega)).1, (f1 102 0 g (by unfold kf2; omega)).1]
    exact ⟨rfl, rfl⟩
  · rw [w3 g (by omega) hg, (f2 104 0 g (by omega)).1, (f1 104 0 g (by unfold kf2; omega)).1]
