/-! ===== how deep to deal, asked ===== -/
theorem trA_pm {a b c : Nat} (w : trA a b c) : pm (zown a b c) = true := by
  rcases w with (⟨rfl, rfl | rfl | ⟨rfl, h1⟩⟩ | ⟨rfl, rfl | h1⟩ | ⟨rfl, rfl, h1⟩ | ⟨rfl, rfl | ⟨rfl, h1⟩ | rfl | h1⟩ | rfl | ⟨rfl, rfl⟩) | ⟨rfl, rfl, -⟩ | ⟨rfl, rfl | ⟨rfl, -⟩⟩
  · rfl
  · rfl
  · rfl
  · rw [show zown 4 60 c = if 60 < 60 ∧ c ≠ 16 then 7 else 12 from rfl, if_neg (by omega)]; rfl
  · rcases (by omega : a = 24 ∨ a = 25 ∨ a = 26 ∨ a = 27 ∨ a = 28) with rfl | rfl | rfl | rfl | rfl <;> rfl
  · rfl
  · rfl
  · rfl
  · rfl
  · rcases (by omega : a = 33 ∨ a = 34 ∨ a = 36 ∨ a = 37 ∨ a = 38 ∨ a = 39 ∨ a = 40 ∨ a = 41 ∨ a = 42) with rfl | rfl | rfl | rfl | rfl | rfl | rfl | rfl | rfl <;> rfl
  · rfl
  · rfl
  · rfl
  · rfl
  · rfl
theorem dB_pm {p a b c : Nat} (w : dB p a b c) : pm (zown a b c) = true := by
  rcases w with ((( ⟨h, -, w⟩ | ⟨rfl, rfl, rfl⟩) | ⟨rfl, rfl, rfl⟩) | ⟨rfl, rfl, rfl | rfl⟩) | ⟨rfl, h1 | h1 | rfl | rfl | ⟨h1, -⟩ | ⟨rfl, h1⟩⟩
  · exact oneB_own w
  · rfl
  · rfl
  · rfl
  · rfl
  · rcases (by omega : a = 97 ∨ a = 98 ∨ a = 99 ∨ a = 100 ∨ a = 101 ∨ a = 102 ∨ a = 103 ∨ a = 104) with rfl | rfl | rfl | rfl | rfl | rfl | rfl | rfl <;> rfl
  · rcases (by omega : a = 83 ∨ a = 84 ∨ a = 85 ∨ a = 86 ∨ a = 87 ∨ a = 88 ∨ a = 89 ∨ a = 90 ∨ a = 91 ∨ a = 92 ∨ a = 93 ∨ a = 94 ∨ a = 95) with rfl | rfl | rfl | rfl | rfl | rfl | rfl | rfl | rfl | rfl | rfl | rfl | rfl <;> rfl
  · rfl
  · rfl
  · rcases h1 with rfl | rfl | rfl | rfl <;> rfl
  · rcases h1 with rfl | rfl | rfl | rfl | rfl | rfl <;> rfl
theorem trA_own2 {a b c : Nat} (w : trA a b c) : ¬ (b = 0 ∧ (a = 46 ∨ a = 47 ∨ a = 10)) ∧ ¬ (b < 60 ∧ (a = 4 ∨ a = 24 ∨ a = 25 ∨ a = 28)) := by
  rcases w with (w | w | w | w | w) | w | w
  · omega
  · omega
  · omega
  · omega
  · omega
  · omega
  · omega
theorem dB_13 {p c : Nat} (w : dB p 13 0 c) : ¬ (c = 1 ∨ c = 3 ∨ c = 6 ∨ (9 ≤ c ∧ c < 59)) := by
  rcases w with w | w
  · have := (trC_own w).1
    omega
  · omega
theorem byb {x : Int32} {m : Nat} (h : x = nI m) (hm : m < 128) : x.toInt8.toInt32.toInt8.toInt32 = x := by
  rw [h, yByt hm, yByt hm]
theorem andb {x : Int32} (h : x = 0 ∨ x = 1) : x &&& 1 &&& 1 = x := by
  rcases h with rfl | rfl <;> decide
theorem Q20 (d t : Nat) (x0 x1 x2 x3 : Int32) (M : zM) (hS : yShoe 0 M M) (hr : Rrul M) (hA : Raf M) (ht : Rtx M) (hp : Rpl M) (hz : Rpz M) (hn : Rhn t M) (hl : Rlim M) (hd : Rled M) (hby : Rby M) (hJ : zJm zcl M) (ht2 : t ≤ 5000) (z5 : zib (zgI M 13 0 5) = true) (z59 : zib (zgI M 13 0 59) = true) : ∃ (y : Int32) (M1 M2 : zM), zgo false (d + 35) 150 0 [zr 12 0, zi x0, zi x1, zi x2, zi x3, zu, zu, zu, zu, zu] [] M = some (some (zi y), M1) ∧ zgo false (d + 35) 281 0 [zr 13 0, zi x0, zi x1, zi x2, zi x3] [] M1 = some (some (zi y), M2) ∧ zFr pm M M2 ∧ yShoe 0 M2 M2 ∧ Rpl M2 ∧ Rpz M2 ∧ Rhn t M2 ∧ Rled M2 ∧ Rby M2 ∧ zgI M2 13 0 31 = zgI M 13 0 31 := by
  have no : zgo false (d + 34) 150 0 [zr 12 0, zi x0, zi x1, zi x2, zi x3, zu, zu, zu, zu, zu] [] M = some (some (zi (-2000000000)), M) → zgo false (d + 35) 281 0 [zr 13 0, zi x0, zi x1, zi x2, zi x3] [] M = some (some (zi (-2000000000)), M) → ∃ (y : Int32) (M1 M2 : zM), zgo false (d + 35) 150 0 [zr 12 0, zi x0, zi x1, zi x2, zi x3, zu, zu, zu, zu, zu] [] M = some (some (zi y), M1) ∧ zgo false (d + 35) 281 0 [zr 13 0, zi x0, zi x1, zi x2, zi x3] [] M1 = some (some (zi y), M2) ∧ zFr pm M M2 ∧ yShoe 0 M2 M2 ∧ Rpl M2 ∧ Rpz M2 ∧ Rhn t M2 ∧ Rled M2 ∧ Rby M2 ∧ zgI M2 13 0 31 = zgI M 13 0 31 := fun c m => ⟨_, M, M, zgo_deep c, m, zFr_refl _ M, hS, hp, hz, hn, hd, hby, rfl⟩
  have hb := S_body (d + 33) x0 M hp
  have hm := S_isPl (d + 33) x0 M hp.2.1
  by_cases hq : zpl M x0
  case neg =>
    rw [if_neg hq] at hb hm
    refine no ?_ ?_
    · rw [B150_0, hb, zbsome]
      show zgo false (d + 34) 150 5 [zr 12 0, zi x0, zi x1, zi x2, zi x3, zu, zu, zu, zu, zu] [zr 0 0] M = _
      rw [B150_5, zq00, cond_true, B150_34]
    · rw [B281_0, hm, zbsome, zpu1, B281_5, if_pos rfl, B281_28]
  rw [if_pos hq] at hb hm
  obtain ⟨p, hp3, rfl, hp5⟩ := zpl_nI hq (by rw [zI_le]; exact hp.2.1.2)
  have hc2 : (nI p).toNatClampNeg = p := nI_clamp (by omega)
  rw [hc2] at hb
  have k5 : zgo false (d + 34) 150 0 [zr 12 0, zi (nI p), zi x1, zi x2, zi x3, zu, zu, zu, zu, zu] [] M = zgo false (d + 34) 150 5 [zr 12 0, zi (nI p), zi x1, zi x2, zi x3, zu, zu, zu, zu, zu] [zr 2 p] M := by
    rw [B150_0, hb, zbsome]
    rfl
  have k15 : zgo false (d + 35) 281 0 [zr 13 0, zi (nI p), zi x1, zi x2, zi x3] [] M = zgo false (d + 35) 281 15 [zr 13 0, zi (nI p), zi x1, zi x2, zi x3] [zi (if 1 ≤ x1 ∧ x1 ≤ 40 then 1 else 0)] M := by
    rw [B281_0, hm, zbsome, zpu1, B281_5, if_neg (by decide), S_in, zbsome, zpu1]
  by_cases ok : 1 ≤ x1 ∧ x1 ≤ 40
  case neg =>
    refine no ?_ ?_
    · rw [k5, B150_5, zq20, cond_false]
      by_cases c1 : x1 < 1
      · rw [if_pos c1, B150_34]
      · rw [if_neg c1, if_pos (show 40 < x1 by grind), B150_34]
    · rw [k15, if_neg ok, B281_15, if_pos rfl, B281_28]
  have k25 : zgo false (d + 35) 281 0 [zr 13 0, zi (nI p), zi x1, zi x2, zi x3] [] M = zgo false (d + 35) 281 25 [zr 13 0, zi (nI p), zi x1, zi x2, zi x3] [zi (if 0 ≤ x3 ∧ x3 ≤ 1 then 1 else 0)] M := by
    rw [k15, if_pos ok, B281_15, if_neg (by decide), S_in, zbsome, zpu1]
  by_cases ok3 : 0 ≤ x3 ∧ x3 ≤ 1
  case neg =>
    refine no ?_ ?_
    · rw [k5, B150_5, zq20, cond_false, if_neg (z_le_nlt ok.1), if_neg (z_le_nlt ok.2)]
      by_cases c1 : x3 < 0
      · rw [if_pos c1, B150_34]
      · rw [if_neg c1, if_neg (show ¬ x3 ≤ 1 by grind), B150_34]
    · rw [k25, if_neg ok3, B281_25, if_pos rfl, B281_28]
  obtain ⟨n, hn41, rfl⟩ := zin_of (zin_g (c := 41) (n := 41) (by decide) rfl |>.mpr ⟨by grind, by grind⟩ : zin x1 41 = true)
  obtain ⟨N, hN1, hN2⟩ := hn p hp3
  obtain ⟨kd, hkd, ⟨b0, b0'⟩, b1, b2, b3, ⟨b4, b4'⟩, b5⟩ := yBd_of hp hp5 hN2
  obtain ⟨T, q, hty⟩ := yTy_of ht hr hA
  obtain ⟨P, C, g, sn, hnu, hdu⟩ := hS
  obtain ⟨A', B', z6, z7, r1, r2, fA, gB, t6, t7, u1, u2, u3, u4, u5, u6, u7⟩ := K280 d p n kd P N x2 (zgI M 71 0 p) (zgI M 73 0 p) (zgI M 75 0 p) (zgI M 13 0 2) (zgI M 13 0 7) (zgI M 13 0 8) (zgI M 13 0 4) (zgI M 13 0 5) (zgI M 13 0 59) x3 (T := T) (q := q) (by omega) hp3 hnu.1.1 hkd (by omega) M ⟨hnu.2.1, hty, ⟨b0, b0'⟩, b1, b2, b3, b4, b5, hl.1⟩ rfl rfl hN2 rfl rfl rfl rfl rfl rfl rfl z5 z59
  have ca : zgo false (d + 35) 150 0 [zr 12 0, zi (nI p), zi (nI n), zi x2, zi x3, zu, zu, zu, zu, zu] [] M = some (some (zi (if x3 = 0 then z6 else z7)), A') := by
    refine zgo_deep ?_
    rw [k5, B150_5, zq20, cond_false, if_neg (z_le_nlt ok.1), if_neg (z_le_nlt ok.2), if_neg (z_le_nlt ok3.1), if_pos ok3.2]
    exact r1
  have mo : zgo false (d + 35) 281 0 [zr 13 0, zi (nI p), zi (nI n), zi x2, zi x3] [] M = some (some (zi (if x3 = 0 then z6 else z7)), B') := by
    rw [k25, if_pos ok3, B281_25, if_neg (by decide), r2, zbsome, zpu0, B281_38, t6, t7]
    by_cases c : x3 = 0
    · rw [if_pos c, if_pos c, B281_54]
    · rw [if_neg c, if_neg c, B281_54]
  obtain ⟨v, A2, w, B3, e1, e2, ⟨e3, e4, e5, e6⟩, -⟩ := zRR_seq (Q := fun v A w B => v = some (zi (if x3 = 0 then z6 else z7)) ∧ A = A' ∧ w = some (zi (if x3 = 0 then z6 else z7)) ∧ B = B') (as := [zr 12 0, zi (nI p), zi (nI n), zi x2, zi x3, zu, zu, zu, zu, zu]) (bs := [zr 13 0, zi (nI p), zi (nI n), zi x2, zi x3]) (M := M) (by
    intro v hv
    simp only [List.mem_cons, List.not_mem_nil, or_false] at hv
    rcases hv with rfl | rfl | rfl | rfl | rfl | rfl | rfl | rfl | rfl | rfl <;> first | exact trivial | exact Or.inr rfl) (by
    intro v hv
    simp only [List.mem_cons, List.not_mem_nil, or_false] at hv
    rcases hv with rfl | rfl | rfl | rfl | rfl <;> first | exact trivial | exact Or.inr rfl) hJ ⟨_, _, ca, mo, rfl, rfl, rfl, rfl⟩
  subst e4 e6
  rw [e3] at e1
  rw [e5] at e2
  have cA : ∀ k i s, ¬ (k = 13 ∨ 55 ≤ k) → zgI (zmg zmd B3 A2) k i s = zgI A2 k i s := fun k i s hk => (mg_c hk A2 B3 i s).1
  have mB : ∀ k i s, (k = 13 ∨ 55 ≤ k) → zgI (zmg zmd B3 A2) k i s = zgI B3 k i s := fun k i s hk => (mg_m hk A2 B3 i s).1
  have c13 : ∀ c, (c = 1 ∨ c = 3 ∨ c = 6 ∨ (9 ≤ c ∧ c < 59)) → zgI (zmg zmd B3 A2) 13 0 c = zgI M 13 0 c := fun c hc => (mB 13 0 c (by omega)).trans (gB 13 0 c (fun w => dB_13 w hc)).1
  have c13' : ∀ c, c = 2 ∨ c = 4 ∨ c = 5 ∨ c = 7 ∨ c = 8 ∨ c = 59 → zgI (zmg zmd B3 A2) 13 0 c = zgI M 13 0 c := fun c hc => (mB 13 0 c (by omega)).trans (u1 c hc)
  have c12 : ∀ c, zgI (zmg zmd B3 A2) 12 0 c = zgI M 12 0 c := fun c => (cA 12 0 c (by omega)).trans (fA 12 0 c (fun w => (trA_own w).2.2.1 rfl)).1
  have csh : ∀ k s, k = 46 ∨ k = 47 ∨ k = 10 → zgI (zmg zmd B3 A2) k 0 s = zgI M k 0 s := fun k s hk => (cA k 0 s (by omega)).trans (fA k 0 s (fun w => (trA_own2 w).1 ⟨rfl, hk⟩)).1
  have cbd : ∀ s c, s < 10 → zgI (zmg zmd B3 A2) 2 s c = zgI M 2 s c := fun s c hs => (cA 2 s c (by omega)).trans (fA 2 s c (fun w => (trA_own w).2.1 ⟨rfl, hs⟩)).1
  have cdl : ∀ k h s, h < 60 → k = 4 ∨ k = 24 ∨ k = 25 ∨ k = 28 → zgI (zmg zmd B3 A2) k h s = zgI M k h s := fun k h s hh hk => (cA k h s (by omega)).trans (fA k h s (fun w => (trA_own2 w).2 ⟨hh, hk⟩)).1
  have mpl : ∀ k s, 70 ≤ k → k ≤ 75 → zgI (zmg zmd B3 A2) k 0 s = zgI M k 0 s := fun k s k1 k2 => (mB k 0 s (by omega)).trans (u4 k s k1 k2)
  have q31 : zgI (zmg zmd B3 A2) 13 0 31 = zgI M 13 0 31 := c13 31 (by omega)
  have q45 : zgI (zmg zmd B3 A2) 13 0 45 = zgI M 13 0 45 := c13 45 (by omega)
  have row : ∀ g, g < 60 → yBr g M → (zgI (zmg zmd B3 A2) 92 0 g = zgI M 92 0 g ∧ zgI (zmg zmd B3 A2) 94 0 g = zgI M 94 0 g) := fun g hg hb => by
    obtain ⟨⟨m, m1, m2, -⟩, ⟨m', m1', m2', -⟩⟩ := hb
    exact ⟨by rw [mB 92 0 g (by omega), (u5 g hg).2.2.1, byb m2 (by omega)], by rw [mB 94 0 g (by omega), (u5 g hg).2.2.2, byb m2' (by omega)]⟩
  have crd : ∀ g m, g < 60 → m ≤ 20 → (yBs 91 g M m → ∀ s, s < m → zgI (zmg zmd B3 A2) 91 0 (24 * g + s) = zgI M 91 0 (24 * g + s)) ∧ (yBs 93 g M m → ∀ s, s < m → zgI (zmg zmd B3 A2) 93 0 (24 * g + s) = zgI M 93 0 (24 * g + s)) := fun g m hg hm => ⟨fun hb s hs => by rw [mB 91 0 _ (by omega), (u6 (24 * g + s) (by omega)).1, hb s hs, hb s hs], fun hb s hs => by rw [mB 93 0 _ (by omega), (u6 (24 * g + s) (by omega)).2, hb s hs, hb s hs]⟩
  refine ⟨_, A2, zmg zmd B3 A2, e1, e2, mg_fr fA gB (fun k i s _ w => trA_pm w) (fun k i s _ w => dB_pm w), ?_, ⟨?_, ?_, fun s hs => ?_⟩, fun s s1 s2 => ?_, fun s hs => ?_, ?_, fun n2 q1 q2 g hg => ?_, q31⟩
  · refine ⟨P, C, g, sn, yNum_fr hnu (fun s _ _ => csh 10 s (by omega)) (fun s _ => csh 47 s (by omega)) (fun s s1 s2 _ => ?_) (fun s hs => (mB 56 0 s (by omega)).trans (u3 s (by omega))), ?_⟩
    · by_cases y : s = 1 ∨ s = 3 ∨ s = 6
      · exact c13 s (by omega)
      · exact c13' s (by omega)
    · rw [csh 10 9 (by omega), c13' 5 (by omega), c13' 59 (by omega)]
      rcases hdu with hdu | ⟨d1, d2, d3, c, c1, c2, c3⟩
      · exact Or.inl hdu
      · refine Or.inr ⟨d1, d2, d3, c, c1, fun s hs => ?_, c3⟩
        obtain ⟨y1, y2, y3, y4⟩ := c2 s hs
        have hP8 := hnu.1.1
        exact ⟨(csh 46 s (by omega)).trans y1, by rw [mB 55 0 s (by omega), u2 s (by omega), byb y2 (by omega), y2], y3, y4⟩
  · rw [c12, q31]
    exact hp.1
  · rw [q31]
    exact hp.2.1
  · rw [q31] at hs
    have s10 : s < 10 := by
      have := hp.2.1.2
      omega
    rw [cbd s 0 s10, cbd s 1 s10, cbd s 2 s10, cbd s 3 s10, cbd s 4 s10, cbd s 5 s10, mpl 70 s (by omega) (by omega), mpl 71 s (by omega) (by omega), mpl 72 s (by omega) (by omega), mpl 73 s (by omega) (by omega), mpl 74 s (by omega) (by omega), mpl 75 s (by omega) (by omega)]
    exact hp.2.2 s hs
  · rw [q31] at s2
    rw [cbd s 3 s1, cbd s 4 s1, cbd s 5 s1, mpl 73 s (by omega) (by omega), mpl 74 s (by omega) (by omega), mpl 75 s (by omega) (by omega)]
    exact hz s s1 s2
  · obtain ⟨N2, q1, q2⟩ := hn s hs
    exact ⟨N2, q1, by rw [mpl 74 s (by omega) (by omega), q2]⟩
  · obtain ⟨n2, q1, q2, q3, q4⟩ := hd
    refine ⟨n2, q1, by rw [c12]; exact q2, by rw [q45]; exact q3, fun h hh => ?_⟩
    have h60 : h < 60 := by omega
    have hbr := hby n2 q1 q3 h hh
    obtain ⟨w92, w94⟩ := row h h60 hbr
    obtain ⟨⟨m1, m1a, m1b, m1c⟩, ⟨m2, m2a, m2b, m2c⟩⟩ := hbr
    obtain ⟨⟨a1, a2, a3, a4, a5, a6, a7, a8⟩, y1, y2, ⟨m, i1, i2, i3, i4⟩, ⟨t9, j1, j2, j3, j4⟩, lf, l1, l2, l3⟩ := q4 h hh
    have em : m = m1 := (nI_eq (by omega) (by omega)).mp (i2.symm.trans m1b)
    have et : t9 = m2 := (nI_eq (by omega) (by omega)).mp (j2.symm.trans m2b)
    subst em et
    have k4 : ∀ c, zgI (zmg zmd B3 A2) 4 h c = zgI M 4 h c := fun c => cdl 4 h c h60 (by omega)
    have kl : ∀ k, (83 ≤ k ∧ k ≤ 88) ∨ k = 90 → zgI (zmg zmd B3 A2) k 0 h = zgI M k 0 h := fun k hk => (mB k 0 h (by omega)).trans ((u5 h h60).1 k hk)
    have k89 : zgI (zmg zmd B3 A2) 89 0 h = zgI M 89 0 h := by rw [mB 89 0 h (by omega), (u5 h h60).2.1, andb y1]
    have k95 : ∀ s, s < 11 → zgI (zmg zmd B3 A2) 95 0 (11 * h + s) = zgI M 95 0 (11 * h + s) := fun s hs => (mB 95 0 _ (by omega)).trans (u7 _ (by omega))
    refine ⟨⟨?_, ?_, ?_, ?_, ?_, ?_, ?_, ?_⟩, ?_, ?_, ⟨m, ?_, ?_, i3, fun s hs => ?_⟩, ⟨t9, ?_, ?_, j3, fun s hs => ?_⟩, lf, fun v v1 v2 => ?_, ?_, l3⟩
    · rw [k4, kl 83 (by omega)]; exact a1
    · rw [k4, kl 84 (by omega)]; exact a2
    · rw [k4, kl 85 (by omega)]; exact a3
    · rw [k4, kl 86 (by omega)]; exact a4
    · rw [k4, kl 87 (by omega)]; exact a5
    · rw [k4, kl 88 (by omega)]; exact a6
    · rw [k4, k89]; exact a7
    · rw [k4, kl 90 (by omega)]; exact a8
    · rw [k89]; exact y1
    · rw [kl 90 (by omega)]; exact y2
    · rw [k4]; exact i1
    · rw [w92]; exact i2
    · rw [cdl 24 h s h60 (by omega), (crd h m h60 i3).1 m1c s hs]; exact i4 s hs
    · rw [k4]; exact j1
    · rw [w94]; exact j2
    · rw [cdl 25 h s h60 (by omega), (crd h t9 h60 j3).2 m2c s hs]; exact j4 s hs
    · rw [cdl 28 h v h60 (by omega), k95 v (by omega)]; exact l1 v v1 v2
    · have := k95 0 (by omega)
      rw [Nat.add_zero] at this
      rw [this]; exact l2
  · rw [q45] at q2
    have h60 : g < 60 := by omega
    have hbr := hby n2 q1 q2 g hg
    obtain ⟨w92, w94⟩ := row g h60 hbr
    obtain ⟨⟨m1, m1a, m1b, m1c⟩, ⟨m2, m2a, m2b, m2c⟩⟩ := hbr
    exact ⟨⟨m1, m1a, w92.trans m1b, fun s hs => by rw [(crd g m1 h60 m1a).1 m1c s hs]; exact m1c s hs⟩, ⟨m2, m2a, w94.trans m2b, fun s hs => by rw [(crd g m2 h60 m2a).2 m2c s hs]; exact m2c s hs⟩⟩
