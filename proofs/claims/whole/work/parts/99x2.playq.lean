/-! ===== 'play', asked ===== -/
def Rhn (t : Nat) (M : zM) : Prop := ∀ s, s < 10 → ∃ N, N ≤ 60 * t ∧ zgI M 74 0 s = nI N
/-- the cards of the hands led are bytes -/
def Rby (M : zM) : Prop := ∀ n, n ≤ 60 → zgI M 13 0 45 = nI n → ∀ g, g < n → yBr g M
theorem zJl_ok {K : Nat → Bool} {l : List zV} (h : ∀ v, v ∈ l → zJ1 K v) : zJl K l := h
/-- the player's numbers, out of all of theirs -/
theorem yBd_of {M : zM} (hp : Rpl M) {p N : Nat} (hp5 : (p : Int) < (zgI M 13 0 31).toInt) (hN : zgI M 74 0 p = nI N) : ∃ kd, yBd p p N kd M M := by
  obtain ⟨⟨g0, g1, g2, g3, g4, g5⟩, k0, -, -⟩ := hp.2.2 p hp5
  have e : zgI M 70 0 p = nI (zgI M 70 0 p).toInt.toNat := nI_toNat k0.1 (by omega)
  exact ⟨(zgI M 70 0 p).toInt.toNat, by omega, ⟨g0.trans e, e⟩, g1, g2, g3, ⟨g4.trans hN, hN⟩, g5⟩
theorem yTy_of {M : zM} (ht : Rtx M) (hr : Rrul M) (hA : Raf M) : ∃ T q, yTy T q M M := by
  obtain ⟨T, h1, h2⟩ := ht
  obtain ⟨q, q1, q2⟩ := Rrul_q hr
  exact ⟨T, q, h1, h2, ⟨q1, q2⟩, hA⟩
theorem ySho_of {M : zM} (h : yShoe 0 M M) : ∃ P C, ySho 0 P C M M := by
  obtain ⟨P, C, g, sn, hn, hd⟩ := h
  exact ⟨P, C, g, sn, yNm_of hn, hd⟩
theorem yShoe_of {A B : zM} {P C : Nat} (h : ySho 0 P C A B) (hs : zgI A 10 0 4 = zgI B 13 0 3) : yShoe 0 A B := by
  obtain ⟨g, sn, hn, hd⟩ := h
  exact ⟨P, C, g, sn, yNm_num hn hs, hd⟩
theorem Q10 (d t : Nat) (x0 x1 : Int32) (M : zM) (hS : yShoe 0 M M) (hr : Rrul M) (hA : Raf M) (ht : Rtx M) (hp : Rpl M) (hz : Rpz M) (hn : Rhn t M) (hl : Rlim M) (hd : Rled M) (hby : Rby M) (hJ : zJm zcl M) (ht2 : t ≤ 5000) : ∃ (y : Int32) (M1 M2 : zM), zgo false (d + 35) 140 0 [zr 12 0, zi x0, zi x1, zu, zu, zu, zu] [] M = some (some (zi y), M1) ∧ zgo false (d + 35) 273 0 [zr 13 0, zi x0, zi x1, zu] [] M1 = some (some (zi y), M2) ∧ zFr pm M M2 ∧ yShoe 0 M2 M2 ∧ Rpl M2 ∧ Rpz M2 ∧ Rhn (t + 1) M2 ∧ Rled M2 ∧ Rby M2 ∧ zgI M2 13 0 31 = zgI M 13 0 31 := by
  have hn1 : Rhn (t + 1) M := fun s hs => by
    obtain ⟨N, h1, h2⟩ := hn s hs
    exact ⟨N, by omega, h2⟩
  by_cases hq : zpl M x0
  case neg =>
    have hb := S_body (d + 34) x0 M hp
    have hm := S_isPl (d + 33) x0 M hp.2.1
    rw [if_neg hq] at hb hm
    refine ⟨-2000000000, M, M, ?_, ?_, zFr_refl _ M, hS, hp, hz, hn1, hd, hby, rfl⟩
    · rw [B140_0, hb, zbsome]
      show zgo false (d + 35) 140 5 [zr 12 0, zi x0, zi x1, zu, zu, zu, zu] [zr 0 0] M = _
      rw [B140_5, zq00, cond_true, B140_21]
    · rw [B273_0, hm, zbsome, zpu1, B273_5, if_pos rfl, B273_18]
  have hb := S_body (d + 34) x0 M hp
  have hm := S_isPl (d + 33) x0 M hp.2.1
  rw [if_pos hq] at hb hm
  obtain ⟨p, hp3, rfl, hp5⟩ := zpl_nI hq (by rw [zI_le]; exact hp.2.1.2)
  have hc2 : (nI p).toNatClampNeg = p := nI_clamp (by omega)
  rw [hc2] at hb
  have k5 : zgo false (d + 35) 140 0 [zr 12 0, zi (nI p), zi x1, zu, zu, zu, zu] [] M = zgo false (d + 35) 140 5 [zr 12 0, zi (nI p), zi x1, zu, zu, zu, zu] [zr 2 p] M := by
    rw [B140_0, hb, zbsome]
    rfl
  have k15 : zgo false (d + 35) 273 0 [zr 13 0, zi (nI p), zi x1, zu] [] M = zgo false (d + 35) 273 15 [zr 13 0, zi (nI p), zi x1, zu] [zi (if 1 ≤ x1 ∧ x1 ≤ 60 then 1 else 0)] M := by
    rw [B273_0, hm, zbsome, zpu1, B273_5, if_neg (by decide), S_in, zbsome, zpu1]
  by_cases ok : 1 ≤ x1 ∧ x1 ≤ 60
  case neg =>
    refine ⟨-2000000000, M, M, ?_, ?_, zFr_refl _ M, hS, hp, hz, hn1, hd, hby, rfl⟩
    · rw [k5, B140_5, zq20, cond_false]
      by_cases c1 : x1 < 1
      · rw [if_pos c1, B140_21]
      · rw [if_neg c1, if_neg (show ¬ x1 ≤ 60 by grind), B140_21]
    · rw [k15, if_neg ok, B273_15, if_pos rfl, B273_18]
  obtain ⟨n, hn61, rfl⟩ := zin_of (zin_g (c := 61) (n := 61) (by decide) rfl |>.mpr ⟨by grind, by grind⟩ : zin x1 61 = true)
  obtain ⟨N, hN1, hN2⟩ := hn p hp3
  obtain ⟨kd, hbd⟩ := yBd_of hp hp5 hN2
  obtain ⟨T, q, hty⟩ := yTy_of ht hr hA
  obtain ⟨P, C, hsho⟩ := ySho_of hS
  obtain ⟨A0, hA0⟩ : ∃ A, A = zsI M 12 0 13 0 := ⟨_, rfl⟩
  have f0 : zFo (fun a b c => a = 12 ∧ b = 0 ∧ c = 13) M A0 := by
    rw [hA0]
    exact zFo_sI (zFo_refl _ M) ⟨rfl, rfl, rfl⟩
  obtain ⟨A', B', h', N', y, r1, r2, r3, r4, r5, r6, r7, r8, r9, r10, r11, r71, r12⟩ := L140 d p n kd (nI p) (by omega) hp3 (T := T) (q := q) (P := P) (C := C) n 0 N A0 M 0 zu (by omega) (ySho_fr hsho f0 (zFo_refl (fun _ _ _ => False) M) (fun s _ _ => by omega) (fun s => by omega) (fun s => by omega) (fun _ _ => id) (fun _ => id) (fun _ => id)) ⟨fun u hu => ⟨(hty.1 u hu).1, (hty.1 u hu).2.1, yCl_fr (hty.1 u hu).2.2.1 (f0 11 u 2 (by omega)).1 (fun s => (f0 48 u s (by omega)).1), (hty.1 u hu).2.2.2⟩, fun v v1 v2 => ((f0 30 0 v (by omega)).1).trans (hty.2.1 v v1 v2), ⟨fun w hw => ⟨((f0 29 0 w (by omega)).1).trans (hty.2.2.1.1 w hw).1, (hty.2.2.1.1 w hw).2⟩, hty.2.2.1.2⟩, Raf_fr hty.2.2.2 f0 (fun v => by omega)⟩ (by
    obtain ⟨a1, ⟨a2, a3⟩, a4, a5, a6, ⟨a7, a8⟩, a9⟩ := hbd
    exact ⟨a1, ⟨((f0 2 p 0 (by omega)).1).trans a2, a3⟩, ((f0 2 p 1 (by omega)).1).trans a4, ((f0 2 p 2 (by omega)).1).trans a5, ((f0 2 p 3 (by omega)).1).trans a6, ⟨((f0 2 p 4 (by omega)).1).trans a7, a8⟩, ((f0 2 p 5 (by omega)).1).trans a9⟩) (by omega) (by rw [hA0, zgI_sI, if_pos ⟨rfl, rfl, rfl⟩]; rfl) (by rw [(f0 12 0 15 (by omega)).1]; exact hl.1) (by
    have := hp.2.2 p hp5
    rw [zI_le, zI_le]
    exact this.2.2.1) (fun g hg => absurd hg (by omega))
  obtain ⟨B2, hB2⟩ : ∃ B, B = zsI B' 13 0 45 (nI h') := ⟨_, rfl⟩
  have g2 : zFo (fun a b c => a = 13 ∧ b = 0 ∧ c = 45) B' B2 := by
    rw [hB2]
    exact zFo_sI (zFo_refl _ B') ⟨rfl, rfl, rfl⟩
  have ca : zgo false (d + 35) 140 0 [zr 12 0, zi (nI p), zi (nI n), zu, zu, zu, zu] [] M = some (some (zi y), A') := by
    rw [k5, B140_5, zq20, cond_false, if_neg (z_le_nlt ok.1), if_pos ok.2, ← hA0]
    exact zgo_deep r1
  have mo : zgo false (d + 35) 273 0 [zr 13 0, zi (nI p), zi (nI n), zu] [] M = some (some (zi y), B2) := by
    have e272 : zgo false (d + 34) 272 0 [zr 13 0, zi (nI p), zi (nI n), zu, zu] [] M = some (some (zi y), B') := by
      rw [B272_0]
      exact zgo_deep r2
    rw [k15, if_pos ok, B273_15, if_neg (by decide), e272, zbsome, zpu1, B273_27, r10, hB2]
  obtain ⟨v, A2, w, B3, e1, e2, ⟨e3, e4, e5, e6⟩, -⟩ := zRR_seq (Q := fun v A w B => v = some (zi y) ∧ A = A' ∧ w = some (zi y) ∧ B = B2) (as := [zr 12 0, zi (nI p), zi (nI n), zu, zu, zu, zu]) (bs := [zr 13 0, zi (nI p), zi (nI n), zu]) (M := M) (by
    intro v hv
    simp only [List.mem_cons, List.not_mem_nil, or_false] at hv
    rcases hv with rfl | rfl | rfl | rfl | rfl | rfl | rfl <;> first | exact trivial | exact Or.inr rfl) (by
    intro v hv
    simp only [List.mem_cons, List.not_mem_nil, or_false] at hv
    rcases hv with rfl | rfl | rfl | rfl <;> first | exact trivial | exact Or.inr rfl) hJ ⟨_, _, ca, mo, rfl, rfl, rfl, rfl⟩
  subst e4 e6
  rw [e3] at e1
  rw [e5] at e2
  -- what both leave, laid together
  have fA : zFo (plA p) M A2 := zFo_trans (zFo_mono f0 (fun a b c w => Or.inr w)) r3
  have gB : zFo (fun a b c => plB p a b c ∨ (a = 13 ∧ b = 0 ∧ c = 45)) M B3 := zFo_trans (zFo_mono r4 (fun a b c w => Or.inl w)) (zFo_mono g2 (fun a b c w => Or.inr w))
  have cA : ∀ k i s, ¬ (k = 13 ∨ 55 ≤ k) → zgI (zmg zmd B3 A2) k i s = zgI A2 k i s := fun k i s hk => (mg_c hk A2 B3 i s).1
  have mB : ∀ k i s, (k = 13 ∨ 55 ≤ k) → zgI (zmg zmd B3 A2) k i s = zgI B3 k i s := fun k i s hk => (mg_m hk A2 B3 i s).1
  have s2 : ySho 0 P C A2 B3 := ySho_fr r5 (zFo_refl (fun _ _ _ => False) A2) g2 (fun _ _ _ => id) (fun _ => id) (fun _ => id) (fun s _ => by omega) (fun s => by omega) (fun s => by omega)
  obtain ⟨a1, ⟨a2, a3⟩, a4, a5, a6, ⟨a7, a8⟩, a9⟩ := r7
  have oth : ∀ s, ¬ s = p → ∀ c, zgI A2 2 s c = zgI M 2 s c := fun s hs c => (fA 2 s c (by
    rintro (⟨h, -, y⟩ | y)
    · rcases y with y | y | y | y | y
      · omega
      · omega
      · exact hs y.2.1
      · omega
      · omega
    · omega)).1
  have oth2 : ∀ k s, 70 ≤ k → k ≤ 75 → ¬ s = p → zgI B3 k 0 s = zgI M k 0 s := fun k s k1 k2 hs => (gB k 0 s (by
    rintro ((⟨h, -, -, y⟩ | y) | y)
    · rcases y with y | y | y | y | y | y | y | y | y | y | y <;> omega
    · omega
    · omega)).1
  have n31 : zgI B3 13 0 31 = zgI M 13 0 31 := (gB 13 0 31 (by
    rintro ((⟨h, -, -, y⟩ | y) | y)
    · rcases y with y | y | y | y | y | y | y | y | y | y | y <;> omega
    · omega
    · omega)).1
  have n12 : ∀ c, ¬ c = 13 → zgI A2 12 0 c = zgI M 12 0 c := fun c hc => (fA 12 0 c (by
    rintro (⟨h, -, y⟩ | y)
    · rcases y with y | y | y | y | y
      · omega
      · omega
      · omega
      · omega
      · omega
    · omega)).1
  have g70 : zgI B3 70 0 p = zgI M 70 0 p ∧ zgI B3 72 0 p = zgI M 72 0 p := ⟨(gB 70 0 p (by
    rintro ((⟨h, -, -, y⟩ | y) | y)
    · rcases y with y | y | y | y | y | y | y | y | y | y | y <;> omega
    · omega
    · omega)).1, (gB 72 0 p (by
    rintro ((⟨h, -, -, y⟩ | y) | y)
    · rcases y with y | y | y | y | y | y | y | y | y | y | y <;> omega
    · omega
    · omega)).1⟩
  have gk : ∀ k s, 70 ≤ k → k ≤ 75 → zgI B3 k 0 s = zgI B' k 0 s := fun k s k1 k2 => (g2 k 0 s (by omega)).1
  have q31 : zgI (zmg zmd B3 A2) 13 0 31 = zgI M 13 0 31 := (mB 13 0 31 (by omega)).trans n31
  refine ⟨y, A2, zmg zmd B3 A2, e1, e2, mg_fr fA gB (fun k i s _ w => ?_) (fun k i s _ w => ?_), ?_, ⟨?_, ?_, fun s hs => ?_⟩, fun s s1 s2 => ?_, fun s hs => ?_, ⟨h', by omega, ?_, ?_, fun g hg => ?_⟩, fun n2 q1 q2 g hg => ?_, q31⟩
  · rcases w with ⟨h, hh, w⟩ | ⟨rfl, rfl, rfl⟩
    · exact oneA_own hp3 hh w
    · rfl
  · rcases w with (⟨h, hh, w⟩ | ⟨rfl, rfl, rfl⟩) | ⟨rfl, rfl, rfl⟩
    · exact oneB_own w
    · rfl
    · rfl
  · have s3 : ySho 0 P C (zmg zmd B3 A2) (zmg zmd B3 A2) := ySho_fr (Q := fun a _ _ => a = 13 ∨ 55 ≤ a) (Q' := fun a _ _ => ¬ (a = 13 ∨ 55 ≤ a)) s2 (fun k i s hk => mg_c hk A2 B3 i s) (fun k i s hk => mg_m (Classical.not_not.mp hk) A2 B3 i s) (fun s _ _ => by omega) (fun s => by omega) (fun s => by omega) (fun s _ => by omega) (fun s => by omega) (fun s => by omega)
    refine yShoe_of s3 ?_
    rw [cA 10 0 4 (by omega), mB 13 0 3 (by omega), (fA 10 0 4 (by
      rintro (⟨h, -, y⟩ | y)
      · rcases y with y | y | y | y | y
        · omega
        · omega
        · omega
        · omega
        · omega
      · omega)).1, (gB 13 0 3 (by
      rintro ((⟨h, -, -, y⟩ | y) | y)
      · rcases y with y | y | y | y | y | y | y | y | y | y | y <;> omega
      · omega
      · omega)).1]
    obtain ⟨P1, C1, g1, sn1, hn1', -⟩ := hS
    exact hn1'.2.2.2.1
  · rw [cA 12 0 12 (by omega), n12 12 (by omega), q31]
    exact hp.1
  · rw [q31]
    exact hp.2.1
  · rw [q31] at hs
    have old := hp.2.2 s hs
    rw [cA 2 s 0 (by omega), cA 2 s 1 (by omega), cA 2 s 2 (by omega), cA 2 s 3 (by omega), cA 2 s 4 (by omega), cA 2 s 5 (by omega), mB 70 0 s (by omega), mB 71 0 s (by omega), mB 72 0 s (by omega), mB 73 0 s (by omega), mB 74 0 s (by omega), mB 75 0 s (by omega)]
    by_cases e : s = p
    · subst e
      rw [zI_le, zI_le] at r71
      refine ⟨⟨?_, ?_, ?_, ?_, ?_, ?_⟩, ?_, ?_, ?_⟩
      · rw [gk 70 s (by omega) (by omega), a2, a3]
      · rw [gk 71 s (by omega) (by omega)]; exact a4
      · rw [gk 72 s (by omega) (by omega)]; exact a5
      · rw [gk 73 s (by omega) (by omega)]; exact a6
      · rw [gk 74 s (by omega) (by omega), a7, a8]
      · rw [gk 75 s (by omega) (by omega)]; exact a9
      · rw [g70.1]; exact old.2.1
      · rw [gk 71 s (by omega) (by omega)]; exact r71
      · rw [g70.2]; exact old.2.2.2
    · rw [oth s e, oth s e, oth s e, oth s e, oth s e, oth s e, oth2 70 s (by omega) (by omega) e, oth2 71 s (by omega) (by omega) e, oth2 72 s (by omega) (by omega) e, oth2 73 s (by omega) (by omega) e, oth2 74 s (by omega) (by omega) e, oth2 75 s (by omega) (by omega) e]
      exact old
  · rw [q31] at s2
    have e : ¬ s = p := fun w => by
      subst w
      omega
    have old := hz s s1 s2
    rw [cA 2 s 3 (by omega), cA 2 s 4 (by omega), cA 2 s 5 (by omega), mB 73 0 s (by omega), mB 74 0 s (by omega), mB 75 0 s (by omega), oth s e, oth s e, oth s e, oth2 73 s (by omega) (by omega) e, oth2 74 s (by omega) (by omega) e, oth2 75 s (by omega) (by omega) e]
    exact old
  · by_cases e : s = p
    · subst e
      exact ⟨N', by omega, by rw [mB 74 0 s (by omega), gk 74 s (by omega) (by omega), a8]⟩
    · obtain ⟨N2, q1, q2⟩ := hn s hs
      exact ⟨N2, by omega, by rw [mB 74 0 s (by omega), oth2 74 s (by omega) (by omega) e, q2]⟩
  · rw [cA 12 0 13 (by omega)]; exact r9
  · rw [mB 13 0 45 (by omega), hB2, zgI_sI, if_pos ⟨rfl, rfl, rfl⟩]
  · exact yDl_fr (r12 g hg).1 (fun k s hk => cA k g s (by omega)) (fun k s k1 k2 => (mB k 0 s (by omega)).trans (g2 k 0 s (by omega)).1)
  · have e45 : zgI (zmg zmd B3 A2) 13 0 45 = nI h' := by rw [mB 13 0 45 (by omega), hB2, zgI_sI, if_pos ⟨rfl, rfl, rfl⟩]
    have en : n2 = h' := by
      rw [q2] at e45
      exact (nI_eq (by omega) (by omega)).mp e45
    rw [en] at hg
    obtain ⟨⟨m, m1, m2, m3⟩, ⟨t9, t1, t2, t3⟩⟩ := (r12 g hg).2
    have gg : ∀ k s, k = 91 ∨ k = 92 ∨ k = 93 ∨ k = 94 → zgI (zmg zmd B3 A2) k 0 s = zgI B' k 0 s := fun k s hk => (mB k 0 s (by omega)).trans (g2 k 0 s (by omega)).1
    exact ⟨⟨m, m1, (gg 92 g (by omega)).trans m2, fun s hs => by rw [gg 91 _ (by omega)]; exact m3 s hs⟩, ⟨t9, t1, (gg 94 g (by omega)).trans t2, fun s hs => by rw [gg 93 _ (by omega)]; exact t3 s hs⟩⟩
