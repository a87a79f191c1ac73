/-! ===== a play asked for ===== -/
def gA3 (a b c : Nat) : Prop := (a = 31 ∧ b = 0) ∨ a = 49 ∨ (a = 11 ∧ c = 3)
def gB3 (a b _c : Nat) : Prop := b = 0 ∧ (a = 68 ∨ a = 69)
theorem gA3_A {r i di a b c : Nat} (H : gA3 a b c) : gA r i di a b c := by unfold gA3 at H; unfold gA; omega
theorem gB3_B {r h a b c : Nat} (H : gB3 a b c) : gB r h a b c := by unfold gB3 at H; unfold gB; omega
def yNp (t so dv m : Int32) (kd : Nat) (ct tc la : Int32) (k : Nat) : Int32 := if k = 0 then t else if k = 1 then so else if k = 2 then dv else if k = 3 then m else yNs kd ct tc la k
theorem yNs_lo (kd : Nat) (ct tc la : Int32) {k : Nat} (h : k < 9) : yNs kd ct tc la k = 0 := (if_neg (by omega)).trans ((if_neg (by omega)).trans (if_neg (by omega)))
/-- four names laid over cleared ones, then what is seen -/
theorem yNp_of {n : Nat} {M0 M1 M2 : zM} {t so dv m ct tc la : Int32} {kd : Nat} (h0 : ∀ k, k < 12 → zgI M0 n 0 k = 0) (h1 : M1 = zsI (zsI (zsI (zsI M0 n 0 0 t) n 0 1 so) n 0 2 dv) n 0 3 m) (f : zFo (fun a b c => a = n ∧ b = 0 ∧ 9 ≤ c) M1 M2) (h2 : ∀ k, 9 ≤ k → k < 12 → zgI M2 n 0 k = yNs kd ct tc la k) : ∀ k, k < 12 → zgI M2 n 0 k = yNp t so dv m kd ct tc la k := by
  intro k hk
  by_cases c9 : 9 ≤ k
  · rw [h2 k c9 hk]
    unfold yNp
    rw [if_neg (by omega), if_neg (by omega), if_neg (by omega), if_neg (by omega)]
  · rw [(f n 0 k (by omega)).1, h1]
    rcases (by omega : k = 0 ∨ k = 1 ∨ k = 2 ∨ k = 3 ∨ 4 ≤ k) with e | e | e | e | e
    · subst e
      rw [zgI_sI, if_neg (by omega), zgI_sI, if_neg (by omega), zgI_sI, if_neg (by omega), zgI_sI, if_pos ⟨rfl, rfl, rfl⟩]
      rfl
    · subst e
      rw [zgI_sI, if_neg (by omega), zgI_sI, if_neg (by omega), zgI_sI, if_pos ⟨rfl, rfl, rfl⟩]
      rfl
    · subst e
      rw [zgI_sI, if_neg (by omega), zgI_sI, if_pos ⟨rfl, rfl, rfl⟩]
      rfl
    · subst e
      rw [zgI_sI, if_pos ⟨rfl, rfl, rfl⟩]
      rfl
    · rw [zgI_sI, if_neg (by omega), zgI_sI, if_neg (by omega), zgI_sI, if_neg (by omega), zgI_sI, if_neg (by omega), h0 k hk]
      unfold yNp
      rw [if_neg (by omega), if_neg (by omega), if_neg (by omega), if_neg (by omega), yNs_lo _ _ _ _ (by omega)]
theorem yFl_nil : ∀ T : List (List yOp × List yOp), (yFl T).length = 0 ↔ T = []
  | [] => ⟨fun _ => rfl, fun _ => rfl⟩
  | q :: r => by
    constructor
    · intro h
      have e : (yFl (q :: r)).length = (yFl1 q).length + (yFl r).length := List.length_append
      have := yFl1_len q
      omega
    · intro h
      cases h
def ySo (s : Nat) (a : Bool) : Int32 := if a = true ∧ s ≤ 11 then 1 else 0
def yAsk (T : List (List yOp × List yOp)) (s : Nat) (a : Bool) (dv m kd : Nat) (ct tc la : Int32) : Int32 := if T = [] then (if 17 ≤ nI (oTt s a) then 0 else 1) else yTx (yNp (nI (oTt s a)) (ySo s a) (nI dv) (nI m) kd ct tc la) T
theorem K45 (d i bi di kd s m dv : Nat) (a : Bool) (T : List (List yOp × List yOp)) {A B : zM} {P C g : Nat} {sn : Nat → Nat} (hn : yNm i A B P C g sn) (r11 : zgR A 5 0 11 = (10, i)) (r12 : zgR A 5 0 12 = (2, bi)) (r13 : zgR A 5 0 13 = (4, di)) (hk : zgI A 2 bi 0 = nI kd) (hk7 : kd ≤ 7) (hw : yWT T) (hl : yLn T) (hc : yCl A 0 T) (h7 : zgI A 4 di 7 = nI (oHd s a)) (h5 : zgI A 4 di 5 = nI m) (h25 : zgI A 25 di 0 = nI dv) (hs : s ≤ 40) : ∃ A', zgo false (d + 6) 45 0 [zr 5 0] [] A = some (some (zi (yAsk T s a dv m kd (zgI A 10 i 8) (yTc (zgI A 10 i 8) (yLf P sn 0)) (nI (yLf P sn 1)))), A') ∧ zFo gA3 A A' := by
  have z4 : ∀ A1, zgR A1 5 0 13 = (4, di) → Nat.beq (zgR A1 5 0 13).1 4 = true := fun A1 e => by rw [e]; rfl
  have l0 : zgI A 11 0 2 = 0 ↔ T = [] := by
    rw [hc.1, ← yFl_nil T]
    exact nI_eq (b := 0) (by have := hc.2.1; omega) (by omega)
  by_cases c0 : T = []
  · refine ⟨A, ?_, zFo_refl _ A⟩
    have e : yAsk T s a dv m kd (zgI A 10 i 8) (yTc (zgI A 10 i 8) (yLf P sn 0)) (nI (yLf P sn 1)) = if 17 ≤ nI (oTt s a) then 0 else 1 := if_pos c0
    rw [B45_0, if_pos (l0.mpr c0), z4 A r13, cond_true, r13, show zgI A 4 ((4 : Nat), di).2 7 = nI (oHd s a) from h7, S173y _ _ _ _ _ hs, zbsome, zpu1, B45_20, B45_30, B45_30, e]
    by_cases c : 17 ≤ nI (oTt s a)
    · rw [if_pos c, if_pos c]
    · rw [if_neg c, if_neg c]
  · obtain ⟨A0, e0, f0, h0⟩ := S121 (d + 4) zu A
    have e0 : zgo false (d + 5) 121 0 [zr 31 0, zu] [] A = some (none, A0) := e0
    have s13 : ∀ A1, (∀ k i s, zgR A1 k i s = zgR A0 k i s) → zgR A1 5 0 13 = (4, di) := fun A1 e => by rw [e, (f0 5 0 13 (by omega)).2.2, r13]
    obtain ⟨A1, hA1⟩ : ∃ A1, A1 = zsI (zsI (zsI (zsI A0 31 0 0 (nI (oTt s a))) 31 0 1 (ySo s a)) 31 0 2 (nI dv)) 31 0 3 (nI m) := ⟨_, rfl⟩
    have f1 : zFo (fun a b c => a = 31 ∧ b = 0) A A1 := by
      rw [hA1]
      exact zFo_sI (zFo_sI (zFo_sI (zFo_sI f0 ⟨rfl, rfl⟩) ⟨rfl, rfl⟩) ⟨rfl, rfl⟩) ⟨rfl, rfl⟩
    have v1 : ∀ k, 4 ≤ k → k < 12 → zgI A1 31 0 k = 0 := fun k k1 k2 => by rw [hA1, zgI_sI, if_neg (by omega), zgI_sI, if_neg (by omega), zgI_sI, if_neg (by omega), zgI_sI, if_neg (by omega), h0 k k2]
    have hn1 : yNm i A1 B P C g sn := yNm_fr hn (fun s _ _ => (f1 10 i s (by omega)).1) (fun s _ => (f1 47 i s (by omega)).1) (fun _ _ _ _ => rfl) (fun _ _ => rfl)
    obtain ⟨A2, e2, f2, v2⟩ := K48 (d + 3) i bi kd hn1 (((f1 5 0 11 (by omega)).2.2).trans r11) (((f1 5 0 12 (by omega)).2.2).trans r12) (((f1 2 bi 0 (by omega)).1).trans hk) hk7 (fun k k1 k2 => v1 k (by omega) k2)
    have e2 : zgo false (d + 5) 48 0 [zr 5 0] [] A1 = some (none, A2) := e2
    have f12 : zFo (fun a b c => a = 31 ∧ b = 0) A A2 := zFo_trans f1 (zFo_mono f2 (fun a b c y => ⟨y.1, y.2.1⟩))
    obtain ⟨A3, e3, f3⟩ := S124 (d + 2) 0 zu zu zu T A2 hw hl (yCl_fr hc (f12 11 0 2 (by omega)).1 (fun s => (f12 48 0 s (by omega)).1))
    have e3 : zgo false (d + 5) 124 0 [zr 11 0, zr 31 0, zu, zu, zu] [] A2 = some (some (zi (yTx (fun k => zgI A2 31 0 k) T)), A3) := e3
    rw [(f1 10 i 8 (by omega)).1] at v2
    have ev : yTx (fun k => zgI A2 31 0 k) T = yAsk T s a dv m kd (zgI A 10 i 8) (yTc (zgI A 10 i 8) (yLf P sn 0)) (nI (yLf P sn 1)) := by
      have e : yAsk T s a dv m kd (zgI A 10 i 8) (yTc (zgI A 10 i 8) (yLf P sn 0)) (nI (yLf P sn 1)) = yTx (yNp (nI (oTt s a)) (ySo s a) (nI dv) (nI m) kd (zgI A 10 i 8) (yTc (zgI A 10 i 8) (yLf P sn 0)) (nI (yLf P sn 1))) T := if_neg c0
      rw [e]
      exact yTx_congr (yNp_of h0 hA1 f2 v2) hw
    refine ⟨A3, ?_, zFo_trans (zFo_mono f12 (fun a b c y => Or.inl y)) (zFo_mono f3 (fun a b c y => by unfold yFu at y; unfold gA3; omega))⟩
    have g7 : zgI A0 4 (zgR A0 5 0 13).2 7 = nI (oHd s a) := by
      rw [s13 A0 (fun _ _ _ => rfl)]
      exact ((f0 4 di 7 (by omega)).1).trans h7
    have st : ∀ (M : zM) (j : Nat) (x : Int32), j < 12 → zgo false (d + 5) 170 0 [zr 31 0, zi (nI j), zi x] [] M = some (none, zsI M 31 0 j x) := fun M j x hj => se31n false (d + 5) 0 j x M hj
    obtain ⟨M1, hM1⟩ : ∃ M1, M1 = zsI A0 31 0 0 (nI (oTt s a)) := ⟨_, rfl⟩
    obtain ⟨M2, hM2⟩ : ∃ M2, M2 = zsI M1 31 0 1 (ySo s a) := ⟨_, rfl⟩
    obtain ⟨M3, hM3⟩ : ∃ M3, M3 = zsI M2 31 0 2 (nI dv) := ⟨_, rfl⟩
    have hA1' : A1 = zsI M3 31 0 3 (nI m) := by rw [hA1, hM3, hM2, hM1]
    have gM1 : zFo (fun a b c => a = 31 ∧ b = 0) A M1 := by
      rw [hM1]
      exact zFo_sI f0 ⟨rfl, rfl⟩
    have gM2 : zFo (fun a b c => a = 31 ∧ b = 0) A M2 := by
      rw [hM2]
      exact zFo_sI gM1 ⟨rfl, rfl⟩
    have gM3 : zFo (fun a b c => a = 31 ∧ b = 0) A M3 := by
      rw [hM3]
      exact zFo_sI gM2 ⟨rfl, rfl⟩
    have rM1 : zgR M1 5 0 13 = (4, di) := ((gM1 5 0 13 (by omega)).2.2).trans r13
    have rM2 : zgR M2 5 0 13 = (4, di) := ((gM2 5 0 13 (by omega)).2.2).trans r13
    have rM3 : zgR M3 5 0 13 = (4, di) := ((gM3 5 0 13 (by omega)).2.2).trans r13
    have c7 : zgI M1 4 (zgR M1 5 0 13).2 7 = nI (oHd s a) := by
      rw [rM1]
      exact ((gM1 4 di 7 (by omega)).1).trans h7
    have c5 : zgI M3 4 (zgR M3 5 0 13).2 5 = nI m := by
      rw [rM3]
      exact ((gM3 4 di 5 (by omega)).1).trans h5
    have k79 : zgo false (d + 6) 45 56 [zr 5 0] [] M1 = zgo false (d + 6) 45 79 [zr 5 0] [zi (ySo s a), zi 1, zr 31 0] M1 := by
      rw [B45_56, z4 M1 rM1, cond_true, c7]
      unfold ySo oHd
      by_cases c : a = true ∧ s ≤ 11
      · rw [if_pos c, if_pos c, if_neg (show ¬ nI (1010 + s) < 1000 from nI_nlt (b := 1000) (by omega) (by omega))]
      · rw [if_neg c, if_neg c, if_pos (show nI s < 1000 from nI_lt (b := 1000) (by omega) (by omega))]
    have s0 : zgo false (d + 5) 170 0 [zr 31 0, zi 0, zi (nI (oTt s a))] [] A0 = some (none, M1) := by rw [hM1]; exact st A0 0 _ (by omega)
    have s1 : zgo false (d + 5) 170 0 [zr 31 0, zi 1, zi (ySo s a)] [] M1 = some (none, M2) := by rw [hM2]; exact st M1 1 _ (by omega)
    have s2 : zgo false (d + 5) 170 0 [zr 31 0, zi 2, zi (nI dv)] [] M2 = some (none, M3) := by rw [hM3]; exact st M2 2 _ (by omega)
    have s3 : zgo false (d + 5) 170 0 [zr 31 0, zi 3, zi (nI m)] [] M3 = some (none, A1) := by rw [hA1']; exact st M3 3 _ (by omega)
    have g25 : zgo false (d + 5) 169 0 [zr 25 (zgR M2 5 0 13).2, zi 0] [] M2 = some (some (zi (nI dv)), M2) := by
      rw [rM2]
      have e := at25n false (d + 5) di 0 M2 (by omega)
      rw [(gM2 25 di 0 (by omega)).1, h25] at e
      exact e
    rw [B45_0, if_neg (mt l0.mp c0), e0, zbsome, zpu0, B45_38, z4 A0 (s13 A0 (fun _ _ _ => rfl)), cond_true, g7, S173y _ _ _ _ _ hs, zbsome]
    show zgo false (d + 6) 45 53 [zr 5 0] [zi (nI (oTt s a)), zi 0, zr 31 0] A0 = _
    rw [B45_53, s0, zbsome, zpu0, k79, B45_79, s1, zbsome, zpu0, B45_82, z4 M2 rM2, cond_true, g25, zbsome]
    show zgo false (d + 6) 45 98 [zr 5 0] [zi (nI dv), zi 2, zr 31 0] M2 = _
    rw [B45_98, s2, zbsome, zpu0, B45_101, z4 M3 rM3, cond_true, c5, s3, zbsome, zpu0, B45_116, e2, zbsome, zpu0, B45_120, e3, zbsome, zpu1, B45_131, ev]
/-- the same by the model -/
theorem K266 (d i p kd s m dv : Nat) (a : Bool) (T : List (List yOp × List yOp)) (u2 u3 : zV) {A B : zM} {P C g : Nat} {sn : Nat → Nat} (hn : yNm i A B P C g sn) (hp : p < 10) (h62 : zgI B 13 0 62 = nI p) (hk : zgI B 70 0 p = nI kd) (hk7 : kd ≤ 7) (hw : yWT T) (hc : yMt B 0 T) (h65 : zgI B 13 0 65 = nI s) (h66 : zgI B 13 0 66 = bI a) (h67 : zgI B 13 0 67 = nI m) (hs : s ≤ 40) : ∃ B', zgo false (d + 6) 266 0 [zr 13 0, zi (nI dv), u2, u3] [] B = zgo false (d + 6) 266 104 [zr 13 0, zi (nI dv), u2, u3] [zi (yAsk T s a dv m kd (zgI B 13 0 8) (yTc (zgI B 13 0 8) (yLf P sn 0)) (nI (yLf P sn 1)))] B' ∧ zFo gB3 B B' := by
  obtain ⟨B0, e0, f0, h0⟩ := S228 (d + 5) zu B
  have z0 : zin 0 12 = true := rfl
  have z1 : zin 1 12 = true := rfl
  have z2 : zin 2 12 = true := rfl
  have z3 : zin 3 12 = true := rfl
  have z05 : zin 0 5 = true := rfl
  have t0 : (0 : Int32).toNatClampNeg = 0 := rfl
  have t1 : (1 : Int32).toNatClampNeg = 1 := rfl
  have t2 : (2 : Int32).toNatClampNeg = 2 := rfl
  have t3 : (3 : Int32).toNatClampNeg = 3 := rfl
  obtain ⟨M1, hM1⟩ : ∃ M1, M1 = zsI B0 68 0 0 (nI (oTt s a)) := ⟨_, rfl⟩
  obtain ⟨M2, hM2⟩ : ∃ M2, M2 = zsI M1 68 0 1 (ySo s a) := ⟨_, rfl⟩
  obtain ⟨M3, hM3⟩ : ∃ M3, M3 = zsI M2 68 0 2 (nI dv) := ⟨_, rfl⟩
  obtain ⟨B1, hB1⟩ : ∃ B1, B1 = zsI M3 68 0 3 (nI m) := ⟨_, rfl⟩
  have hB1' : B1 = zsI (zsI (zsI (zsI B0 68 0 0 (nI (oTt s a))) 68 0 1 (ySo s a)) 68 0 2 (nI dv)) 68 0 3 (nI m) := by rw [hB1, hM3, hM2, hM1]
  have g1 : zFo (fun a b c => a = 68 ∧ b = 0) B M1 := by
    rw [hM1]
    exact zFo_sI f0 ⟨rfl, rfl⟩
  have g2 : zFo (fun a b c => a = 68 ∧ b = 0) B M2 := by
    rw [hM2]
    exact zFo_sI g1 ⟨rfl, rfl⟩
  have g3 : zFo (fun a b c => a = 68 ∧ b = 0) B M3 := by
    rw [hM3]
    exact zFo_sI g2 ⟨rfl, rfl⟩
  have f1 : zFo (fun a b c => a = 68 ∧ b = 0) B B1 := by
    rw [hB1]
    exact zFo_sI g3 ⟨rfl, rfl⟩
  have hn1 : yNm i A B1 P C g sn := yNm_fr hn (fun _ _ _ => rfl) (fun _ _ => rfl) (fun s _ _ _ => (f1 13 0 s (by omega)).1) (fun s _ => (f1 56 0 s (by omega)).1)
  obtain ⟨B2, e2, f2, v2⟩ := K265 (d + 2) i p kd zu hn1 hp (((f1 70 0 p (by omega)).1).trans hk) hk7
  have e2 : zgo false (d + 5) 265 0 [zr 13 0, zi (nI p), zu] [] B1 = some (none, B2) := e2
  rw [(f1 13 0 8 (by omega)).1] at v2
  have f12 : zFo (fun a b c => a = 68 ∧ b = 0) B B2 := zFo_trans f1 (zFo_mono f2 (fun a b c y => ⟨y.1, y.2.1⟩))
  have hv := yNp_of h0 hB1' f2 v2
  have hc2 : yMt B2 0 T := yMt_fr (by omega) (fun k s hk => (f12 k 0 s (by omega)).1) hc
  have e20 : zgo false (d + 6) 266 0 [zr 13 0, zi (nI dv), u2, u3] [] B = zgo false (d + 6) 266 71 [zr 13 0, zi (nI dv), u2, u3] [] B2 := by
    have a65 : zgI B0 13 0 65 = nI s := ((f0 13 0 65 (by omega)).1).trans h65
    have a66 : zgI B0 13 0 66 = bI a := ((f0 13 0 66 (by omega)).1).trans h66
    have b65 : zgI M1 13 0 65 = nI s := ((g1 13 0 65 (by omega)).1).trans h65
    have b66 : zgI M1 13 0 66 = bI a := ((g1 13 0 66 (by omega)).1).trans h66
    have b67 : zgI M3 13 0 67 = nI m := ((g3 13 0 67 (by omega)).1).trans h67
    have b62 : zgI B1 13 0 62 = nI p := ((f1 13 0 62 (by omega)).1).trans h62
    rw [B266_0, e0, zbsome, zpu0, B266_4, a65, a66, S240 _ _ _ _ hs, zbsome]
    show zgo false (d + 6) 266 20 [zr 13 0, zi (nI dv), u2, u3] [zi (nI (oTt s a)), zi 0, zr 68 0] B0 = _
    rw [B266_20, if_pos z0, t0, ← hM1, b65, b66, S241 _ _ _ _ hs, zbsome]
    show zgo false (d + 6) 266 37 [zr 13 0, zi (nI dv), u2, u3] [zi (ySo s a), zi 1, zr 68 0] M1 = _
    have k45 : zgo false (d + 6) 266 37 [zr 13 0, zi (nI dv), u2, u3] [zi (ySo s a), zi 1, zr 68 0] M1 = zgo false (d + 6) 266 45 [zr 13 0, zi (nI dv), u2, u3] [zi (ySo s a), zi 1, zr 68 0] M1 := by
      rw [B266_37]
      unfold ySo
      by_cases c : a = true ∧ s ≤ 11
      · rw [if_pos c, if_neg (by decide)]
      · rw [if_neg c, if_pos rfl]
    rw [k45, B266_45, if_pos z1, if_pos z2, if_pos z3, t1, t2, t3, ← hM2, ← hM3, b67, ← hB1, B266_63, b62, e2, zbsome, zpu0]
  have l0 : zgI B2 65 0 0 = 0 ↔ T = [] := by
    rw [hc2.1]
    have := hc2.2.1
    have e : nI T.length = 0 ↔ T.length = 0 := nI_eq (b := 0) (by omega) (by omega)
    rw [e]
    exact List.length_eq_zero_iff
  by_cases c0 : T = []
  · refine ⟨B2, ?_, zFo_mono f12 (fun a b c y => ⟨y.2, Or.inl y.1⟩)⟩
    have e : yAsk T s a dv m kd (zgI B 13 0 8) (yTc (zgI B 13 0 8) (yLf P sn 0)) (nI (yLf P sn 1)) = if 17 ≤ nI (oTt s a) then 0 else 1 := if_pos c0
    have e68 : zgI B2 68 0 0 = nI (oTt s a) := hv 0 (by omega)
    rw [e20, B266_71, if_pos z05, t0, if_pos (l0.mpr c0), if_pos z0, e68, e]
    by_cases c : 17 ≤ nI (oTt s a)
    · rw [if_pos c, if_pos c]
    · rw [if_neg c, if_neg c]
  · obtain ⟨B3, e3, f3⟩ := S227 (d + 3) 0 zu zu T B2 (by omega) hw hc2
    have e3 : zgo false (d + 5) 227 0 [zr 13 0, zi 0, zu, zu] [] B2 = some (some (zi (yTx (fun k => zgI B2 68 0 k) T)), B3) := e3
    have e : yAsk T s a dv m kd (zgI B 13 0 8) (yTc (zgI B 13 0 8) (yLf P sn 0)) (nI (yLf P sn 1)) = yTx (yNp (nI (oTt s a)) (ySo s a) (nI dv) (nI m) kd (zgI B 13 0 8) (yTc (zgI B 13 0 8) (yLf P sn 0)) (nI (yLf P sn 1))) T := if_neg c0
    refine ⟨B3, ?_, zFo_trans (zFo_mono f12 (fun a b c y => ⟨y.2, Or.inl y.1⟩)) (zFo_mono f3 (fun a b c y => by unfold yFm at y; unfold gB3; omega))⟩
    rw [e20, B266_71, if_pos z05, t0, if_neg (mt l0.mp c0), e3, zbsome, zpu1, e, yTx_congr (nm' := yNp (nI (oTt s a)) (ySo s a) (nI dv) (nI m) kd (zgI B 13 0 8) (yTc (zgI B 13 0 8) (yLf P sn 0)) (nI (yLf P sn 1))) hv hw]
/-! what is made of it -/
def yMd (x : Int32) (m q2 : Nat) (tn : Bool) : Nat := if tn = true then (if x = 1 ∨ x = 2 then 0 else 1) else if x = 1 then 1 else if x = 2 then (if m = 2 ∧ q2 = 1 then 2 else 1) else 0
theorem yMd_le (x : Int32) (m q2 : Nat) (tn : Bool) : yMd x m q2 tn ≤ 2 ∧ (yMd x m q2 tn = 2 → m = 2) := by
  unfold yMd
  by_cases c1 : tn = true
  · rw [if_pos c1]
    by_cases c2 : x = 1 ∨ x = 2
    · rw [if_pos c2]
      exact ⟨by omega, fun z => by omega⟩
    · rw [if_neg c2]
      exact ⟨by omega, fun z => by omega⟩
  · rw [if_neg c1]
    by_cases c2 : x = 1
    · rw [if_pos c2]
      exact ⟨by omega, fun z => by omega⟩
    · rw [if_neg c2]
      by_cases c3 : x = 2
      · rw [if_pos c3]
        by_cases c4 : m = 2 ∧ q2 = 1
        · rw [if_pos c4]
          exact ⟨by omega, fun _ => c4.1⟩
        · rw [if_neg c4]
          exact ⟨by omega, fun z => by omega⟩
      · rw [if_neg c3]
        exact ⟨by omega, fun z => by omega⟩
theorem K43 (d di m q2 : Nat) (x : Int32) (tn : Bool) (u3 : zV) {A : zM} (r13 : zgR A 5 0 13 = (4, di)) (h5 : zgI A 4 di 5 = nI m) (hm : m ≤ 20) (h29 : zgI A 29 0 2 = nI q2) (hq : q2 ≤ 1) : zgo false (d + 1) 43 0 [zr 5 0, zi x, zi (bI tn), u3] [] A = some (some (zi (nI (yMd x m q2 tn))), A) := by
  have z4 : Nat.beq (zgR A 5 0 13).1 4 = true := by rw [r13]; rfl
  have c5 : zgI A 4 (zgR A 5 0 13).2 5 = nI m := by rw [r13]; exact h5
  have l2 : nI m = 2 ↔ m = 2 := nI_eq (b := 2) (by omega) (by omega)
  have l1 : nI q2 = 1 ↔ q2 = 1 := nI_eq (b := 1) (by omega) (by omega)
  have e169 : ∀ d, zgo false d 169 0 [zr 29 0, zi 2] [] A = some (some (zi (nI q2)), A) := fun d => (at29n false d 0 2 A (by omega)).trans (by rw [h29])
  have k15 : ∀ b : Bool, (b = true ↔ (x = 1 ∨ x = 2)) → zgo false (d + 1) 43 15 [zr 5 0, zi x, zi (bI tn), u3] [zi (bI b)] A = some (some (zi (nI (yMd x m q2 tn))), A) := by
    intro b hb
    unfold yMd
    rw [B43_15]
    cases tn with
    | true =>
      rw [if_neg (show ¬ bI true = 0 by decide), if_pos rfl]
      cases b with
      | true => rw [if_neg (show ¬ bI true = 0 by decide), if_pos (hb.mp rfl), B43_29]; rfl
      | false => rw [if_pos (show bI false = 0 from rfl), if_neg (fun z => by cases hb.mpr z), B43_29]; rfl
    | false =>
      rw [if_pos (show bI false = 0 from rfl), if_neg (show ¬ false = true by decide)]
      cases b with
      | false =>
        have n := fun z => (by cases hb.mpr z : False)
        rw [if_pos (show bI false = 0 from rfl), if_neg (fun z => n (Or.inl z)), if_neg (fun z => n (Or.inr z))]
        rfl
      | true =>
        rw [if_neg (show ¬ bI true = 0 by decide)]
        by_cases c2 : x = 2
        · rw [if_pos c2, z4, cond_true, c5, if_neg (show ¬ x = 1 by rw [c2]; decide), if_pos c2]
          by_cases c3 : m = 2
          · rw [if_pos (l2.mpr c3), e169, zbsome, zpu1, B43_60]
            by_cases c4 : q2 = 1
            · rw [if_pos (l1.mpr c4), if_pos ⟨c3, c4⟩, B43_69]
              rfl
            · rw [if_neg (mt l1.mp c4), if_neg (fun z => c4 z.2), B43_68, B43_69]
              rfl
          · rw [if_neg (mt l2.mp c3), if_neg (fun z => c3 z.1), B43_68, B43_69]
            rfl
        · have c1 : x = 1 := (hb.mp rfl).resolve_right c2
          rw [if_neg c2, if_pos c1, B43_68, B43_69]
          rfl
  rw [B43_0]
  by_cases c1 : x = 1
  · rw [if_pos c1, B43_10]
    exact k15 true ⟨fun _ => Or.inl c1, fun _ => rfl⟩
  · rw [if_neg c1]
    by_cases c2 : x = 2
    · rw [if_pos c2, B43_10]
      exact k15 true ⟨fun _ => Or.inr c2, fun _ => rfl⟩
    · rw [if_neg c2]
      exact k15 false ⟨fun z => (by cases z), fun z => absurd z (fun y => y.elim c1 c2)⟩
theorem K266b (d m q2 np : Nat) (x : Int32) (tn : Bool) (x1 : Int32) (u2 u3 : zV) {B : zM} (h67 : zgI B 13 0 67 = nI m) (hm : m ≤ 20) (h57 : zgI B 57 0 2 = nI q2) (hq : q2 ≤ 1) (h70 : zgI B 13 0 70 = bI tn) (h68 : zgI B 13 0 68 = nI np) (hnp : np ≤ 20) : zgo false d 266 104 [zr 13 0, zi x1, u2, u3] [zi x] B = some (some (zi (nI (yMd x m q2 (tn && Nat.beq np 0)))), B) := by
  have z24 : zin 2 4 = true := rfl
  have t2 : (2 : Int32).toNatClampNeg = 2 := rfl
  have l2 : nI m = 2 ↔ m = 2 := nI_eq (b := 2) (by omega) (by omega)
  have l0 : nI q2 = 0 ↔ q2 = 0 := nI_eq (b := 0) (by omega) (by omega)
  have ln : nI np = 0 ↔ np = 0 := nI_eq (b := 0) (by omega) (by omega)
  -- the end, from a play y
  have fin : ∀ (y : Nat) (v2 : Int32), y ≤ 2 → (tn = true → np = 0 → (if y = 0 then 1 else 0) = yMd x m q2 (tn && Nat.beq np 0)) → (¬ (tn = true ∧ np = 0) → y = yMd x m q2 (tn && Nat.beq np 0)) → zgo false d 266 145 [zr 13 0, zi x1, zi v2, zi (nI y)] [] B = some (some (zi (nI (yMd x m q2 (tn && Nat.beq np 0)))), B) := by
    intro y v2 hy h1 h2
    have ly : nI y = 0 ↔ y = 0 := nI_eq (b := 0) (by omega) (by omega)
    rw [B266_145, h70, h68]
    cases tn with
    | false =>
      rw [if_pos (show bI false = 0 from rfl), B266_169, ← h2 (fun z => by cases z.1)]
    | true =>
      rw [if_neg (show ¬ bI true = 0 by decide)]
      by_cases c : np = 0
      · have h1 := h1 rfl c
        rw [if_pos (ln.mpr c)]
        by_cases c2 : y = 0
        · rw [if_pos c2] at h1
          rw [if_pos (ly.mpr c2), B266_168, B266_169, ← h1]
          rfl
        · rw [if_neg c2] at h1
          rw [if_neg (mt ly.mp c2), B266_168, B266_169, ← h1]
          rfl
      · rw [if_neg (mt ln.mp c), B266_169, ← h2 (fun z => c z.2)]
  have md : ∀ y : Nat, ((x = 1 ∨ x = 2) ↔ ¬ y = 0) → y = yMd x m q2 false → (tn = true → np = 0 → (if y = 0 then 1 else 0) = yMd x m q2 (tn && Nat.beq np 0)) ∧ (¬ (tn = true ∧ np = 0) → y = yMd x m q2 (tn && Nat.beq np 0)) := by
    intro y hy e
    constructor
    · intro t1 n1
      rw [t1, n1]
      show (if y = 0 then 1 else 0) = (if x = 1 ∨ x = 2 then 0 else 1)
      by_cases c : y = 0
      · rw [if_pos c, if_neg (fun z => hy.mp z c)]
      · rw [if_neg c, if_pos (hy.mpr c)]
    · intro n
      have hb : (tn && Nat.beq np 0) = false := by
        cases tn with
        | false => rfl
        | true =>
          cases hb : Nat.beq np 0 with
          | false => rfl
          | true => exact absurd ⟨rfl, Nat.eq_of_beq_eq_true hb⟩ n
      rw [hb]
      exact e
  rw [B266_104]
  by_cases c1 : x = 1
  · have e : (1 : Nat) = yMd x m q2 false := by
      show 1 = (if x = 1 then 1 else _)
      rw [if_pos c1]
    obtain ⟨m1, m2⟩ := md 1 ⟨fun _ => by omega, fun _ => Or.inl c1⟩ e
    rw [if_pos c1, B266_115, B266_120, if_neg (show ¬ x = 2 by rw [c1]; decide), c1]
    rw [c1] at fin m1 m2
    exact fin 1 1 (by omega) m1 m2
  · rw [if_neg c1]
    by_cases c2 : x = 2
    · rw [if_pos c2, B266_115, B266_120, if_pos c2, h67]
      by_cases c3 : m = 2
      · rw [if_pos (l2.mpr c3), if_pos z24, t2, h57]
        by_cases c4 : q2 = 0
        · have e : (1 : Nat) = yMd x m q2 false := by
            show 1 = (if x = 1 then 1 else if x = 2 then (if m = 2 ∧ q2 = 1 then 2 else 1) else 0)
            rw [if_neg c1, if_pos c2, if_neg (by omega)]
          obtain ⟨m1, m2⟩ := md 1 ⟨fun _ => by omega, fun _ => Or.inr c2⟩ e
          rw [if_pos (l0.mpr c4), B266_143]
          exact fin 1 x (by omega) m1 m2
        · have e : (2 : Nat) = yMd x m q2 false := by
            show 2 = (if x = 1 then 1 else if x = 2 then (if m = 2 ∧ q2 = 1 then 2 else 1) else 0)
            rw [if_neg c1, if_pos c2, if_pos ⟨c3, by omega⟩]
          obtain ⟨m1, m2⟩ := md 2 ⟨fun _ => by omega, fun _ => Or.inr c2⟩ e
          rw [if_neg (mt l0.mp c4)]
          have f := fin 2 x (by omega) m1 m2
          rw [show nI 2 = x from c2.symm] at f
          exact f
      · have e : (1 : Nat) = yMd x m q2 false := by
          show 1 = (if x = 1 then 1 else if x = 2 then (if m = 2 ∧ q2 = 1 then 2 else 1) else 0)
          rw [if_neg c1, if_pos c2, if_neg (fun z => c3 z.1)]
        obtain ⟨m1, m2⟩ := md 1 ⟨fun _ => by omega, fun _ => Or.inr c2⟩ e
        rw [if_neg (mt l2.mp c3), B266_143]
        exact fin 1 x (by omega) m1 m2
    · have e : (0 : Nat) = yMd x m q2 false := by
        show 0 = (if x = 1 then 1 else if x = 2 then (if m = 2 ∧ q2 = 1 then 2 else 1) else 0)
        rw [if_neg c1, if_neg c2]
      obtain ⟨m1, m2⟩ := md 0 ⟨fun z => absurd z (fun y => y.elim c1 c2), fun z => absurd rfl z⟩ e
      rw [if_neg c2, B266_120, if_neg (by decide)]
      exact fin 0 x (by omega) m1 m2
