/-! ===== THE LAW'S WALK, out of runs of the abstract machine ===== -/
section ZSIM
variable {p : Program} {l : Launch} {e : Env} {R : Room} {s : State} {mi : MethodId} {args : Array Value} {below : List Frame} {meth : Method} {c : Code} {Q : State → Prop}
variable {Z : zZ} {D : va_G} {cy : Nat → ClassId} {H0 : Heap} {bl : Bool} {L : Nat × (Nat → Int32)} {n0 mm : Nat}
variable {M : zM} {al st : List zV} {pc : Nat}
/-- one plain instruction -/
theorem zstepN (cx : zCx p s mi args meth c R mm) (ev : zEv Z D cy H0 L s) {E : zE} {cut : Bool} {pc1 : Nat} {al1 st1 : List zV} {M1 : zM} (hz : zins mm pc = some (E, cut)) (hS : zS bl pc al st M E = some (.inl (pc1, al1, st1, M1))) (hE : znx M1 ≤ n0 + R.cells ∧ zsl (znx M1) ≤ zsl n0 + R.slots) (h : zT p l e R s mi args below meth c Q Z D cy H0 bl L n0 mm M1 al1 st1 pc1) : zT p l e R s mi args below meth c Q Z D cy H0 bl L n0 mm M al st pc := by
  refine z1 cx ev (kN := fun a1 a2 a3 a4 => @ite _ ((a1, a2, a3, a4) = (pc1, al1, st1, M1)) (Classical.propDecidable _) (some (none, M1)) none) (kR := fun _ _ => none) (kC := fun _ _ _ _ _ _ => none) (res := (none, M1)) hz ?_ ?_ ?_ ?_ ?_
  · rw [zX_eq, hS]
    exact if_pos rfl
  · intro a1 a2 a3 a4 h2
    by_cases hc : (a1, a2, a3, a4) = (pc1, al1, st1, M1)
    · cases hc
      exact h
    · have h3 : @ite _ ((a1, a2, a3, a4) = (pc1, al1, st1, M1)) (Classical.propDecidable _) (some ((none : Option zV), M1)) none = _ := h2
      rw [if_neg hc] at h3
      cases h3
  · intro a1 a2 a3 a4 h2
    by_cases hc : (a1, a2, a3, a4) = (pc1, al1, st1, M1)
    · cases hc
      exact hE
    · have h3 : @ite _ ((a1, a2, a3, a4) = (pc1, al1, st1, M1)) (Classical.propDecidable _) (some ((none : Option zV), M1)) none = _ := h2
      rw [if_neg hc] at h3
      cases h3
  · intro v hv
    cases hv
  · intro y as st2 hc
    cases hc
/-- one call -/
theorem zstepC (cx : zCx p s mi args meth c R mm) (ev : zEv Z D cy H0 L s) {E : zE} {cut : Bool} {y d' : Nat} {as st1 : List zV} {r : Option zV} {M' : zM} (hz : zins mm pc = some (E, cut)) (hS : zS bl pc al st M E = some (.inr (.inr (y, as, pc + 3, al, st1, M)))) (hM : zVM bl M → zsv M as → zsc M = L → zMet l Z D cy H0 bl L d' y as M r M') (hroom : d' + 2 ≤ R.frames ∧ 40 * (d' + 2) ≤ R.locals) (hml : zml y ≤ 21) (hle : znx M ≤ znx M') (hE : znx M' ≤ n0 + R.cells ∧ zsl (znx M') ≤ zsl n0 + R.slots)
    (h : zT p l e R s mi args below meth c Q Z D cy H0 bl L n0 mm M' al (zpush r st1) (pc + 3)) : zT p l e R s mi args below meth c Q Z D cy H0 bl L n0 mm M al st pc := by
  refine z1 cx ev (kN := fun _ _ _ _ => none) (kR := fun _ _ => none) (kC := fun a1 a2 a3 a4 a5 a6 => @ite _ ((a1, a2, a5) = (y, as, st1)) (Classical.propDecidable _) (some (none, M)) none) (res := (none, M)) hz ?_ ?_ ?_ ?_ ?_
  · rw [zX_eq, hS]
    exact if_pos rfl
  · intro a1 a2 a3 a4 h2
    cases h2
  · intro a1 a2 a3 a4 h2
    cases h2
  · intro v hv
    cases hv
  · intro y2 as2 st2 hc hs
    by_cases hq : (y2, as2, st2) = (y, as, st1)
    · cases hq
      exact zt_call cx ev hs hM hroom hml hle hE h
    · have h3 : @ite _ ((y2, as2, st2) = (y, as, st1)) (Classical.propDecidable _) (some ((none : Option zV), M)) none = _ := hc
      rw [if_neg hq] at h3
      cases h3
end ZSIM
/-- nothing is made, all is zero -/
def zM0 (L : Nat × (Nat → Int32)) : zM := (fun _ _ _ => 0, fun _ _ _ => 0, fun _ _ _ => (0, 0), 0, L)
/-- what is built is what the table of final references says -/
def zfnl (M : zM) : Prop := ∀ n, n < 510 → ∀ s, s < zsz (zkt n).1 → ((zkt n).1 ≤ 13 ∧ zfr ((zkt n).1 - 1) s = true ∨ zat (zkt n).1 = 6) → zmut (zkt n).1 s = false → zgR M (zkt n).1 (zkt n).2 s = zrt (zkt n).1 (zkt n).2 s
theorem zkt_big : ∀ n, n < 510 → (zkt n).1 ≤ 13 ∨ 17 ≤ (zkt n).1 := by decide +kernel
theorem zsz_ob {k : Nat} (h : k ≤ 13) : zsz k = zNf (k - 1) := by
  unfold zsz
  rw [show Nat.ble k 13 = true from Nat.ble_eq_true_of_le h]
  rfl
theorem zsz_ar {k : Nat} (h : 17 ≤ k) : zsz k = (zka k).2.1 := by
  unfold zsz
  cases hb : Nat.ble k 13 with
  | false => rfl
  | true => have := Nat.le_of_ble_eq_true hb; omega
theorem zgF_fin {M : zM} {k i s : Nat} (h : zmut k s = false → zgR M k i s = zrt k i s) : zgF false M k i s = zgF true M k i s := by
  unfold zgF
  cases hm : zmut k s with
  | true => rfl
  | false => exact (h hm).symm
theorem zW_fin {Z : zZ} {D : va_G} {cy : Nat → ClassId} {H0 H : Heap} {M : zM} (hnx : znx M = 510) (hf : zfnl M) (hW : zW Z D cy H0 true M H) : zW Z D cy H0 false M H := by
  refine ⟨fun n hn => ?_, hW.2⟩
  have h := hW.1 n hn
  rw [hnx] at hn
  rcases zkt_big n hn with hk | hk
  · rw [zen_ob hk] at h ⊢
    have e : (List.range (zNf ((zkt n).1 - 1))).map (zfs Z true M (zkt n).1 (zkt n).2) = (List.range (zNf ((zkt n).1 - 1))).map (zfs Z false M (zkt n).1 (zkt n).2) := by
      refine List.map_congr_left fun s hs => ?_
      have hs := List.mem_range.mp hs
      unfold zfs
      cases hr : zfr ((zkt n).1 - 1) s with
      | false => rfl
      | true =>
        rw [zgF_fin (hf n hn s (by rw [zsz_ob hk]; exact hs) (Or.inl ⟨hk, hr⟩))]
    rw [← e]
    exact h
  · rw [zen_ar hk] at h ⊢
    by_cases h6 : zat (zkt n).1 = 6
    · rw [zco_r h6] at h ⊢
      have h1 : H[Z.1 + n]? = some (vp_cell _ _) := h
      show H[Z.1 + n]? = some (vp_cell _ _)
      rw [h1, vp_cell_q, vp_cell_q]
      refine congrArg some ?_
      unfold arrV
      congr 1
      refine congrArg Array.ofFn (funext fun j => ?_)
      show va_rf (zrf Z (zgF true M (zkt n).1 (zkt n).2 j.val)) = va_rf (zrf Z (zgF false M (zkt n).1 (zkt n).2 j.val))
      rw [zgF_fin (hf n hn j.val (by rw [zsz_ar hk]; exact j.isLt) (Or.inr h6))]
    · by_cases h5 : zat (zkt n).1 = 5
      · rw [zco_l h5] at h ⊢
        exact h
      · rw [zco_i h5 h6] at h ⊢
        exact h
/-- all that is owed: runs of the abstract machine -/
def zOwed (L : Nat × (Nat → Int32)) : Prop := ∃ (d n : Nat) (M1 M2 M3 : zM), d ≤ 1000 ∧ zrun true n d 129 0 (zpad (zml 129) (zargs [zr 12 0])) [] (znew (zM0 L) 12 0) = some (none, M1) ∧ znx M1 = 450 ∧ zrun true n d 192 0 (zpad (zml 192) (zargs [zr 13 0])) [] (znew M1 13 0) = some (none, M2) ∧ znx M2 = 510 ∧ zfnl M2 ∧
  zrun false n d 313 16 [zr 16 0, zr 12 0, zr 13 0, zu] [] M2 = some (some (zi 1), M3) ∧ znx M3 = 510
theorem zsl510 : zsl 510 ≤ 7302250 := by decide +kernel
set_option maxHeartbeats 4000000 in
theorem zlaw {p : Program} {e : Env} {s : State} {m : MethodId} {below : List Frame} {meth : Method} {c : Code} (l : Launch) {b Ln : Nat} {xs : Nat → Int32} (C0 : lw_At p s m meth c b Ln xs) (hO : zOwed (Ln, xs)) : W p l e room_1 s m #[Value.ref b] below meth c s.heap [] 0 0 (lw_Z below #[Value.ref b] s) (entryFrame m ([Value.ref b] : List Value).toArray 4) := by
  obtain ⟨c1, c2, c3, c4, c5, c6, c7, c8, c9, c10⟩ := C0
  obtain ⟨Z, D, cy, hZ1, hZ2, ev⟩ := zEv_start c6 c7 c10
  obtain ⟨d, n, M1, M2, M3, hd, r1, x1, r2, x2, hf, r3, x3⟩ := hO
  have hts : ∀ w ∈ zTs, w.before #[Value.ref b] s = true := fun w hw => c6 w (List.mem_filter.mp hw).1
  have cx : zCx p s m #[Value.ref b] meth c room_1 313 := ⟨c1, c2, c4, c5, hts, c3, c9, fun h => absurd h (by decide +kernel), by decide, by decide⟩
  have hb : ∀ k, k ≤ 510 → k ≤ 0 + room_1.cells ∧ zsl k ≤ zsl 0 + room_1.slots := by
    intro k hk
    have h1 := zsl_le hk
    have h2 := zsl510
    show k ≤ 0 + 600000 ∧ zsl k ≤ 0 + 7302250
    omega
  have hroom : d + 2 ≤ room_1.frames ∧ 40 * (d + 2) ≤ room_1.locals := by
    show d + 2 ≤ 2048 ∧ 40 * (d + 2) ≤ 84000
    omega
  have t16 : zT p l e room_1 s m #[Value.ref b] below meth c (lw_Z below #[Value.ref b] s) Z D cy s.heap false (Ln, xs) 0 313 M2 [zr 16 0, zr 12 0, zr 13 0, zu] [] 16 := by
    refine zwalk (d := d) (res := (some (zi 1), M3)) cx ev ⟨by omega, by omega⟩ (hb _ (Nat.le_of_eq x3)) (fun pc al st hs => ?_) n (fun k _ d' y as M r M' hrun ok sv wt vm hl => zmet k d' y as M r M' hrun ok sv wt vm hl) 16 _ _ _ r3
    intro H locs cells slots ls hI
    obtain ⟨i1, i2, i3, i4, i5, i6, i7, i8, i9⟩ := hI
    rcases hs with ⟨x, ty, hv, rfl, hdg, h1, h2⟩ | ⟨x, hv, -⟩ | ⟨q, nm, hv, -⟩ | ⟨hv, -⟩
    · cases hv
      have i7 : cells + 0 = znx M3 := i7
      have i8 : slots + 0 = zsl (znx M3) := i8
      rw [x3] at i7 i8
      have h510 := zsl510
      refine va_forget (fun q hq => by have h := i6 q hq; rw [hZ1] at h; exact h) ?_
      exact W.widen (k := 600000) (n := 7302250) (by omega) (by omega) (lw_ret c1 c2 c3 c9 hdg)
    · cases hv
    · cases hv
    · cases hv
  have t16b : zT p l e room_1 s m #[Value.ref b] below meth c (lw_Z below #[Value.ref b] s) Z D cy s.heap true (Ln, xs) 0 313 M2 [zr 16 0, zr 12 0, zr 13 0, zu] [] 16 := by
    intro H locs cells slots ls hI
    obtain ⟨i1, i2, i3⟩ := hI
    exact t16 H locs cells slots ls ⟨zW_fin x2 hf i1, ⟨i2.1, i2.2.1, fun _ => x2⟩, i3⟩
  have n1 : znx (znew (zM0 (Ln, xs)) 12 0) ≤ znx M1 := zrun_nx true n _ _ _ _ _ _ _ r1
  have n2 : znx (znew M1 13 0) ≤ znx M2 := zrun_nx true n _ _ _ _ _ _ _ r2
  have t8 : zT p l e room_1 s m #[Value.ref b] below meth c (lw_Z below #[Value.ref b] s) Z D cy s.heap true (Ln, xs) 0 313 M1 [zr 16 0, zr 12 0, zu, zu] [] 8 := by
    refine zstepN cx ev (E := (.new 10, 11, (13, 0, 0), 0, 0, [])) (pc1 := 11) (al1 := [zr 16 0, zr 12 0, zu, zu]) (st1 := [zr 13 0]) (M1 := znew M1 13 0) rfl ?_ (hb _ (by show znx M1 + 1 ≤ 510; omega)) ?_
    · show (bif true && Nat.beq (zkt (znx M1)).1 13 then some (Sum.inl (11, [zr 16 0, zr 12 0, zu, zu], zp (zkt (znx M1)) :: [], znew M1 (zkt (znx M1)).1 (zkt (znx M1)).2)) else none) = _
      rw [x1]
      rfl
    refine zstepN cx ev (E := (.dup, 12, (0, 0, 0), 0, 0, [])) (pc1 := 12) (al1 := [zr 16 0, zr 12 0, zu, zu]) (st1 := [zr 13 0, zr 13 0]) (M1 := znew M1 13 0) rfl rfl (hb _ (by show znx M1 + 1 ≤ 510; omega)) ?_
    refine zstepC cx ev (E := (.invokespecial 12, 15, (192, 1, 13), 0, 0, [])) (y := 192) (d' := d) (as := [zr 13 0]) (st1 := [zr 13 0]) (r := none) (M' := M2) rfl rfl (fun h1 h2 h3 => zmet n d 192 _ _ _ _ r2 zM192 h2 (by decide) h1 h3) hroom (by decide) n2 (hb _ (Nat.le_of_eq x2)) ?_
    exact zstepN cx ev (E := (.astore_n 2, 16, (2, 0, 0), 0, 0, [])) (pc1 := 16) (al1 := [zr 16 0, zr 12 0, zr 13 0, zu]) (st1 := []) (M1 := M2) rfl rfl (hb _ (Nat.le_of_eq x2)) t16b
  have t0 : zT p l e room_1 s m #[Value.ref b] below meth c (lw_Z below #[Value.ref b] s) Z D cy s.heap true (Ln, xs) 0 313 (zM0 (Ln, xs)) [zr 16 0, zu, zu, zu] [] 0 := by
    refine zstepN cx ev (E := (.new 7, 3, (12, 0, 0), 0, 0, [])) (pc1 := 3) (al1 := [zr 16 0, zu, zu, zu]) (st1 := [zr 12 0]) (M1 := znew (zM0 (Ln, xs)) 12 0) rfl rfl (hb _ (by show 0 + 1 ≤ 510; omega)) ?_
    refine zstepN cx ev (E := (.dup, 4, (0, 0, 0), 0, 0, [])) (pc1 := 4) (al1 := [zr 16 0, zu, zu, zu]) (st1 := [zr 12 0, zr 12 0]) (M1 := znew (zM0 (Ln, xs)) 12 0) rfl rfl (hb _ (by show 0 + 1 ≤ 510; omega)) ?_
    refine zstepC cx ev (E := (.invokespecial 9, 7, (129, 1, 12), 0, 0, [])) (y := 129) (d' := d) (as := [zr 12 0]) (st1 := [zr 12 0]) (r := none) (M' := M1) rfl rfl (fun h1 h2 h3 => zmet n d 129 _ _ _ _ r1 zM129 h2 (by decide) h1 h3) hroom (by decide) n1 (hb _ (by rw [x1]; decide)) ?_
    exact zstepN cx ev (E := (.astore_n 1, 8, (1, 0, 0), 0, 0, [])) (pc1 := 8) (al1 := [zr 16 0, zr 12 0, zu, zu]) (st1 := []) (M1 := M1) rfl rfl (hb _ (by rw [x1]; decide)) t8
  have hcv : zcv Z (zr 16 0) = .ref b := by
    rw [← hZ2]
    exact zcv_ref Z (q := (16, 0)) (by decide)
  have hLR := zLR_entry Z (as := [zr 16 0]) (n := 4) (by decide)
  have hfr := lg_entry_eq m ([zr 16 0].map (zcv Z)) 4
  rw [show [zr 16 0].map (zcv Z) = [Value.ref b] by rw [List.map_cons, hcv]; rfl] at hLR hfr
  rw [hfr]
  exact t0 s.heap [] 0 0 _ ⟨⟨fun k hk => absurd hk (Nat.not_lt_zero k), by show s.heap.size = Z.1 + 0; rw [hZ1]; rfl, fun _ _ => rfl⟩, ⟨fun _ _ _ => Or.inl rfl, Nat.zero_le _, fun h => by cases h⟩, hLR, ⟨Or.inr (Or.inl ⟨by decide, by decide, rfl⟩), trivial, trivial, trivial, trivial⟩, trivial, (fun q h => by cases h), rfl, rfl, rfl⟩
