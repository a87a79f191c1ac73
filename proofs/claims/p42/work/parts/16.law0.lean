/-! ===== THE LAW'S WALK, out of runs of the abstract machine ===== -/
section ZSIM
variable {p : Program} {l : Launch} {e : Env} {R : Room} {s : State} {mi : MethodId} {args : Array Value} {below : List Frame} {meth : Method} {c : Code} {Q : State → Prop}
variable {Z : zZ} {D : va_G} {cy : Nat → ClassId} {H0 : Heap} {bl : Bool} {L : Nat × (Nat → Int32)} {n0 mm : Nat}
variable {M : zM} {al st : List zV} {pc : Nat}
/-- one plain instruction -/
theorem zstepN (cx : zCx p s mi args meth c R mm) (ev : zEv Z D cy H0 L s) {E : zE} {cut : Bool} {pc1 : Nat} {al1 st1 : List zV} {M1 : zM} (hz : zins mm pc = some (E, cut)) (hS : zS bl pc al st M E = some (.inl (pc1, al1, st1, M1))) (hE : znx M1 ≤ n0 + R.cells ∧ zsl (znx M1) ≤ zsl n0 + R.slots) (h : zT p l e R s mi args below meth c Q Z D cy H0 bl L n0 mm M1 al1 st1 pc1) : zT p l e R s mi args below meth c Q Z D cy H0 bl L n0 mm M al st pc := by
  refine z1 cx ev (kN := fun a1 a2 a3 a4 => @ite _ ((a1, a2, a3, a4) = (pc1, al1, st1, M1)) (Classical.propDecidable _) (some (none, M1)) none) (kR := fun _ _ => none) (kC := fun _ _ _ _ _ _ => none) (res := (none, M1)) hz ?_ ?_ ?_ ?_ ?_
  · rw [zX_eq, hS]
    exact if_pos rfl
  · intro a1 a2 a3 a4 h2
    by_cases hc : (a1, a2, a3, a4) = (pc1, al1, st1, M1)
    · cases hc
      exact h
    · have h3 : @ite _ ((a1, a2, a3, a4) = (pc1, al1, st1, M1)) (Classical.propDecidable _) (some ((none : Option zV), M1)) none = _ := h2
      rw [if_neg hc] at h3
      cases h3
  · intro a1 a2 a3 a4 h2
    by_cases hc : (a1, a2, a3, a4) = (pc1, al1, st1, M1)
    · cases hc
      exact hE
    · have h3 : @ite _ ((a1, a2, a3, a4) = (pc1, al1, st1, M1)) (Classical.propDecidable _) (some ((none : Option zV), M1)) none = _ := h2
      rw [if_neg hc] at h3
      cases h3
  · intro v hv
    cases hv
  · intro y as st2 hc
    cases hc
/-- one call -/
theorem zstepC (cx : zCx p s mi args meth c R mm) (ev : zEv Z D cy H0 L s) {E : zE} {cut : Bool} {y d' : Nat} {as st1 : List zV} {r : Option zV} {M' : zM} (hz : zins mm pc = some (E, cut)) (hS : zS bl pc al st M E = some (.inr (.inr (y, as, pc + 3, al, st1, M)))) (hM : zVM bl M → zsv M as → zsc M = L → zMet l Z D cy H0 bl L d' y as M r M') (hroom : d' + 2 ≤ R.frames ∧ 40 * (d' + 2) ≤ R.locals) (hml : zml y ≤ 21) (hle : znx M ≤ znx M') (hE : znx M' ≤ n0 + R.cells ∧ zsl (znx M') ≤ zsl n0 + R.slots)
    (h : zT p l e R s mi args below meth c Q Z D cy H0 bl L n0 mm M' al (zpush r st1) (pc + 3)) : zT p l e R s mi args below meth c Q Z D cy H0 bl L n0 mm M al st pc := by
  refine z1 cx ev (kN := fun _ _ _ _ => none) (kR := fun _ _ => none) (kC := fun a1 a2 a3 a4 a5 a6 => @ite _ ((a1, a2, a5) = (y, as, st1)) (Classical.propDecidable _) (some (none, M)) none) (res := (none, M)) hz ?_ ?_ ?_ ?_ ?_
  · rw [zX_eq, hS]
    exact if_pos rfl
  · intro a1 a2 a3 a4 h2
    cases h2
  · intro a1 a2 a3 a4 h2
    cases h2
  · intro v hv
    cases hv
  · intro y2 as2 st2 hc hs
    by_cases hq : (y2, as2, st2) = (y, as, st1)
    · cases hq
      exact zt_call cx ev hs hM hroom hml hle hE h
    · have h3 : @ite _ ((y2, as2, st2) = (y, as, st1)) (Classical.propDecidable _) (some ((none : Option zV), M)) none = _ := hc
      rw [if_neg hq] at h3
      cases h3
end ZSIM
/-- nothing is made, all is zero -/
def zM0 (L : Nat × (Nat → Int32)) : zM := (fun _ _ _ => 0, fun _ _ _ => 0, fun _ _ _ => (0, 0), 0, L)
/-- what is built is what the table of final references says -/
def zfnl (M : zM) : Prop := ∀ n, n < 453 → ∀ s, s < zsz (zkt n).1 → ((zkt n).1 ≤ 13 ∧ zfr ((zkt n).1 - 1) s = true ∨ zat (zkt n).1 = 6) → zmut (zkt n).1 s = false → zgR M (zkt n).1 (zkt n).2 s = zrt (zkt n).1 (zkt n).2 s
theorem zkt_big : ∀ n, n < 453 → (zkt n).1 ≤ 13 ∨ 17 ≤ (zkt n).1 := by decide +kernel
theorem zsz_ob {k : Nat} (h : k ≤ 13) : zsz k = zNf (k - 1) := by
  unfold zsz
  rw [show Nat.ble k 13 = true from Nat.ble_eq_true_of_le h]
  rfl
theorem zsz_ar {k : Nat} (h : 17 ≤ k) : zsz k = (zka k).2.1 := by
  unfold zsz
  cases hb : Nat.ble k 13 with
  | false => rfl
  | true => have := Nat.le_of_ble_eq_true hb; omega
theorem zgF_fin {M : zM} {k i s : Nat} (h : zmut k s = false → zgR M k i s = zrt k i s) : zgF false M k i s = zgF true M k i s := by
  unfold zgF
  cases hm : zmut k s with
  | true => rfl
  | false => exact (h hm).symm
theorem zW_fin {Z : zZ} {D : va_G} {cy : Nat → ClassId} {H0 H : Heap} {M : zM} (hnx : znx M = 453) (hf : zfnl M) (hW : zW Z D cy H0 true M H) : zW Z D cy H0 false M H := by
  refine ⟨fun n hn => ?_, hW.2⟩
  have h := hW.1 n hn
  rw [hnx] at hn
  rcases zkt_big n hn with hk | hk
  · rw [zen_ob hk] at h ⊢
    have e : (List.range (zNf ((zkt n).1 - 1))).map (zfs Z true M (zkt n).1 (zkt n).2) = (List.range (zNf ((zkt n).1 - 1))).map (zfs Z false M (zkt n).1 (zkt n).2) := by
      refine List.map_congr_left fun s hs => ?_
      have hs := List.mem_range.mp hs
      unfold zfs
      cases hr : zfr ((zkt n).1 - 1) s with
      | false => rfl
      | true =>
        rw [zgF_fin (hf n hn s (by rw [zsz_ob hk]; exact hs) (Or.inl ⟨hk, hr⟩))]
    rw [← e]
    exact h
  · rw [zen_ar hk] at h ⊢
    by_cases h6 : zat (zkt n).1 = 6
    · rw [zco_r h6] at h ⊢
      have h1 : H[Z.1 + n]? = some (vp_cell _ _) := h
      show H[Z.1 + n]? = some (vp_cell _ _)
      rw [h1, vp_cell_q, vp_cell_q]
      refine congrArg some ?_
      unfold arrV
      congr 1
      refine congrArg Array.ofFn (funext fun j => ?_)
      show va_rf (zrf Z (zgF true M (zkt n).1 (zkt n).2 j.val)) = va_rf (zrf Z (zgF false M (zkt n).1 (zkt n).2 j.val))
      rw [zgF_fin (hf n hn j.val (by rw [zsz_ar hk]; exact j.isLt) (Or.inr h6))]
    · by_cases h5 : zat (zkt n).1 = 5
      · rw [zco_l h5] at h ⊢
        exact h
      · rw [zco_i h5 h6] at h ⊢
        exact h
