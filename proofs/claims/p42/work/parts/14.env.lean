/-! ===== THE START: what the law's entry says of the tables, as the walk wants it ===== -/
theorem znw_of {w : Cond} (hw : znw w = true) {A : Array Value} {U : State} (h : w.before A U = true) : va_Nw w U := by
  match w, hw, h with
  | .fieldLinkNest .., _, h => exact va_Nw.of rfl h
  | .methodLinkNest .., _, h => exact va_Nw.of rfl h
theorem zNl_all : ∀ c, c < 12 → ∃ e ∈ zNl, e.2.2 = c + 1 := by decide +kernel
theorem zat_kinds : ∀ k, k < 117 → 17 ≤ k → zcn k ≠ 0 → zat k = 1 ∨ zat k = 5 ∨ zat k = 6 := by decide +kernel
theorem zak_ft {k k' : Nat} (h1 : k < 117) (h2 : k' < 117) (h0 : zat k ≠ 0) (h : zak k = zak k') : zft k = zft k' := by
  have f1 := zat_fix k h1
  have f2 := zat_fix k' h2
  unfold zak at h
  by_cases a : zat k = 6
  · by_cases b : zat k' = 6
    · rw [a, b] at h
      have h : 6 + zek k = 6 + zek k' := h
      rw [zft_r a, zft_r b, show zek k = zek k' by omega]
    · rw [a, zb_ne b] at h
      have h : 6 + zek k = zat k' := h
      have := f1.2.2.2.1 a
      have := f2.2.2.2.2.2.2.1
      omega
  · by_cases b : zat k' = 6
    · rw [b, zb_ne a] at h
      have h : zat k = 6 + zek k' := h
      have := f2.2.2.2.1 b
      have := f1.2.2.2.2.2.2.1
      omega
    · rw [zb_ne a, zb_ne b] at h
      have h : zat k = zat k' := h
      have hle := f1.2.2.2.2.2.2.1
      unfold zft
      rw [← h]
      generalize zat k = t at *
      have ht : t = 1 ∨ t = 2 ∨ t = 3 ∨ t = 4 ∨ t = 5 := by omega
      rcases ht with rfl | rfl | rfl | rfl | rfl <;> rfl
theorem zarr_prim {s : State} {args : Array Value} {ty : FieldType} (h : (Cond.arrayClass ty).before args s = true) (hp : match ty with | .object _ => False | _ => True) : ∃ cA : ClassId, ArrOfT s cA ty ∧ va_RA s cA ty := by
  obtain ⟨cA, kA, comp, h1, h2, h3⟩ := Cond.arrayClass_spec (args := args) (first := s) (o := none) (idx := []) h
  refine ⟨cA, fun n z => ⟨(fun q e => by cases e), kA, h2, comp, h3⟩, ?_⟩
  cases ty <;> first | exact h1 | exact hp.elim
theorem zarr_obj {s : State} {args : Array Value} {C : String} (h : (Cond.arrayOver (.object C)).before args s = true) : ∃ cA : ClassId, ArrOfT s cA (.object C) ∧ va_RA s cA (.object C) := by
  obtain ⟨comp, cA, kA, h1, -, h3, h4, h5⟩ := Cond.arrayOver_spec (args := args) (first := s) (o := none) (idx := []) h
  exact ⟨cA, fun n z => ⟨(fun q e => by cases e), kA, h3, comp, h4⟩, kA, comp, h3, h4, h1, h5⟩
def zbt : List Int32 := [112, 97, 100, 110, 118, 98, 108, 119, 114, 99, 116, 115]
theorem zbt_ok : ∀ j : Nat, j < 12 → Cond.eq (.elem (.field (.string "CardsGone$Reader" 63) "java/lang/String" "value" "[B") (.int (Int32.ofNat j))) (.int (([zbt].getD 0 []).getD j 0)) ∈ flatC (Jvm.Cond.and given_1 narrow_1) := by decide +kernel
set_option maxHeartbeats 4000000 in
theorem zEv_start {s : State} {b Ln : Nat} {xs : Nat → Int32} (hts0 : ∀ w ∈ lw_tbl, w.before #[Value.ref b] s = true) (hX : va_X b Ln xs s s.heap) (hgv : (Jvm.Cond.and given_1 narrow_1).before #[Value.ref b] s = true) :
    ∃ (Z : zZ) (D : va_G) (cy : Nat → ClassId), Z.1 = s.heap.size ∧ Z.2.1 = b ∧ zEv Z D cy s.heap (Ln, xs) s := by
  have hts : ∀ w ∈ zTs, w.before #[Value.ref b] s = true := fun w hw => hts0 w (List.mem_filter.mp hw).1
  have htt : ∀ w ∈ tables_1, w.before #[Value.ref b] s = true := fun w hw => hts0 w (List.mem_append_right _ hw)
  have hs := flat_of_before _ hgv
  have hcl : ∀ c : Nat, ∃ r : ClassId × (Nat → Nat), ∀ q : vw_C, zCl[c]? = some q → u_Kn s q.1 q.2.1 q.2.2 r.1 r.2 := by
    intro c
    by_cases hc : c < 12
    · obtain ⟨⟨C, T, N⟩, hq⟩ : ∃ q, zCl[c]? = some q := ⟨_, List.getElem?_eq_getElem (by show c < 12; omega)⟩
      obtain ⟨e, he, he2⟩ := zNl_all c hc
      obtain ⟨-, w2, -⟩ := zNl_ok e he
      rw [he2] at w2
      have hNf : zNf (c + 1 - 1) = N := zNf_of (k := c + 1) hq
      have hCn : zCn (c + 1) = C := by unfold zCn; rw [show c + 1 - 1 = c by omega, hq]; rfl
      rw [hNf, hCn] at w2
      obtain ⟨cC, iS, h⟩ := u_known (args := #[Value.ref b]) hts (zwl c _ hq) (hts _ w2)
      refine ⟨(cC, iS), fun q hq2 => ?_⟩
      rw [hq] at hq2
      cases hq2
      exact h
    · exact ⟨(0, fun _ => 0), fun q hq => by rw [List.getElem?_eq_none (by show 12 ≤ c; omega)] at hq; cases hq⟩
  obtain ⟨r, hr⟩ := Classical.axiomOfChoice hcl
  have har1 : ∀ k, 17 ≤ k → k < 117 → zcn k ≠ 0 → zat k ≠ 0 → ∃ cA : ClassId, ArrOfT s cA (zft k) ∧ va_RA s cA (zft k) := by
    intro k h17 h117 hn h0
    rcases zat_kinds k h117 h17 hn with h | h | h
    · rw [zft_of h rfl]; exact zarr_prim (hts _ zAc_int) trivial
    · rw [zft_of h rfl]; exact zarr_prim (hts _ zAc_long) trivial
    · rw [zft_r h]
      rcases zek_ok h117 h with e | e | e <;> rw [e]
      · exact zarr_obj (htt _ zAo_X1)
      · exact zarr_obj (htt _ zAo_X3)
      · exact zarr_obj (htt _ zAo_X8)
  have har : ∀ t : Nat, ∃ cA : ClassId, ∀ k, 17 ≤ k → zcn k ≠ 0 → zat k ≠ 0 → zak k = t → ArrOfT s cA (zft k) ∧ va_RA s cA (zft k) := by
    intro t
    by_cases hk : ∃ k, 17 ≤ k ∧ zcn k ≠ 0 ∧ zat k ≠ 0 ∧ zak k = t
    · obtain ⟨k, h17, hn, h0, ht⟩ := hk
      have h117 : k < 117 := by
        rcases Nat.lt_or_ge k 117 with q | q
        · exact q
        · exact absurd (zat_out q) h0
      obtain ⟨cA, h⟩ := har1 k h17 h117 hn h0
      refine ⟨cA, fun k2 g1 gn g2 g3 => ?_⟩
      have h117' : k2 < 117 := by
        rcases Nat.lt_or_ge k2 117 with q | q
        · exact q
        · exact absurd (zat_out q) g2
      rw [zak_ft h117' h117 g2 (g3.trans ht.symm)]
      exact h
    · exact ⟨0, fun k h1 hn h2 h3 => absurd ⟨k, h1, hn, h2, h3⟩ hk⟩
  obtain ⟨cy, hcy⟩ := Classical.axiomOfChoice har
  have hA : ∀ a : Nat, a < s.heap.size → ¬ (s.heap.size ≤ a) := fun a h => by omega
  obtain ⟨adK, adV, hS, hE⟩ := vk_Sof (args := #[Value.ref b]) (s := s) (N := 1) (tm := fun _ => .string "CardsGone$Reader" 63) (len := [12]) (byt := [zbt]) (A := fun q => s.heap.size ≤ q) (by decide)
    (fun i _ => hs _ (by decide +kernel)) (fun i _ => hs _ (by decide +kernel)) (fun i _ => hs _ (by decide +kernel))
    (fun i hi => by have e : i = 0 := by omega
                    subst e
                    exact hs _ (by decide +kernel))
    (fun i hi j hj => by have e : i = 0 := by omega
                         subst e
                         exact hs _ (zbt_ok j hj))
    (fun i j hi hj hne => by omega) hA
  have hini : Cond.initialized "java/lang/String" ∈ zTs := zM315.2.2.1
  refine ⟨(s.heap.size, b, adK 0, adV 0), (fun c => (r c).1, fun c => (r c).2), cy, rfl, rfl, fun w hw hz => znw_of hz (htt w hw), vk_R.of (htt _ zSr) (hE 0 (by decide)), ⟨fun c q hq => hr c q hq, fun k q hk => by simp at hk⟩, fun k h1 hn h2 => hcy _ k h1 hn h2 rfl, hX, ?_, va_Zof (htt _ zLs) (hts _ hini) (va_eqi (hs _ (by decide +kernel))) hA, ⟨va_AO.of (htt _ zAo_X1), va_AO.of (htt _ zAo_X3), va_AO.of (htt _ zAo_X8)⟩, rfl⟩
  refine ⟨fun i hi => ?_, fun i j hi hj _ => by omega⟩
  have e : i = 0 := by omega
  subst e
  exact hS.1 0 (by decide)
