/-! ===== THE WALK, THREE: stores into arrays, new cells, returns, calls; by program (wip/p42/gen_sim3.py) ===== -/
theorem zcell_I {cA : ClassId} {N : Nat} {M : zM} {k i J : Nat} {x : Int32} : (arrV cA N (fun j => .int (zgI M k i j))).setSlot J (.int x) = arrV cA N (fun j => .int (zgI (zsI M k i J x) k i j)) := by
  rw [arrV_store]
  congr 1
  funext y
  show (if y = J then Value.int x else .int (zgI M k i y)) = .int (if k = k ∧ i = i ∧ y = J then x else M.1 k i y)
  by_cases hy : y = J
  · rw [if_pos hy, if_pos ⟨rfl, rfl, hy⟩]
  · rw [if_neg hy, if_neg (fun q => hy q.2.2)]
    rfl
theorem zcell_L {cA : ClassId} {N : Nat} {M : zM} {k i J : Nat} {x : Int64} : (arrV cA N (fun j => .long (zgL M k i j))).setSlot J (.long x) = arrV cA N (fun j => .long (zgL (zsL M k i J x) k i j)) := by
  rw [arrV_store]
  congr 1
  funext y
  show (if y = J then Value.long x else .long (zgL M k i y)) = .long (if k = k ∧ i = i ∧ y = J then x else M.2.1 k i y)
  by_cases hy : y = J
  · rw [if_pos hy, if_pos ⟨rfl, rfl, hy⟩]
  · rw [if_neg hy, if_neg (fun q => hy q.2.2)]
    rfl
theorem zcell_R {Z : zZ} {cA : ClassId} {N : Nat} {M : zM} {k i J : Nat} {x : Nat × Nat} : (arrV cA N (fun j => va_rf (zrf Z (zgF true M k i j)))).setSlot J (va_rf (zrf Z x)) = arrV cA N (fun j => va_rf (zrf Z (zgF true (zsR M k i J x) k i j))) := by
  rw [arrV_store]
  congr 1
  funext y
  show (if y = J then va_rf (zrf Z x) else va_rf (zrf Z (M.2.2.1 k i y))) = va_rf (zrf Z (if k = k ∧ i = i ∧ y = J then x else M.2.2.1 k i y))
  by_cases hy : y = J
  · rw [if_pos hy, if_pos ⟨rfl, rfl, hy⟩]
  · rw [if_neg hy, if_neg (fun q => hy q.2.2)]
theorem zwt_sum {Z : zZ} : ∀ l : List zV, ((l.map (zcv Z)).map fun v => v.category).sum = zwt l
  | [] => rfl
  | .inl x :: r => by
    have := zwt_sum (Z := Z) r
    simp only [List.map_cons, List.sum_cons, zwt, this]
    rfl
  | .inr (.inl x) :: r => by
    have := zwt_sum (Z := Z) r
    simp only [List.map_cons, List.sum_cons, zwt, this]
    rfl
  | .inr (.inr (.inl q)) :: r => by
    have := zwt_sum (Z := Z) r
    simp only [List.map_cons, List.sum_cons, zwt, this]
    rw [show (zcv Z (.inr (.inr (.inl q)))).category = 1 from zcv_cat Z q]
  | .inr (.inr (.inr u)) :: r => by
    have := zwt_sum (Z := Z) r
    simp only [List.map_cons, List.sum_cons, zwt, this]
    rfl
/-- what stands where a method returns -/
def zRs (mm pc : Nat) (st : List zV) (v : Option zV) : Prop :=
  (∃ x ty, v = some (zi x) ∧ st = [zi x] ∧ decode (zby mm) pc = .ok (.ireturn, 1) ∧ zre1 mm = some ty ∧ narrow ty (.int x) = .int x) ∨ (∃ x, v = some (zl x) ∧ st = [zl x] ∧ decode (zby mm) pc = .ok (.lreturn, 1) ∧ zre1 mm = some .long) ∨ (∃ q nm, v = some (zp q) ∧ st = [zp q] ∧ decode (zby mm) pc = .ok (.areturn, 1) ∧ zre1 mm = some (.object nm)) ∨ (v = none ∧ st = [] ∧ decode (zby mm) pc = .ok (.return_, 1) ∧ zre1 mm = none)
/-- .. and where it calls -/
def zCq (mm pc y : Nat) (as st' st : List zV) : Prop := ∃ i g nest : Nat, zLok (zcm mm) (i, y, g, nest) ∧ st = as.reverse ++ st' ∧ zok st = true ∧ zwt st' ≤ 8 ∧ zwt as.reverse ≤ zml y ∧ zrk g as = true ∧
  ((decode (zby mm) pc = .ok (.invokevirtual i, 3) ∧ g ≠ 0 ∧ (zyn y).name ≠ "<init>" ∧ as.length = znp y + 1) ∨ (decode (zby mm) pc = .ok (.invokestatic i, 3) ∧ g = 0 ∧ as.length = znp y) ∨ (decode (zby mm) pc = .ok (.invokespecial i, 3) ∧ g ≠ 0 ∧ (zyn y).name = "<init>" ∧ zre1 y = none ∧ as.length = znp y + 1))
theorem zL_any {c i a g : Nat} (h : (zat2 [] c zLc).any (fun e => Nat.beq e.1 i && (Nat.beq e.2.1 a && Nat.beq e.2.2.1 g)) = true) : ∃ nest, zLok c (i, a, g, nest) := by
  obtain ⟨⟨e1, e2, e3, e4⟩, he, h1⟩ := List.any_eq_true.mp h
  simp only [Bool.and_eq_true] at h1
  obtain ⟨h1, h2, h3⟩ := h1
  have q1 := zb_eq h1
  have q2 := zb_eq h2
  have q3 := zb_eq h3
  subst q1; subst q2; subst q3
  exact ⟨e4, zLc_ok c _ he⟩
theorem ztake_drop {d : Nat} {st : List zV} : st = ((st.take d).reverse).reverse ++ st.drop d := by rw [List.reverse_reverse, List.take_append_drop]
theorem zw_in {w : Cond} (h : w ∈ zTs) : (w.onTables && w.keeps) = true ∨ ∃ ty, w = .arrayClass ty := good_of_word (List.mem_filter.mp h).2
theorem zNl12 : ∀ e ∈ zNl, e.2.2 ≤ 12 := by decide
theorem zat_real : ∀ n, n < 453 → zat (zkt n).1 ≠ 3 ∧ zat (zkt n).1 ≠ 4 := by decide +kernel
theorem zaux {k t : Nat} (h : zat k = t) (ht : t ≠ 5 ∧ t ≠ 6) : zat k ≠ 5 ∧ zat k ≠ 6 := by rw [h]; exact ht
def zfII {β : Type} (l : List zV) (f : Int32 → Int32 → List zV → Option β) : Option β := match l with
  | .inl y :: .inl x :: r => f y x r
  | _ => none
def zfP {β : Type} (l : List zV) (f : Nat × Nat → List zV → Option β) : Option β := match l with
  | .inr (.inr (.inl q)) :: r => f q r
  | _ => none
section ZSIM
variable {p : Program} {l : Launch} {e : Env} {R : Room} {s : State} {mi : MethodId} {args : Array Value} {below : List Frame} {meth : Method} {c : Code} {Q : State → Prop}
variable {Z : zZ} {D : va_G} {cy : Nat → ClassId} {H0 : Heap} {bl : Bool} {L : Nat × (Nat → Int32)} {n0 mm : Nat}
variable {M : zM} {al st st' : List zV} {pc pc' : Nat}
/-- a new cell -/
theorem zI_new {H H1 : Heap} {locs : List Loc} {cells slots : Nat} {ls : Array Slot} (hI : zI Z D cy H0 bl L n0 mm M al st H locs cells slots ls) (hbl : bl = true) (hn : znx M < 453) (hs : zsv M st → zsv M st') (hat : va_at D zCl (Z.1 + znx M, zen Z cy bl (znew M (zkt (znx M)).1 (zkt (znx M)).2) (zkt (znx M)).1 (zkt (znx M)).2) H1) (hz : H1.size = H.size + 1) (oq : ∀ q : Nat, q < H.size → H1[q]? = H[q]?) :
    zI Z D cy H0 bl L n0 mm (znew M (zkt (znx M)).1 (zkt (znx M)).2) al (zp (zkt (znx M)) :: st') H1 locs (cells + 1) (slots + zsz (zkt (znx M)).1) ls := by
  obtain ⟨i1, i2, i3, i4, i5, i6, i7, i8, i9⟩ := hI
  have hle : znx M ≤ znx (znew M (zkt (znx M)).1 (zkt (znx M)).2) := Nat.le_succ _
  obtain ⟨f1, f2, f3⟩ := zpo_zkt (znx M) hn
  refine ⟨zW_new i1 hn hat hz oq, zVM_new i2 hbl hn _ _, i3, zsv_le hle i4, ⟨Or.inr (Or.inr ⟨f2, f3, ?_⟩), zsv_le hle (hs i5)⟩, i6, ?_, ?_, i9⟩
  · show zpo _ _ < znx M + 1
    omega
  · show cells + 1 + n0 = znx M + 1
    omega
  · show slots + zsz (zkt (znx M)).1 + zsl n0 = zsl (znx M) + zsz (zkt (znx M)).1
    omega
theorem zad_new {H : Heap} (hW : zW Z D cy H0 bl M H) (hn : znx M < 453) : zad Z (zkt (znx M)).1 (zkt (znx M)).2 = H.size ∧ H.size = Z.1 + znx M ∧ (zkt (znx M)).1 < 117 ∧ (zkt (znx M)).1 ≠ 0 ∧ ¬ (14 ≤ (zkt (znx M)).1 ∧ (zkt (znx M)).1 ≤ 16) := by
  obtain ⟨f1, f2, f3⟩ := zpo_zkt (znx M) hn
  obtain ⟨-, -, h0, h1⟩ := zkt_zpo1 _ f2 _ f3
  refine ⟨?_, hW.2.1, f2, h0, h1⟩
  rw [zad_in Z h1, f1, hW.2.1]
theorem zkt_lt {k : Nat} (h : (zkt (znx M)).1 = k) (hk : k ≠ 0) : znx M < 453 := by
  rcases Nat.lt_or_ge (znx M) 453 with q | q
  · exact q
  · rw [zkt_out (by omega)] at h
    exact absurd h.symm hk
theorem zgI_new {k i j : Nat} : zgI (znew M k i) k i j = 0 := by
  show (if k = k ∧ i = i then (0 : Int32) else _) = 0
  rw [if_pos ⟨rfl, rfl⟩]
theorem zgL_new {k i j : Nat} : zgL (znew M k i) k i j = 0 := by
  show (if k = k ∧ i = i then (0 : Int64) else _) = 0
  rw [if_pos ⟨rfl, rfl⟩]
theorem zgF_new {k i j : Nat} : zgF true (znew M k i) k i j = (0, 0) := by
  show (if k = k ∧ i = i then ((0, 0) : Nat × Nat) else _) = (0, 0)
  rw [if_pos ⟨rfl, rfl⟩]
variable {kN : Nat → List zV → List zV → zM → Option (Option zV × zM)} {kR : Option zV → zM → Option (Option zV × zM)} {kC : Nat → List zV → Nat → List zV → List zV → zM → Option (Option zV × zM)} {res : Option zV × zM}
variable {n a d g : Nat} {z : Int32} {w : Int64} {sw : List (Int32 × Nat)} {cut : Bool}
theorem z1_iastore (cx : zCx p s mi args meth c R mm) (ev : zEv Z D cy H0 L s) (hz : zins mm pc = some ((.iastore, n, (a, d, g), z, w, sw), cut)) (hX : zX kN kR kC bl pc al st M (.iastore, n, (a, d, g), z, w, sw) = some res) (hN : ∀ (pc1 : Nat) (al1 st1 : List zV) (M1 : zM), kN pc1 al1 st1 M1 = some res → zT p l e R s mi args below meth c Q Z D cy H0 bl L n0 mm M1 al1 st1 pc1) : zT p l e R s mi args below meth c Q Z D cy H0 bl L n0 mm M al st pc := by
  obtain ⟨hdg, rfl, hc⟩ := zfact2 cx.2.2.2.2.2.2.2.2.2.2 hz rfl
  obtain _ | ⟨x | x | x | x, st⟩ := st
  · cases hX
  · skip
    obtain _ | ⟨j | j | j | j, st⟩ := st
    · cases hX
    · skip
      obtain _ | ⟨q | q | q | q, st⟩ := st
      · cases hX
      · cases hX
      · cases hX
      · skip
        have hk : (bif (Nat.beq (zat q.1) 1 && Nat.ble 17 q.1) then (if zin j (zlen M q.1) = true then kN (pc + 1) al st (zsI M q.1 q.2 j.toNatClampNeg x) else none) else none) = some res := hX
        cases ha : ((Nat.beq (zat q.1) 1 && Nat.ble 17 q.1)) with
        | false => rw [ha] at hk; cases hk
        | true =>
          rw [ha] at hk
          by_cases hj : zin j (zlen M q.1) = true
          · have hk : (if zin j (zlen M q.1) = true then kN (pc + 1) al st (zsI M q.1 q.2 j.toNatClampNeg x) else none) = some res := hk
            rw [if_pos hj] at hk
            have hin := zin_in hj
            have ha := Bool.and_eq_true_iff.mp ha
            have h17 := Nat.le_of_ble_eq_true ha.2
            have ha := zb_eq ha.1
            rw [zlen_of h17] at hin
            refine zt_arr (hN _ _ _ _ hk) h17 (fun hs => hs.2.2.1) rfl rfl (fun h _ => zVM_sI h _ _ _ _) (fun k1 i1 h => zen_sI h) (fun hs => hs.2.2.2) (fun H locs cells slots ls hW hs kk => ?_)
            obtain ⟨g1, g2, g3, g4⟩ := zarr_at hW hs.2.2.1 h17
            rw [zco_i (by omega) (by omega)] at g4
            have hA := (ev.2.2.2.1 q.1 h17 (by omega) (by omega)).1
            rw [zft_of ha rfl] at hA
            show W p l e R s mi args below meth c H locs cells slots Q (F0 mi pc ls (.int x :: .int j :: zcv Z (zp q) :: st.map (zcv Z)))
            rw [zcv_ref Z (q := q) (by omega)]
            refine W.iast cx.1 cx.2.1 g4 (hA _ (fun j => .int (zgI M q.1 q.2 j))) (fun z => by cases z) (by show ¬ (j < 0 ∨ (arrV _ _ _).slots.size ≤ _); rw [arrV_size]; exact hin) rfl rfl hdg fun H1 e z oq => kk H1 _ _ rfl ?_ z oq
            rw [e, zco_i (by omega) (by omega)]
            exact congrArg some zcell_I
          · have hk : (if zin j (zlen M q.1) = true then kN (pc + 1) al st (zsI M q.1 q.2 j.toNatClampNeg x) else none) = some res := hk
            rw [if_neg hj] at hk
            cases hk
      · cases hX
    · cases hX
    · cases hX
    · cases hX
  · cases hX
  · cases hX
  · cases hX
theorem z1_sastore (cx : zCx p s mi args meth c R mm) (ev : zEv Z D cy H0 L s) (hz : zins mm pc = some ((.sastore, n, (a, d, g), z, w, sw), cut)) (hX : zX kN kR kC bl pc al st M (.sastore, n, (a, d, g), z, w, sw) = some res) (hN : ∀ (pc1 : Nat) (al1 st1 : List zV) (M1 : zM), kN pc1 al1 st1 M1 = some res → zT p l e R s mi args below meth c Q Z D cy H0 bl L n0 mm M1 al1 st1 pc1) : zT p l e R s mi args below meth c Q Z D cy H0 bl L n0 mm M al st pc := by
  obtain ⟨hdg, rfl, hc⟩ := zfact2 cx.2.2.2.2.2.2.2.2.2.2 hz rfl
  obtain _ | ⟨x | x | x | x, st⟩ := st
  · cases hX
  · skip
    obtain _ | ⟨j | j | j | j, st⟩ := st
    · cases hX
    · skip
      obtain _ | ⟨q | q | q | q, st⟩ := st
      · cases hX
      · cases hX
      · cases hX
      · skip
        have hk : (bif Nat.beq (zat q.1) 3 then (if zin j (zlen M q.1) = true then kN (pc + 1) al st (zsI M q.1 q.2 j.toNatClampNeg x.toInt16.toInt32) else none) else none) = some res := hX
        cases ha : (Nat.beq (zat q.1) 3) with
        | false => rw [ha] at hk; cases hk
        | true =>
          rw [ha] at hk
          by_cases hj : zin j (zlen M q.1) = true
          · have hk : (if zin j (zlen M q.1) = true then kN (pc + 1) al st (zsI M q.1 q.2 j.toNatClampNeg x.toInt16.toInt32) else none) = some res := hk
            rw [if_pos hj] at hk
            have hin := zin_in hj
            have ha := zb_eq ha
            have h17 : 17 ≤ q.1 := by
              rcases Nat.lt_or_ge q.1 117 with h | h
              · exact (zat_fix q.1 h).2.1 ha
              · omega
            rw [zlen_of h17] at hin
            refine zt_arr (hN _ _ _ _ hk) h17 (fun hs => hs.2.2.1) rfl rfl (fun h _ => zVM_sI h _ _ _ _) (fun k1 i1 h => zen_sI h) (fun hs => hs.2.2.2) (fun H locs cells slots ls hW hs kk => ?_)
            obtain ⟨g1, g2, g3, g4⟩ := zarr_at hW hs.2.2.1 h17
            rw [zco_i (by omega) (by omega)] at g4
            have hA := (ev.2.2.2.1 q.1 h17 (by omega) (by omega)).1
            rw [zft_of ha rfl] at hA
            show W p l e R s mi args below meth c H locs cells slots Q (F0 mi pc ls (.int x :: .int j :: zcv Z (zp q) :: st.map (zcv Z)))
            rw [zcv_ref Z (q := q) (by omega)]
            refine W.sast cx.1 cx.2.1 g4 (hA _ (fun j => .int (zgI M q.1 q.2 j))) (fun z => by cases z) (by show ¬ (j < 0 ∨ (arrV _ _ _).slots.size ≤ _); rw [arrV_size]; exact hin) rfl rfl hdg fun H1 e z oq => kk H1 _ _ rfl ?_ z oq
            rw [e, zco_i (by omega) (by omega)]
            exact congrArg some zcell_I
          · have hk : (if zin j (zlen M q.1) = true then kN (pc + 1) al st (zsI M q.1 q.2 j.toNatClampNeg x.toInt16.toInt32) else none) = some res := hk
            rw [if_neg hj] at hk
            cases hk
      · cases hX
    · cases hX
    · cases hX
    · cases hX
  · cases hX
  · cases hX
  · cases hX
theorem z1_lastore (cx : zCx p s mi args meth c R mm) (ev : zEv Z D cy H0 L s) (hz : zins mm pc = some ((.lastore, n, (a, d, g), z, w, sw), cut)) (hX : zX kN kR kC bl pc al st M (.lastore, n, (a, d, g), z, w, sw) = some res) (hN : ∀ (pc1 : Nat) (al1 st1 : List zV) (M1 : zM), kN pc1 al1 st1 M1 = some res → zT p l e R s mi args below meth c Q Z D cy H0 bl L n0 mm M1 al1 st1 pc1) : zT p l e R s mi args below meth c Q Z D cy H0 bl L n0 mm M al st pc := by
  obtain ⟨hdg, rfl, hc⟩ := zfact2 cx.2.2.2.2.2.2.2.2.2.2 hz rfl
  obtain _ | ⟨x | x | x | x, st⟩ := st
  · cases hX
  · cases hX
  · skip
    obtain _ | ⟨j | j | j | j, st⟩ := st
    · cases hX
    · skip
      obtain _ | ⟨q | q | q | q, st⟩ := st
      · cases hX
      · cases hX
      · cases hX
      · skip
        have hk : (bif Nat.beq (zat q.1) 5 then (if zin j (zlen M q.1) = true then kN (pc + 1) al st (zsL M q.1 q.2 j.toNatClampNeg x) else none) else none) = some res := hX
        cases ha : (Nat.beq (zat q.1) 5) with
        | false => rw [ha] at hk; cases hk
        | true =>
          rw [ha] at hk
          by_cases hj : zin j (zlen M q.1) = true
          · have hk : (if zin j (zlen M q.1) = true then kN (pc + 1) al st (zsL M q.1 q.2 j.toNatClampNeg x) else none) = some res := hk
            rw [if_pos hj] at hk
            have hin := zin_in hj
            have ha := zb_eq ha
            have h17 : 17 ≤ q.1 := by
              rcases Nat.lt_or_ge q.1 117 with h | h
              · exact (zat_fix q.1 h).2.2.1 ha
              · omega
            rw [zlen_of h17] at hin
            refine zt_arr (hN _ _ _ _ hk) h17 (fun hs => hs.2.2.1) rfl rfl (fun h _ => zVM_sL h _ _ _ _) (fun k1 i1 h => zen_sL h) (fun hs => hs.2.2.2) (fun H locs cells slots ls hW hs kk => ?_)
            obtain ⟨g1, g2, g3, g4⟩ := zarr_at hW hs.2.2.1 h17
            rw [zco_l ha] at g4
            have hA := (ev.2.2.2.1 q.1 h17 (by omega) (by omega)).1
            rw [zft_of ha rfl] at hA
            show W p l e R s mi args below meth c H locs cells slots Q (F0 mi pc ls (.long x :: .int j :: zcv Z (zp q) :: st.map (zcv Z)))
            rw [zcv_ref Z (q := q) (by omega)]
            refine W.last cx.1 cx.2.1 g4 (hA _ (fun j => .long (zgL M q.1 q.2 j))) (fun z => by cases z) (by show ¬ (j < 0 ∨ (arrV _ _ _).slots.size ≤ _); rw [arrV_size]; exact hin) rfl rfl hdg fun H1 e z oq => kk H1 _ _ rfl ?_ z oq
            rw [e, zco_l ha]
            exact congrArg some zcell_L
          · have hk : (if zin j (zlen M q.1) = true then kN (pc + 1) al st (zsL M q.1 q.2 j.toNatClampNeg x) else none) = some res := hk
            rw [if_neg hj] at hk
            cases hk
      · cases hX
    · cases hX
    · cases hX
    · cases hX
  · cases hX
  · cases hX
theorem z1_bastore (cx : zCx p s mi args meth c R mm) (ev : zEv Z D cy H0 L s) (hz : zins mm pc = some ((.bastore, n, (a, d, g), z, w, sw), cut)) (hX : zX kN kR kC bl pc al st M (.bastore, n, (a, d, g), z, w, sw) = some res) (hN : ∀ (pc1 : Nat) (al1 st1 : List zV) (M1 : zM), kN pc1 al1 st1 M1 = some res → zT p l e R s mi args below meth c Q Z D cy H0 bl L n0 mm M1 al1 st1 pc1) : zT p l e R s mi args below meth c Q Z D cy H0 bl L n0 mm M al st pc := by
  obtain ⟨hdg, rfl, hc⟩ := zfact2 cx.2.2.2.2.2.2.2.2.2.2 hz rfl
  obtain _ | ⟨x | x | x | x, st⟩ := st
  · cases hX
  · skip
    obtain _ | ⟨j | j | j | j, st⟩ := st
    · cases hX
    · skip
      obtain _ | ⟨q | q | q | q, st⟩ := st
      · cases hX
      · cases hX
      · cases hX
      · skip
        have hk : (bif (Nat.beq (zat q.1) 2 && Nat.ble 17 q.1) then (if zin j (zlen M q.1) = true then kN (pc + 1) al st (zsI M q.1 q.2 j.toNatClampNeg x.toInt8.toInt32) else none) else bif Nat.beq (zat q.1) 4 then (if zin j (zlen M q.1) = true then kN (pc + 1) al st (zsI M q.1 q.2 j.toNatClampNeg (x &&& 1)) else none) else none) = some res := hX
        cases ha : (Nat.beq (zat q.1) 2 && Nat.ble 17 q.1) with
        | true =>
          rw [ha] at hk
          have hk : (if zin j (zlen M q.1) = true then kN (pc + 1) al st (zsI M q.1 q.2 j.toNatClampNeg x.toInt8.toInt32) else none) = some res := hk
          by_cases hj : zin j (zlen M q.1) = true
          · rw [if_pos hj] at hk
            have hin := zin_in hj
            have ha := Bool.and_eq_true_iff.mp ha
            have h17 := Nat.le_of_ble_eq_true ha.2
            have ha := zb_eq ha.1
            rw [zlen_of h17] at hin
            refine zt_arr (hN _ _ _ _ hk) h17 (fun hs => hs.2.2.1) rfl rfl (fun h _ => zVM_sI h _ _ _ _) (fun k1 i1 h => zen_sI h) (fun hs => hs.2.2.2) (fun H locs cells slots ls hW hs kk => ?_)
            obtain ⟨g1, g2, g3, g4⟩ := zarr_at hW hs.2.2.1 h17
            rw [zco_i (by omega) (by omega)] at g4
            have hA := (ev.2.2.2.1 q.1 h17 (by omega) (by omega)).1
            rw [zft_of ha rfl] at hA
            show W p l e R s mi args below meth c H locs cells slots Q (F0 mi pc ls (.int x :: .int j :: zcv Z (zp q) :: st.map (zcv Z)))
            rw [zcv_ref Z (q := q) (by omega)]
            refine W.bast cx.1 cx.2.1 g4 (hA _ (fun j => .int (zgI M q.1 q.2 j))) (fun z => by cases z) (by show ¬ (j < 0 ∨ (arrV _ _ _).slots.size ≤ _); rw [arrV_size]; exact hin) rfl rfl hdg fun H1 e z oq => kk H1 _ _ rfl ?_ z oq
            rw [e, zco_i (by omega) (by omega)]
            exact congrArg some zcell_I
          · rw [if_neg hj] at hk
            cases hk
        | false =>
          rw [ha] at hk
          clear ha
          have hk : (bif Nat.beq (zat q.1) 4 then (if zin j (zlen M q.1) = true then kN (pc + 1) al st (zsI M q.1 q.2 j.toNatClampNeg (x &&& 1)) else none) else none) = some res := hk
          cases ha : Nat.beq (zat q.1) 4 with
          | false => rw [ha] at hk; cases hk
          | true =>
            rw [ha] at hk
            have hk : (if zin j (zlen M q.1) = true then kN (pc + 1) al st (zsI M q.1 q.2 j.toNatClampNeg (x &&& 1)) else none) = some res := hk
            by_cases hj : zin j (zlen M q.1) = true
            · rw [if_pos hj] at hk
              have hin := zin_in hj
              have ha := zb_eq ha
              have h17 : 17 ≤ q.1 := by
                rcases Nat.lt_or_ge q.1 117 with h | h
                · exact (zat_fix q.1 h).1 ha
                · omega
              rw [zlen_of h17] at hin
              refine zt_arr (hN _ _ _ _ hk) h17 (fun hs => hs.2.2.1) rfl rfl (fun h _ => zVM_sI h _ _ _ _) (fun k1 i1 h => zen_sI h) (fun hs => hs.2.2.2) (fun H locs cells slots ls hW hs kk => ?_)
              obtain ⟨g1, g2, g3, g4⟩ := zarr_at hW hs.2.2.1 h17
              rw [zco_i (by omega) (by omega)] at g4
              have hA := (ev.2.2.2.1 q.1 h17 (by omega) (by omega)).1
              rw [zft_of ha rfl] at hA
              show W p l e R s mi args below meth c H locs cells slots Q (F0 mi pc ls (.int x :: .int j :: zcv Z (zp q) :: st.map (zcv Z)))
              rw [zcv_ref Z (q := q) (by omega)]
              refine W.zast cx.1 cx.2.1 g4 (hA _ (fun j => .int (zgI M q.1 q.2 j))) (fun z => by cases z) (by show ¬ (j < 0 ∨ (arrV _ _ _).slots.size ≤ _); rw [arrV_size]; exact hin) rfl rfl hdg fun H1 e z oq => kk H1 _ _ rfl ?_ z oq
              rw [e, zco_i (by omega) (by omega)]
              exact congrArg some zcell_I
            · rw [if_neg hj] at hk
              cases hk
      · cases hX
    · cases hX
    · cases hX
    · cases hX
  · cases hX
  · cases hX
  · cases hX
theorem zblt_ge {k c : Nat} (h : c ≤ k) : Nat.blt k c = false := by
  cases q : Nat.blt k c with
  | false => rfl
  | true => have : k + 1 ≤ c := Nat.le_of_ble_eq_true q
            omega
theorem zat_out {k : Nat} (h : 117 ≤ k) : zat k = 0 := by
  unfold zat zka
  rw [zblt_ge (show 67 ≤ k by omega), cond_false, zblt_ge (show 92 ≤ k by omega), cond_false, zblt_ge (show 104 ≤ k by omega), cond_false, zblt_ge (show 110 ≤ k by omega), cond_false, zblt_ge (show 113 ≤ k by omega), cond_false, zblt_ge (show 115 ≤ k by omega), cond_false, zblt_ge (show 116 ≤ k by omega), cond_false, zb_ne (show k ≠ 116 by omega), cond_false]
theorem z1_aastore (cx : zCx p s mi args meth c R mm) (ev : zEv Z D cy H0 L s) (hz : zins mm pc = some ((.aastore, n, (a, d, g), z, w, sw), cut)) (hX : zX kN kR kC bl pc al st M (.aastore, n, (a, d, g), z, w, sw) = some res) (hN : ∀ (pc1 : Nat) (al1 st1 : List zV) (M1 : zM), kN pc1 al1 st1 M1 = some res → zT p l e R s mi args below meth c Q Z D cy H0 bl L n0 mm M1 al1 st1 pc1) : zT p l e R s mi args below meth c Q Z D cy H0 bl L n0 mm M al st pc := by
  obtain ⟨hdg, rfl, hc⟩ := zfact2 cx.2.2.2.2.2.2.2.2.2.2 hz rfl
  obtain _ | ⟨x | x | x | x, st⟩ := st
  · cases hX
  · cases hX
  · cases hX
  · skip
    obtain _ | ⟨j | j | j | j, st⟩ := st
    · cases hX
    · skip
      obtain _ | ⟨q | q | q | q, st⟩ := st
      · cases hX
      · cases hX
      · cases hX
      · skip
        have hk : (bif (bl && (Nat.beq (zat q.1) 6 && Nat.beq x.1 (zek q.1))) then (if zin j (zlen M q.1) = true then kN (pc + 1) al st (zsR M q.1 q.2 j.toNatClampNeg x) else none) else none) = some res := hX
        cases hg0 : (bl && (Nat.beq (zat q.1) 6 && Nat.beq x.1 (zek q.1))) with
        | false => rw [hg0] at hk; cases hk
        | true =>
          rw [hg0] at hk
          obtain ⟨hb, ha⟩ := Bool.and_eq_true_iff.mp hg0
          obtain ⟨ha, he⟩ := Bool.and_eq_true_iff.mp ha
          have ha := zb_eq ha
          have he := zb_eq he
          subst hb
          by_cases hj : zin j (zlen M q.1) = true
          · have hk : (if zin j (zlen M q.1) = true then kN (pc + 1) al st (zsR M q.1 q.2 j.toNatClampNeg x) else none) = some res := hk
            rw [if_pos hj] at hk
            have hin := zin_in hj
            have h117 : q.1 < 117 := by
              rcases Nat.lt_or_ge q.1 117 with h | h
              · exact h
              · exfalso; rw [show zat q.1 = 0 from zat_out h] at ha; exact absurd ha (by decide)
            obtain ⟨h17, he1, he2⟩ := (zat_fix q.1 h117).2.2.2.1 ha
            rw [zlen_of h17] at hin
            refine zt_arr (hN _ _ _ _ hk) h17 (fun hs => hs.2.2.1) rfl rfl (fun h h2 => zVM_sR h _ _ _ h2.1) (fun k1 i1 h => zen_sR h) (fun hs => hs.2.2.2) (fun H locs cells slots ls hW hs kk => ?_)
            obtain ⟨g1, g2, g3, g4⟩ := zarr_at hW hs.2.2.1 h17
            rw [zco_r ha] at g4
            have hRA := (ev.2.2.2.1 q.1 h17 (by omega) (by omega)).2
            rw [zft_r ha] at hRA
            obtain ⟨kA, comp, k1, k2, k3, -⟩ := hRA
            obtain ⟨r1, r2, r3⟩ := zvr_obj (p := x) hs.1 (by omega) (by omega)
            have hx := zW_at hW r1 r2 r3
            rw [zen_ob (by omega)] at hx
            obtain ⟨⟨C, T, N⟩, h1, cell, c1, c2, c3, c4⟩ := hx
            have hcls := (ev.2.2.1.1 _ _ h1).2
            have hC : zCn (zek q.1) = C := by unfold zCn; rw [← he, h1]; rfl
            rw [hC] at k3
            have hcomp : comp = D.1 (x.1 - 1) := Option.some.inj (k3.symm.trans hcls.1)
            subst hcomp
            obtain ⟨kC2, hkC, -⟩ := id hcls.2
            have h0 : ¬ j < 0 := fun z => hin (Or.inl z)
            have hlt : j.toNatClampNeg < (zka q.1).2.1 := Nat.not_le.mp fun z => hin (Or.inr z)
            show W p l e R s mi args below meth c H locs cells slots Q (F0 mi pc ls (zcv Z (zp x) :: .int j :: zcv Z (zp q) :: st.map (zcv Z)))
            rw [zcv_ref Z (q := x) (by omega), zcv_ref Z (q := q) (by omega)]
            refine W.aast cx.1 cx.2.1 g4 (fun q h => by cases h) (fun h => by cases h) k1 k2 rfl hkC ⟨h0, by show _ < (arrV _ _ _).slots.size; rw [arrV_size]; exact hlt⟩ c1 (fun q h => by rw [c3] at h; cases h) (by rw [c2]; exact hkC) (by rw [c2]; exact va_assign hcls) rfl rfl hdg fun H1 e z oq => kk H1 _ _ rfl ?_ z oq
            rw [e, zco_r ha]
            have hx2 : va_rf (zrf Z x) = .ref (zad Z x.1 x.2) := zcv_ref Z (q := x) (by omega)
            rw [← hx2]
            exact congrArg some zcell_R
          · have hk : (if zin j (zlen M q.1) = true then kN (pc + 1) al st (zsR M q.1 q.2 j.toNatClampNeg x) else none) = some res := hk
            rw [if_neg hj] at hk
            cases hk
      · cases hX
    · cases hX
    · cases hX
    · cases hX
  · cases hX
theorem z1_alen (cx : zCx p s mi args meth c R mm) (ev : zEv Z D cy H0 L s) (hz : zins mm pc = some ((.arraylength, n, (a, d, g), z, w, sw), cut)) (hX : zX kN kR kC bl pc al st M (.arraylength, n, (a, d, g), z, w, sw) = some res) (hN : ∀ (pc1 : Nat) (al1 st1 : List zV) (M1 : zM), kN pc1 al1 st1 M1 = some res → zT p l e R s mi args below meth c Q Z D cy H0 bl L n0 mm M1 al1 st1 pc1) : zT p l e R s mi args below meth c Q Z D cy H0 bl L n0 mm M al st pc := by
  obtain ⟨hdg, rfl, hc⟩ := zfact2 cx.2.2.2.2.2.2.2.2.2.2 hz rfl
  obtain _ | ⟨q | q | q | q, st⟩ := st
  · cases hX
  · cases hX
  · cases hX
  · skip
    have hk : (bif Nat.blt 0 (zat q.1) then kN (pc + 1) al (zi (Int32.ofNat (zlen M q.1)) :: st) M else none) = some res := hX
    cases ha : Nat.blt 0 (zat q.1) with
    | false => rw [ha] at hk; cases hk
    | true =>
      rw [ha] at hk
      have ha : 0 < zat q.1 := Nat.le_of_ble_eq_true ha
      intro H locs cells slots ls hI
      obtain ⟨i1, i2, i3, i4, ⟨i5b, i5⟩, i6⟩ := hI
      have hk := hN _ _ _ _ hk H locs cells slots ls ⟨i1, i2, i3, i4, ⟨trivial, i5⟩, i6⟩
      rcases i5b with e | ⟨z1, z2, z3⟩ | e9
      · exfalso; rw [e] at ha; exact absurd ha (by decide)
      · have h1516 : q.1 = 15 ∨ q.1 = 16 := by
          have q14 : q.1 ≠ 14 := fun e => by rw [e] at ha; exact absurd ha (by decide)
          omega
        obtain ⟨q1, q2⟩ := q
        rcases h1516 with e | e
        · have e : q1 = 15 := e
          subst e
          obtain ⟨-, -, -, s4⟩ := ev.2.2.2.2.2.1.1 0 (by decide)
          obtain ⟨cell, x1, x2, x3, x4, x5, x6, x7⟩ := s4.kept (zH0_at ev i1)
          exact W.alen (n := Int32.ofNat 12) cx.1 cx.2.1 x1 x2 x5 rfl rfl hdg hk
        · have e : q1 = 16 := e
          subst e
          obtain ⟨scr, x1, x2, x3, x4, x5⟩ := ev.2.2.2.2.1
          have hlt : Z.2.1 < Z.1 := by rw [← ev.2.2.2.2.2.2.2.2]; exact (Array.getElem?_eq_some_iff.mp x1).1
          have hsc := i6.2.2.2
          rw [← hsc] at x4
          exact W.alen (n := Int32.ofNat (zsc M).1) cx.1 cx.2.1 (by show H[Z.2.1]? = _; rw [i1.2.2 _ hlt]; exact x1) x2 (by rw [x4] <;> rfl) rfl rfl hdg hk
      · have h17 : 17 ≤ q.1 := by
          have := (zat_fix q.1 e9.1).2.2.2.2.2.2.2.1 (by omega)
          have := (zkt_zpo1 q.1 e9.1 q.2 e9.2.1).2.2.2
          omega
        have i5b : zvr M q := Or.inr (Or.inr e9)
        obtain ⟨g1, g2, g3, g4⟩ := zarr_at i1 i5b h17
        have hA := (ev.2.2.2.1 q.1 h17 (by omega) (by omega)).1
        rw [zlen_of h17] at hk
        have hsz : ∀ x : (Nat → Int32) ⊕ (Nat → Int64) ⊕ (Nat → UInt32) ⊕ (Nat → UInt64) ⊕ (Nat → Option Nat), ∃ f, vp_cell (cy (zak q.1)) ((zka q.1).2.1, x) = arrV (cy (zak q.1)) (zka q.1).2.1 f := by
          intro x
          obtain f | f | f | f | f := x
          · exact ⟨_, vp_cell_i _ _ _⟩
          · exact ⟨_, vp_cell_l _ _ _⟩
          · exact ⟨_, vp_cell_f _ _ _⟩
          · exact ⟨_, vp_cell_d _ _ _⟩
          · exact ⟨_, vp_cell_q _ _ _⟩
        obtain ⟨f, hf⟩ := hsz (zco Z bl M q.1 q.2)
        rw [hf] at g4
        show W p l e R s mi args below meth c H locs cells slots Q (F0 mi pc ls (zcv Z (zp q) :: st.map (zcv Z)))
        rw [zcv_ref Z (by omega)]
        exact W.alen (n := Int32.ofNat (zka q.1).2.1) cx.1 cx.2.1 g4 (hA _ f) (by rw [arrV_size] <;> rfl) rfl rfl hdg hk
  · cases hX
theorem z1_new {i : Nat} (cx : zCx p s mi args meth c R mm) (ev : zEv Z D cy H0 L s) (hz : zins mm pc = some ((.new i, n, (a, d, g), z, w, sw), cut)) (hX : zX kN kR kC bl pc al st M (.new i, n, (a, d, g), z, w, sw) = some res) (hN : ∀ (pc1 : Nat) (al1 st1 : List zV) (M1 : zM), kN pc1 al1 st1 M1 = some res → zT p l e R s mi args below meth c Q Z D cy H0 bl L n0 mm M1 al1 st1 pc1) (hE : ∀ (pc1 : Nat) (al1 st1 : List zV) (M1 : zM), kN pc1 al1 st1 M1 = some res → znx M1 ≤ n0 + R.cells ∧ zsl (znx M1) ≤ zsl n0 + R.slots) : zT p l e R s mi args below meth c Q Z D cy H0 bl L n0 mm M al st pc := by
  obtain ⟨hdg, rfl, hc⟩ := zfact2 cx.2.2.2.2.2.2.2.2.2.2 hz rfl
  have hk : (bif bl && Nat.beq (zkt (znx M)).1 a then kN (pc + 3) al (zp (zkt (znx M)) :: st) (znew M (zkt (znx M)).1 (zkt (znx M)).2) else none) = some res := hX
  cases hg0 : (bl && Nat.beq (zkt (znx M)).1 a) with
  | false => rw [hg0] at hk; cases hk
  | true =>
    rw [hg0] at hk
    obtain ⟨hb, ha⟩ := Bool.and_eq_true_iff.mp hg0
    have ha := zb_eq ha
    have hc := of_decide_eq_true hc
    obtain ⟨w1, w2, w3, w4, w5⟩ := zNl_ok _ hc
    have w4 : 1 ≤ a := w4
    have w5 : a ≤ 13 := w5
    have hn := zkt_lt ha (by omega)
    intro H locs cells slots ls hI
    obtain ⟨a1, a2, a3, a4, a5⟩ := zad_new hI.1 hn
    obtain ⟨e1, e2⟩ := hE _ _ _ _ hk
    have e1 : znx M + 1 ≤ n0 + R.cells := e1
    have e2 : zsl (znx M) + zsz (zkt (znx M)).1 ≤ zsl n0 + R.slots := e2
    have i7 := hI.2.2.2.2.2.2.1
    have i8 := hI.2.2.2.2.2.2.2.1
    have hsz : zsz (zkt (znx M)).1 = zNf (a - 1) := by unfold zsz; rw [ha, show Nat.ble a 13 = true from Nat.ble_eq_true_of_le w5]; rfl
    obtain ⟨⟨C, T, N⟩, hq⟩ : ∃ q, zCl[a - 1]? = some q := ⟨_, List.getElem?_eq_getElem (by have h12 : a ≤ 12 := zNl12 _ hc; show a - 1 < 12; omega)⟩
    have hNf := zNf_of hq
    have hCn : zCn a = C := by unfold zCn; rw [hq]; rfl
    have hts := cx.2.2.2.2.1
    have hKn := ev.2.2.1.1 _ _ hq
    rw [hsz, hNf] at e2
    have w1 : Cond.classLink (zcs1 (zcm mm)) i (zCn a) ∈ zTs := w1
    have w2 : Cond.instantiable (zCn a) (zNf (a - 1)) ∈ zTs := w2
    have w3 : Cond.initialized (zCn a) ∈ zTs := w3
    rw [hCn] at w1 w2 w3
    rw [hNf] at w2
    refine W.newcK cx.1 cx.2.1 cx.2.2.2.1 (hts _ w1) (hts _ w2) (hts _ w3) rfl hdg (by omega) (by omega) hKn.2.1 rfl fun H1 kC1 hkC x1 x2 x3 => ?_
    obtain ⟨t1, t2⟩ := zty_ok _ _ hq
    have hI1 := zI_new (st' := st) (H1 := H1) hI hb hn (fun h => h) (by
      rw [ha, zen_ob w5, hNf]
      refine ⟨_, hq, (u_born _ hts (zwl _ _ hq) hKn hkC (by rw [← a2]; exact x1) t1).to (fun j hj => ?_)⟩
      have hj : j < N := hj
      rw [zV_map _ hj]
      subst hb
      unfold zfs
      rw [zgF_new, zgI_new]
      have hk1 := ztk_ok (a - 1) (by omega) j (by have := zNf_le a (by omega); omega)
      unfold zfr
      show defaultValue ((zTy.getD (a - 1) (fun _ => .int)) j) = _
      generalize (zTy.getD (a - 1) (fun _ => .int)) j = ty at hk1 ⊢
      cases ty <;> first | rfl | cases hk1) x2 x3
    rw [hsz, hNf] at hI1
    have hk := hN _ _ _ _ hk H1 locs (cells + 1) (slots + N) ls hI1
    have ev1 : zcv Z (zp (zkt (znx M))) = .ref H.size := by rw [zcv_ref Z a4, a1]
    have hk : W p l e R s mi args below meth c H1 locs (cells + 1) (slots + N) Q (F0 mi (pc + 3) ls (zcv Z (zp (zkt (znx M))) :: st.map (zcv Z))) := hk
    rw [ev1] at hk
    exact hk
theorem z1_newarray {t : ArrayType} (cx : zCx p s mi args meth c R mm) (ev : zEv Z D cy H0 L s) (hz : zins mm pc = some ((.newarray t, n, (a, d, g), z, w, sw), cut)) (hX : zX kN kR kC bl pc al st M (.newarray t, n, (a, d, g), z, w, sw) = some res) (hN : ∀ (pc1 : Nat) (al1 st1 : List zV) (M1 : zM), kN pc1 al1 st1 M1 = some res → zT p l e R s mi args below meth c Q Z D cy H0 bl L n0 mm M1 al1 st1 pc1) (hE : ∀ (pc1 : Nat) (al1 st1 : List zV) (M1 : zM), kN pc1 al1 st1 M1 = some res → znx M1 ≤ n0 + R.cells ∧ zsl (znx M1) ≤ zsl n0 + R.slots) : zT p l e R s mi args below meth c Q Z D cy H0 bl L n0 mm M al st pc := by
  obtain ⟨hdg, rfl, hc⟩ := zfact2 cx.2.2.2.2.2.2.2.2.2.2 hz rfl
  have hc : (Nat.beq (zac t) a && decide (a ≠ 0)) = true := hc
  obtain ⟨hc, hc0⟩ := Bool.and_eq_true_iff.mp hc
  have hc := zb_eq hc
  have hc0 := of_decide_eq_true hc0
  obtain _ | ⟨y | y | y | y, st⟩ := st
  · cases hX
  · skip
    have hk : (bif bl && Nat.beq (zat (zkt (znx M)).1) a then (if y = Int32.ofNat (zka (zkt (znx M)).1).2.1 then kN (pc + 2) al (zp (zkt (znx M)) :: st) (znew M (zkt (znx M)).1 (zkt (znx M)).2) else none) else none) = some res := hX
    cases hg0 : (bl && Nat.beq (zat (zkt (znx M)).1) a) with
    | false => rw [hg0] at hk; cases hk
    | true =>
      rw [hg0] at hk
      have hk : (if y = Int32.ofNat (zka (zkt (znx M)).1).2.1 then kN (pc + 2) al (zp (zkt (znx M)) :: st) (znew M (zkt (znx M)).1 (zkt (znx M)).2) else none) = some res := hk
      by_cases hy : y = Int32.ofNat (zka (zkt (znx M)).1).2.1
      · rw [if_pos hy] at hk
        obtain ⟨hb, ha⟩ := Bool.and_eq_true_iff.mp hg0
        have ha := zb_eq ha
        subst hb
        have hk0 : (zkt (znx M)).1 ≠ 0 := fun q => by rw [q] at ha; exact hc0 ha.symm
        have hn := zkt_lt rfl hk0
        intro H locs cells slots ls hI
        obtain ⟨a1, a2, a3, a4, a5⟩ := zad_new hI.1 hn
        obtain ⟨e1, e2⟩ := hE _ _ _ _ hk
        have e1 : znx M + 1 ≤ n0 + R.cells := e1
        have e2 : zsl (znx M) + zsz (zkt (znx M)).1 ≤ zsl n0 + R.slots := e2
        have i7 := hI.2.2.2.2.2.2.1
        have i8 := hI.2.2.2.2.2.2.2.1
        have hN' := hN _ _ _ _ hk
        clear hk hX
        have ha0 : zat (zkt (znx M)).1 ≠ 0 := by omega
        have hf := zat_fix _ a3
        have h17 : 17 ≤ (zkt (znx M)).1 := by have := hf.2.2.2.2.2.2.2.1 ha0; omega
        have hlen := hf.2.2.2.2.2.2.2.2.1
        have hsz : zsz (zkt (znx M)).1 = (zka (zkt (znx M)).1).2.1 := by
          unfold zsz
          cases hb : Nat.ble (zkt (znx M)).1 13 with
          | false => rfl
          | true => have := Nat.le_of_ble_eq_true hb; omega
        have hRA := (ev.2.2.2.1 _ h17 (by have := (zpo_zkt _ hn).2.2; omega) ha0).2
        have hts := cx.2.2.2.2.1
        have hny : ¬ y < 0 := by rw [hy]; exact nI_pos (by omega)
        have hcl : y.toNatClampNeg = (zka (zkt (znx M)).1).2.1 := by rw [hy]; exact nI_clamp (by omega)
        have fin : ∀ (tt : ArrayType) (ty : FieldType), newarray.typeOf tt = ty → (∀ (cA : ClassId) (H2 : Heap), s.vm.findClass ("[" ++ ty.toString) = some cA → H2[H.size]? = some (arrV cA (zka (zkt (znx M)).1).2.1 (fun _ => defaultValue ty)) → va_at D zCl (Z.1 + znx M, zen Z cy true (znew M (zkt (znx M)).1 (zkt (znx M)).2) (zkt (znx M)).1 (zkt (znx M)).2) H2) → Cond.arrayClass ty ∈ zTs → componentBytes ty ≤ 8 → decode (zby mm) pc = .ok (.newarray tt, 2) → W p l e R s mi args below meth c H locs cells slots Q (F0 mi pc ls (.int y :: st.map (zcv Z))) := by
          intro tt ty ht hat hw hcb hdg
          subst ht
          refine va_newaK cx.1 cx.2.1 (hts _ hw) rfl hdg rfl hny hcl (Nat.le_trans (Nat.mul_le_mul hlen hcb) (by decide)) (by omega) (by omega) rfl fun H1 cA x1 x2 x3 x4 x5 => ?_
          have hI1 := zI_new (st' := st) (H1 := H1) hI rfl hn (fun h => h.2) (hat cA H1 x5 x1) x2 x3
          rw [hsz] at hI1
          have hk := hN' H1 locs (cells + 1) _ ls hI1
          have ev1 : zcv Z (zp (zkt (znx M))) = .ref H.size := by rw [zcv_ref Z a4, a1]
          have hk : W p l e R s mi args below meth c H1 locs (cells + 1) (slots + (zka (zkt (znx M)).1).2.1) Q (F0 mi (pc + 2) ls (zcv Z (zp (zkt (znx M))) :: st.map (zcv Z))) := hk
          rw [ev1] at hk
          exact hk
        have prim : ∀ (ty : FieldType), zft (zkt (znx M)).1 = ty → (match ty with | .object _ => False | _ => True) → (zat (zkt (znx M)).1 ≠ 5 ∧ zat (zkt (znx M)).1 ≠ 6 ∧ defaultValue ty = .int 0 ∨ zat (zkt (znx M)).1 = 5 ∧ defaultValue ty = .long 0) → ∀ (cA : ClassId) (H2 : Heap), s.vm.findClass ("[" ++ ty.toString) = some cA → H2[H.size]? = some (arrV cA (zka (zkt (znx M)).1).2.1 (fun _ => defaultValue ty)) → va_at D zCl (Z.1 + znx M, zen Z cy true (znew M (zkt (znx M)).1 (zkt (znx M)).2) (zkt (znx M)).1 (zkt (znx M)).2) H2 := by
          intro ty hty hpr hd cA H2 hf2 hh
          rw [hty] at hRA
          have hca : s.vm.findClass ("[" ++ ty.toString) = some (cy (zak (zkt (znx M)).1)) := by cases ty <;> first | exact hRA | exact hpr.elim
          cases hca.symm.trans hf2
          rw [zen_ar h17]
          show H2[Z.1 + znx M]? = some (vp_cell _ _)
          rw [← a2, hh]
          rcases hd with ⟨d1, d2, d3⟩ | ⟨d1, d3⟩
          · rw [zco_i d1 d2, vp_cell_i, d3]
            exact congrArg (fun f => some (arrV _ _ f)) (funext fun j => by rw [zgI_new])
          · rw [zco_l d1, vp_cell_l, d3]
            exact congrArg (fun f => some (arrV _ _ f)) (funext fun j => by rw [zgL_new])
        cases t with
        | boolean => exact absurd (ha.trans hc.symm) (zat_real _ hn).2
        | byte => exact fin .byte .byte rfl (prim .byte (zft_of (t := 2) (ha.trans hc.symm) rfl) trivial (Or.inl ⟨zaux (ha.trans hc.symm) (by decide) |>.1, zaux (ha.trans hc.symm) (by decide) |>.2, rfl⟩)) zAc_byte (by decide) hdg
        | short => exact absurd (ha.trans hc.symm) (zat_real _ hn).1
        | int => exact fin .int .int rfl (prim .int (zft_of (t := 1) (ha.trans hc.symm) rfl) trivial (Or.inl ⟨zaux (ha.trans hc.symm) (by decide) |>.1, zaux (ha.trans hc.symm) (by decide) |>.2, rfl⟩)) zAc_int (by decide) hdg
        | long => exact fin .long .long rfl (prim .long (zft_of (t := 5) (ha.trans hc.symm) rfl) trivial (Or.inr ⟨ha.trans hc.symm, rfl⟩)) zAc_long (by decide) hdg
        | char => exact absurd hc.symm hc0
        | float => exact absurd hc.symm hc0
        | double => exact absurd hc.symm hc0
      · rw [if_neg hy] at hk
        cases hk
  · cases hX
  · cases hX
  · cases hX
theorem zaux0 : True := trivial
theorem zek_ok1 : ∀ k, k < 117 → zat k = 6 → zek k = 2 ∨ zek k = 4 ∨ zek k = 9 := by decide +kernel
theorem zek_ok {k : Nat} (h : k < 117) (h6 : zat k = 6) : zek k = 2 ∨ zek k = 4 ∨ zek k = 9 := zek_ok1 k h h6
theorem zAO_ok {a : Nat} (ev : zEv Z D cy H0 L s) (h : a = 2 ∨ a = 4 ∨ a = 9) : va_AO (zCn a) s := by
  rcases h with rfl | rfl | rfl
  · exact ev.2.2.2.2.2.2.2.1.1
  · exact ev.2.2.2.2.2.2.2.1.2.1
  · exact ev.2.2.2.2.2.2.2.1.2.2
theorem z1_anewarray {i : Nat} (cx : zCx p s mi args meth c R mm) (ev : zEv Z D cy H0 L s) (hz : zins mm pc = some ((.anewarray i, n, (a, d, g), z, w, sw), cut)) (hX : zX kN kR kC bl pc al st M (.anewarray i, n, (a, d, g), z, w, sw) = some res) (hN : ∀ (pc1 : Nat) (al1 st1 : List zV) (M1 : zM), kN pc1 al1 st1 M1 = some res → zT p l e R s mi args below meth c Q Z D cy H0 bl L n0 mm M1 al1 st1 pc1) (hE : ∀ (pc1 : Nat) (al1 st1 : List zV) (M1 : zM), kN pc1 al1 st1 M1 = some res → znx M1 ≤ n0 + R.cells ∧ zsl (znx M1) ≤ zsl n0 + R.slots) : zT p l e R s mi args below meth c Q Z D cy H0 bl L n0 mm M al st pc := by
  obtain ⟨hdg, rfl, hc⟩ := zfact2 cx.2.2.2.2.2.2.2.2.2.2 hz rfl
  obtain _ | ⟨y | y | y | y, st⟩ := st
  · cases hX
  · skip
    have hk : (bif bl && (Nat.beq (zat (zkt (znx M)).1) 6 && Nat.beq (zek (zkt (znx M)).1) a) then (if y = Int32.ofNat (zka (zkt (znx M)).1).2.1 then kN (pc + 3) al (zp (zkt (znx M)) :: st) (znew M (zkt (znx M)).1 (zkt (znx M)).2) else none) else none) = some res := hX
    cases hg0 : (bl && (Nat.beq (zat (zkt (znx M)).1) 6 && Nat.beq (zek (zkt (znx M)).1) a)) with
    | false => rw [hg0] at hk; cases hk
    | true =>
      rw [hg0] at hk
      have hk : (if y = Int32.ofNat (zka (zkt (znx M)).1).2.1 then kN (pc + 3) al (zp (zkt (znx M)) :: st) (znew M (zkt (znx M)).1 (zkt (znx M)).2) else none) = some res := hk
      by_cases hy : y = Int32.ofNat (zka (zkt (znx M)).1).2.1
      · rw [if_pos hy] at hk
        obtain ⟨hb, ha⟩ := Bool.and_eq_true_iff.mp hg0
        obtain ⟨ha, he⟩ := Bool.and_eq_true_iff.mp ha
        have ha := zb_eq ha
        have he := zb_eq he
        subst hb
        have hk0 : (zkt (znx M)).1 ≠ 0 := fun q => by rw [q] at ha; exact absurd ha (by decide)
        have hc := of_decide_eq_true hc
        obtain ⟨w1, w2, w3, w4, w5⟩ := zNl_ok _ hc
        have w1 : Cond.classLink (zcs1 (zcm mm)) i (zCn a) ∈ zTs := w1
        have hn := zkt_lt rfl hk0
        intro H locs cells slots ls hI
        obtain ⟨a1, a2, a3, a4, a5⟩ := zad_new hI.1 hn
        obtain ⟨e1, e2⟩ := hE _ _ _ _ hk
        have e1 : znx M + 1 ≤ n0 + R.cells := e1
        have e2 : zsl (znx M) + zsz (zkt (znx M)).1 ≤ zsl n0 + R.slots := e2
        have i7 := hI.2.2.2.2.2.2.1
        have i8 := hI.2.2.2.2.2.2.2.1
        have ha0 : zat (zkt (znx M)).1 ≠ 0 := by omega
        have hf := zat_fix _ a3
        have h17 : 17 ≤ (zkt (znx M)).1 := (hf.2.2.2.1 ha).1
        have hlen := hf.2.2.2.2.2.2.2.2.1
        have hsz : zsz (zkt (znx M)).1 = (zka (zkt (znx M)).1).2.1 := by
          unfold zsz
          cases hb : Nat.ble (zkt (znx M)).1 13 with
          | false => rfl
          | true => have := Nat.le_of_ble_eq_true hb; omega
        have hRA := (ev.2.2.2.1 _ h17 (by have := (zpo_zkt _ hn).2.2; omega) ha0).2
        rw [zft_r ha, he] at hRA
        obtain ⟨kA, comp, k1, k2, k3, k4⟩ := hRA
        have hts := cx.2.2.2.2.1
        have hny : ¬ y < 0 := by rw [hy]; exact nI_pos (by omega)
        have hcl : y.toNatClampNeg = (zka (zkt (znx M)).1).2.1 := by rw [hy]; exact nI_clamp (by omega)
        have hao : va_AO (zCn a) s := zAO_ok ev (by rw [← he]; exact zek_ok a3 ha)
        refine W.anew cx.1 cx.2.1 cx.2.2.2.1 (hts _ w1) (va_AO.use hao) rfl hdg rfl hny (by rw [hcl]; omega) (by omega) (by rw [hcl]; omega) fun cA kA2 comp2 x1 x2 x3 x4 => ?_
        cases k4.symm.trans x1
        have hI1 := zI_new (st' := st) (H1 := H.push { cls := cy (zak (zkt (znx M)).1), slots := Array.replicate y.toNatClampNeg .null, vm := .none }) hI rfl hn (fun h => h.2) (by
          rw [zen_ar h17, zco_r ha]
          show (H.push _)[Z.1 + znx M]? = some (vp_cell _ _)
          rw [← a2, vp_cell_q, arrV_new, hcl]
          simp only [Array.getElem?_push_size, Option.some.injEq]
          congr 1
          funext j
          rw [zgF_new]
          rfl) (by simp) (fun q hq => by rw [Array.getElem?_push, if_neg (Nat.ne_of_lt hq)])
        rw [hsz] at hI1
        have hk := hN _ _ _ _ hk _ locs (cells + 1) _ ls hI1
        have ev1 : zcv Z (zp (zkt (znx M))) = .ref H.size := by rw [zcv_ref Z a4, a1]
        have hk : W p l e R s mi args below meth c (H.push { cls := cy (zak (zkt (znx M)).1), slots := Array.replicate y.toNatClampNeg .null, vm := .none }) locs (cells + 1) (slots + (zka (zkt (znx M)).1).2.1) Q (F0 mi (pc + 3) ls (zcv Z (zp (zkt (znx M))) :: st.map (zcv Z))) := hk
        rw [ev1, ← hcl] at hk
        exact hk
      · rw [if_neg hy] at hk
        cases hk
  · cases hX
  · cases hX
  · cases hX
theorem z1_ireturn (cx : zCx p s mi args meth c R mm) (ev : zEv Z D cy H0 L s) (hz : zins mm pc = some ((.ireturn, n, (a, d, g), z, w, sw), cut)) (hX : zX kN kR kC bl pc al st M (.ireturn, n, (a, d, g), z, w, sw) = some res) (hR : ∀ v, kR v M = some res → zRs mm pc st v → zT p l e R s mi args below meth c Q Z D cy H0 bl L n0 mm M al st pc) : zT p l e R s mi args below meth c Q Z D cy H0 bl L n0 mm M al st pc := by
  obtain ⟨hdg, rfl, hc⟩ := zfact2 cx.2.2.2.2.2.2.2.2.2.2 hz rfl
  have hc : ((Nat.beq g 0 && decide (zre1 mm = some .int)) || ((Nat.beq g 1 && decide (zre1 mm = some .boolean)) || (Nat.beq g 2 && decide (zre1 mm = some .byte)))) = true := hc
  obtain _ | ⟨x | x | x | x, st⟩ := st
  · cases hX
  · skip
    obtain _ | ⟨x2, st⟩ := st
    · have hk : (bif Nat.beq g 0 then kR (some (zi x)) M else bif Nat.beq g 1 then (bif zib x then kR (some (zi x)) M else none) else (bif x.toInt8.toInt32 == x then kR (some (zi x)) M else none)) = some res := hX
      simp only [Bool.or_eq_true, Bool.and_eq_true] at hc
      rcases hc with ⟨h1, h2⟩ | ⟨h1, h2⟩ | ⟨h1, h2⟩
      · have h1 := zb_eq h1
        subst h1
        exact hR _ hk (Or.inl ⟨x, .int, rfl, rfl, hdg, of_decide_eq_true h2, rfl⟩)
      · have h1 := zb_eq h1
        subst h1
        have hk : (bif zib x then kR (some (zi x)) M else none) = some res := hk
        cases hb : zib x with
        | false => rw [hb] at hk; cases hk
        | true =>
          rw [hb] at hk
          exact hR _ hk (Or.inl ⟨x, .boolean, rfl, rfl, hdg, of_decide_eq_true h2, znar_b hb⟩)
      · have h1 := zb_eq h1
        subst h1
        have hk : (bif x.toInt8.toInt32 == x then kR (some (zi x)) M else none) = some res := hk
        cases hb : x.toInt8.toInt32 == x with
        | false => rw [hb] at hk; cases hk
        | true =>
          rw [hb] at hk
          have hb := eq_of_beq hb
          exact hR _ hk (Or.inl ⟨x, .byte, rfl, rfl, hdg, of_decide_eq_true h2, by show Value.int _ = _; rw [hb]⟩)
    · cases hX
  · cases hX
  · cases hX
  · cases hX
theorem z1_lreturn (cx : zCx p s mi args meth c R mm) (ev : zEv Z D cy H0 L s) (hz : zins mm pc = some ((.lreturn, n, (a, d, g), z, w, sw), cut)) (hX : zX kN kR kC bl pc al st M (.lreturn, n, (a, d, g), z, w, sw) = some res) (hR : ∀ v, kR v M = some res → zRs mm pc st v → zT p l e R s mi args below meth c Q Z D cy H0 bl L n0 mm M al st pc) : zT p l e R s mi args below meth c Q Z D cy H0 bl L n0 mm M al st pc := by
  obtain ⟨hdg, rfl, hc⟩ := zfact2 cx.2.2.2.2.2.2.2.2.2.2 hz rfl
  obtain _ | ⟨x | x | x | x, st⟩ := st
  · cases hX
  · cases hX
  · skip
    obtain _ | ⟨x2, st⟩ := st
    · have hk : kR (some (zl x)) M = some res := hX
      exact hR _ hk (Or.inr (Or.inl ⟨x, rfl, rfl, hdg, of_decide_eq_true hc⟩))
    · cases hX
  · cases hX
  · cases hX
theorem z1_areturn (cx : zCx p s mi args meth c R mm) (ev : zEv Z D cy H0 L s) (hz : zins mm pc = some ((.areturn, n, (a, d, g), z, w, sw), cut)) (hX : zX kN kR kC bl pc al st M (.areturn, n, (a, d, g), z, w, sw) = some res) (hR : ∀ v, kR v M = some res → zRs mm pc st v → zT p l e R s mi args below meth c Q Z D cy H0 bl L n0 mm M al st pc) : zT p l e R s mi args below meth c Q Z D cy H0 bl L n0 mm M al st pc := by
  obtain ⟨hdg, rfl, hc⟩ := zfact2 cx.2.2.2.2.2.2.2.2.2.2 hz rfl
  obtain _ | ⟨x | x | x | x, st⟩ := st
  · cases hX
  · cases hX
  · cases hX
  · skip
    obtain _ | ⟨x2, st⟩ := st
    · have hk : kR (some (zp x)) M = some res := hX
      have hc : (match zre1 mm with | some (.object _) => true | _ => false) = true := hc
      have hc2 : ∃ nm, zre1 mm = some (.object nm) := by
        split at hc
        · rename_i nm h; exact ⟨nm, h⟩
        · cases hc
      obtain ⟨nm, hc2⟩ := hc2
      exact hR _ hk (Or.inr (Or.inr (Or.inl ⟨x, nm, rfl, rfl, hdg, hc2⟩)))
    · cases hX
  · cases hX
theorem z1_return (cx : zCx p s mi args meth c R mm) (ev : zEv Z D cy H0 L s) (hz : zins mm pc = some ((.return_, n, (a, d, g), z, w, sw), cut)) (hX : zX kN kR kC bl pc al st M (.return_, n, (a, d, g), z, w, sw) = some res) (hR : ∀ v, kR v M = some res → zRs mm pc st v → zT p l e R s mi args below meth c Q Z D cy H0 bl L n0 mm M al st pc) : zT p l e R s mi args below meth c Q Z D cy H0 bl L n0 mm M al st pc := by
  obtain ⟨hdg, rfl, hc⟩ := zfact2 cx.2.2.2.2.2.2.2.2.2.2 hz rfl
  obtain _ | ⟨x2, st⟩ := st
  · have hk : kR none M = some res := hX
    exact hR _ hk (Or.inr (Or.inr (Or.inr ⟨rfl, rfl, hdg, of_decide_eq_true hc⟩)))
  · cases hX
theorem z1_invokevirtual {i : Nat} (cx : zCx p s mi args meth c R mm) (ev : zEv Z D cy H0 L s) (hz : zins mm pc = some ((.invokevirtual i, n, (a, d, g), z, w, sw), cut)) (hX : zX kN kR kC bl pc al st M (.invokevirtual i, n, (a, d, g), z, w, sw) = some res) (hC : ∀ (y : Nat) (as st1 : List zV), kC y as (pc + 3) al st1 M = some res → zCq mm pc y as st1 st → zT p l e R s mi args below meth c Q Z D cy H0 bl L n0 mm M al st pc) : zT p l e R s mi args below meth c Q Z D cy H0 bl L n0 mm M al st pc := by
  obtain ⟨hdg, rfl, hc⟩ := zfact2 cx.2.2.2.2.2.2.2.2.2.2 hz rfl
  have hc : (decide (a ≠ 0) && (decide (g ≠ 0) && (Nat.beq d (znp a + 1) && (decide ((zyn a).name ≠ "<init>") && (zat2 [] (zcm mm) zLc).any (fun e => Nat.beq e.1 i && (Nat.beq e.2.1 a && Nat.beq e.2.2.1 g)))))) = true := hc
  obtain ⟨c1, hc⟩ := Bool.and_eq_true_iff.mp hc
  obtain ⟨c2, hc⟩ := Bool.and_eq_true_iff.mp hc
  obtain ⟨c3, hc⟩ := Bool.and_eq_true_iff.mp hc
  obtain ⟨c4, hc⟩ := Bool.and_eq_true_iff.mp hc
  obtain ⟨nest, hL⟩ := zL_any hc
  have hk : (bif Nat.ble (zwt (st.drop d)) 8 && (Nat.ble d st.length && (zok st && (zrk g (st.take d).reverse && Nat.ble (zwt (st.take d)) (zml a)))) then kC a (st.take d).reverse (pc + 3) al (st.drop d) M else none) = some res := hX
  cases hb : (Nat.ble (zwt (st.drop d)) 8 && (Nat.ble d st.length && (zok st && (zrk g (st.take d).reverse && Nat.ble (zwt (st.take d)) (zml a))))) with
  | false => rw [hb] at hk; cases hk
  | true =>
    rw [hb] at hk
    simp only [Bool.and_eq_true] at hb
    obtain ⟨b1, b2, b3, b4, b5⟩ := hb
    have b1 := Nat.le_of_ble_eq_true b1
    have b2 := Nat.le_of_ble_eq_true b2
    have b5 := Nat.le_of_ble_eq_true b5
    have hlen : ((st.take d).reverse).length = d := by rw [List.length_reverse, List.length_take]; omega
    exact hC a _ _ hk ⟨i, g, nest, hL, ztake_drop, b3, b1, by rw [List.reverse_reverse]; exact b5, b4, Or.inl ⟨hdg, of_decide_eq_true c2, of_decide_eq_true c4, by rw [hlen]; exact zb_eq c3⟩⟩
theorem z1_invokestatic {i : Nat} (cx : zCx p s mi args meth c R mm) (ev : zEv Z D cy H0 L s) (hz : zins mm pc = some ((.invokestatic i, n, (a, d, g), z, w, sw), cut)) (hX : zX kN kR kC bl pc al st M (.invokestatic i, n, (a, d, g), z, w, sw) = some res) (hN : ∀ (pc1 : Nat) (al1 st1 : List zV) (M1 : zM), kN pc1 al1 st1 M1 = some res → zT p l e R s mi args below meth c Q Z D cy H0 bl L n0 mm M1 al1 st1 pc1) (hE : ∀ (pc1 : Nat) (al1 st1 : List zV) (M1 : zM), kN pc1 al1 st1 M1 = some res → znx M1 ≤ n0 + R.cells ∧ zsl (znx M1) ≤ zsl n0 + R.slots) (hC : ∀ (y : Nat) (as st1 : List zV), kC y as (pc + 3) al st1 M = some res → zCq mm pc y as st1 st → zT p l e R s mi args below meth c Q Z D cy H0 bl L n0 mm M al st pc) : zT p l e R s mi args below meth c Q Z D cy H0 bl L n0 mm M al st pc := by
  obtain ⟨hdg, rfl, hc⟩ := zfact2 cx.2.2.2.2.2.2.2.2.2.2 hz rfl
  have hc : ((Nat.beq a 0 && decide ((zcm mm, i, d) ∈ zXl)) || (decide (a ≠ 0) && (Nat.beq g 0 && (Nat.beq d (znp a) && (zat2 [] (zcm mm) zLc).any (fun e => Nat.beq e.1 i && (Nat.beq e.2.1 a && Nat.beq e.2.2.1 g)))))) = true := hc
  have hk : (bif Nat.beq a 0 then zfII st (fun y x r => bif Nat.ble (zwt r) 8 && zok r then (bif Nat.beq d 1 then kN (pc + 3) al (zi (if x < y then y else x) :: r) M else kN (pc + 3) al (zi (if y < x then y else x) :: r) M) else none) else bif Nat.ble (zwt (st.drop d)) 8 && (Nat.ble d st.length && (zok st && (zrk g (st.take d).reverse && Nat.ble (zwt (st.take d)) (zml a)))) then kC a (st.take d).reverse (pc + 3) al (st.drop d) M else none) = some res := hX
  cases ha : Nat.beq a 0 with
  | true =>
    rw [ha] at hk hc
    have ha := zb_eq ha
    subst ha
    have hc : (decide ((zcm mm, i, d) ∈ zXl) || (decide ((0 : Nat) ≠ 0) && _)) = true := hc
    simp only [ne_eq, not_true_eq_false, decide_false, Bool.false_and, Bool.or_false] at hc
    have hl := zXl_ok _ (of_decide_eq_true hc)
    have hl : Cond.methodLink (zcs1 (zcm mm)) i (bif Nat.beq d 1 then Lib.Math.max.name else Lib.Math.min.name) ∈ zTs := hl
    clear hX
    have hk : zfII st (fun y x r => bif Nat.ble (zwt r) 8 && zok r then (bif Nat.beq d 1 then kN (pc + 3) al (zi (if x < y then y else x) :: r) M else kN (pc + 3) al (zi (if y < x then y else x) :: r) M) else none) = some res := hk
    obtain _ | ⟨y | y | y | y, st⟩ := st
    · cases hk
    · skip
      obtain _ | ⟨x | x | x | x, st⟩ := st
      · cases hk
      · skip
        have hk : (bif Nat.ble (zwt st) 8 && zok st then (bif Nat.beq d 1 then kN (pc + 3) al (zi (if x < y then y else x) :: st) M else kN (pc + 3) al (zi (if y < x then y else x) :: st) M) else none) = some res := hk
        cases hb : (Nat.ble (zwt st) 8 && zok st) with
        | false => rw [hb] at hk; cases hk
        | true =>
          rw [hb] at hk
          obtain ⟨b1, -⟩ := Bool.and_eq_true_iff.mp hb
          have b1 := Nat.le_of_ble_eq_true b1
          have hts := cx.2.2.2.2.1
          cases h1 : Nat.beq d 1 with
          | true =>
            rw [h1] at hk hl
            obtain ⟨e1, e2⟩ := hE _ _ _ _ hk
            intro H locs cells slots ls hI
            obtain ⟨i1, i2, i3, i4, ⟨i5a, i5b, i5⟩, i6, i7, i8, i9⟩ := hI
            have hw := zwt_sum (Z := Z) st
            have hk := hN _ _ _ _ hk H locs cells slots ls ⟨i1, i2, i3, i4, ⟨trivial, i5⟩, i6, i7, i8, i9⟩
            have r40 := cx.2.2.2.2.2.2.2.2.2.1
            exact va_mmax cx.1 cx.2.1 (by rw [cx.2.2.1, i3.1]) cx.2.2.2.1 (hts _ hl) (hts _ zXmax.1) (hts _ zXmax.2.1) (hts _ zXmax.2.2) cx.2.2.2.2.2.2.2.2.1 (by rw [hw]; omega) (by omega) (by omega) hdg hk
          | false =>
            rw [h1] at hk hl
            obtain ⟨e1, e2⟩ := hE _ _ _ _ hk
            intro H locs cells slots ls hI
            obtain ⟨i1, i2, i3, i4, ⟨i5a, i5b, i5⟩, i6, i7, i8, i9⟩ := hI
            have hw := zwt_sum (Z := Z) st
            have hk := hN _ _ _ _ hk H locs cells slots ls ⟨i1, i2, i3, i4, ⟨trivial, i5⟩, i6, i7, i8, i9⟩
            have r40 := cx.2.2.2.2.2.2.2.2.2.1
            exact va_mmin cx.1 cx.2.1 (by rw [cx.2.2.1, i3.1]) cx.2.2.2.1 (hts _ hl) (hts _ zXmin.1) (hts _ zXmin.2.1) (hts _ zXmin.2.2) cx.2.2.2.2.2.2.2.2.1 (by rw [hw]; omega) (by omega) (by omega) hdg hk
      · cases hk
      · cases hk
      · cases hk
    · cases hk
    · cases hk
    · cases hk
  | false =>
    rw [ha] at hk hc
    simp only [Bool.false_and, Bool.false_or] at hc
    obtain ⟨c1, hc⟩ := Bool.and_eq_true_iff.mp hc
    obtain ⟨c2, hc⟩ := Bool.and_eq_true_iff.mp hc
    obtain ⟨c3, hc⟩ := Bool.and_eq_true_iff.mp hc
    obtain ⟨nest, hL⟩ := zL_any hc
    have hX := hk
    have hk : (bif Nat.ble (zwt (st.drop d)) 8 && (Nat.ble d st.length && (zok st && (zrk g (st.take d).reverse && Nat.ble (zwt (st.take d)) (zml a)))) then kC a (st.take d).reverse (pc + 3) al (st.drop d) M else none) = some res := hX
    cases hb : (Nat.ble (zwt (st.drop d)) 8 && (Nat.ble d st.length && (zok st && (zrk g (st.take d).reverse && Nat.ble (zwt (st.take d)) (zml a))))) with
    | false => rw [hb] at hk; cases hk
    | true =>
      rw [hb] at hk
      simp only [Bool.and_eq_true] at hb
      obtain ⟨b1, b2, b3, b4, b5⟩ := hb
      have b1 := Nat.le_of_ble_eq_true b1
      have b2 := Nat.le_of_ble_eq_true b2
      have b5 := Nat.le_of_ble_eq_true b5
      have hlen : ((st.take d).reverse).length = d := by rw [List.length_reverse, List.length_take]; omega
      exact hC a _ _ hk ⟨i, g, nest, hL, ztake_drop, b3, b1, by rw [List.reverse_reverse]; exact b5, b4, Or.inr (Or.inl ⟨hdg, zb_eq c2, by rw [hlen]; exact zb_eq c3⟩)⟩
theorem z1_invokespecial {i : Nat} (cx : zCx p s mi args meth c R mm) (ev : zEv Z D cy H0 L s) (hz : zins mm pc = some ((.invokespecial i, n, (a, d, g), z, w, sw), cut)) (hX : zX kN kR kC bl pc al st M (.invokespecial i, n, (a, d, g), z, w, sw) = some res) (hN : ∀ (pc1 : Nat) (al1 st1 : List zV) (M1 : zM), kN pc1 al1 st1 M1 = some res → zT p l e R s mi args below meth c Q Z D cy H0 bl L n0 mm M1 al1 st1 pc1) (hC : ∀ (y : Nat) (as st1 : List zV), kC y as (pc + 3) al st1 M = some res → zCq mm pc y as st1 st → zT p l e R s mi args below meth c Q Z D cy H0 bl L n0 mm M al st pc) : zT p l e R s mi args below meth c Q Z D cy H0 bl L n0 mm M al st pc := by
  obtain ⟨hdg, rfl, hc⟩ := zfact2 cx.2.2.2.2.2.2.2.2.2.2 hz rfl
  have hc : ((Nat.beq a 0 && decide ((zcm mm, i) ∈ zOl)) || (decide (a ≠ 0) && (decide (g ≠ 0) && (Nat.beq d (znp a + 1) && (decide ((zyn a).name = "<init>") && (decide (zre1 a = none) && (zat2 [] (zcm mm) zLc).any (fun e => Nat.beq e.1 i && (Nat.beq e.2.1 a && Nat.beq e.2.2.1 g)))))))) = true := hc
  have hk : (bif Nat.beq a 0 then zfP st (fun p r => bif Nat.ble (zwt r) 8 && (zok r && Nat.blt 0 p.1) then kN (pc + 3) al r M else none) else bif Nat.ble (zwt (st.drop d)) 8 && (Nat.ble d st.length && (zok st && (zrk g (st.take d).reverse && Nat.ble (zwt (st.take d)) (zml a)))) then kC a (st.take d).reverse (pc + 3) al (st.drop d) M else none) = some res := hX
  cases ha : Nat.beq a 0 with
  | true =>
    rw [ha] at hk hc
    have ha := zb_eq ha
    subst ha
    have hc : (decide ((zcm mm, i) ∈ zOl) || (decide ((0 : Nat) ≠ 0) && _)) = true := hc
    simp only [ne_eq, not_true_eq_false, decide_false, Bool.false_and, Bool.or_false] at hc
    have hl := zOl_ok _ (of_decide_eq_true hc)
    clear hX
    have hk : zfP st (fun p r => bif Nat.ble (zwt r) 8 && (zok r && Nat.blt 0 p.1) then kN (pc + 3) al r M else none) = some res := hk
    obtain _ | ⟨q | q | q | q, st⟩ := st
    · cases hk
    · cases hk
    · cases hk
    · skip
      have hk : (bif Nat.ble (zwt st) 8 && (zok st && Nat.blt 0 q.1) then kN (pc + 3) al st M else none) = some res := hk
      cases hb : (Nat.ble (zwt st) 8 && (zok st && Nat.blt 0 q.1)) with
      | false => rw [hb] at hk; cases hk
      | true =>
        rw [hb] at hk
        obtain ⟨b1, hb⟩ := Bool.and_eq_true_iff.mp hb
        obtain ⟨-, b2⟩ := Bool.and_eq_true_iff.mp hb
        have b1 := Nat.le_of_ble_eq_true b1
        have b2 : 0 < q.1 := Nat.le_of_ble_eq_true b2
        have hts := cx.2.2.2.2.1
        intro H locs cells slots ls hI
        obtain ⟨i1, i2, i3, i4, ⟨i5a, i5⟩, i6⟩ := hI
        have hw := zwt_sum (Z := Z) st
        have hk := hN _ _ _ _ hk H locs cells slots ls ⟨i1, i2, i3, i4, i5, i6⟩
        have r40 := cx.2.2.2.2.2.2.2.2.2.1
        show W p l e R s mi args below meth c H locs cells slots Q (F0 mi pc ls (zcv Z (zp q) :: st.map (zcv Z)))
        rw [zcv_ref Z (by omega)]
        exact W.objInit cx.1 cx.2.1 cx.2.2.2.1 (hts _ hl) (hts _ zOb.1) (hts _ zOb.2) (g := F0 mi pc ls _) rfl (by rw [cx.2.2.1]; exact i3.1) rfl hdg cx.2.2.2.2.2.2.2.2.1 (by show 2 * 0 + _ + 12 ≤ _; rw [hw]; omega) hk
    · cases hk
  | false =>
    rw [ha] at hk hc
    simp only [Bool.false_and, Bool.false_or] at hc
    obtain ⟨c1, hc⟩ := Bool.and_eq_true_iff.mp hc
    obtain ⟨c2, hc⟩ := Bool.and_eq_true_iff.mp hc
    obtain ⟨c3, hc⟩ := Bool.and_eq_true_iff.mp hc
    obtain ⟨c4, hc⟩ := Bool.and_eq_true_iff.mp hc
    obtain ⟨c5, hc⟩ := Bool.and_eq_true_iff.mp hc
    obtain ⟨nest, hL⟩ := zL_any hc
    have hX := hk
    have hk : (bif Nat.ble (zwt (st.drop d)) 8 && (Nat.ble d st.length && (zok st && (zrk g (st.take d).reverse && Nat.ble (zwt (st.take d)) (zml a)))) then kC a (st.take d).reverse (pc + 3) al (st.drop d) M else none) = some res := hX
    cases hb : (Nat.ble (zwt (st.drop d)) 8 && (Nat.ble d st.length && (zok st && (zrk g (st.take d).reverse && Nat.ble (zwt (st.take d)) (zml a))))) with
    | false => rw [hb] at hk; cases hk
    | true =>
      rw [hb] at hk
      simp only [Bool.and_eq_true] at hb
      obtain ⟨b1, b2, b3, b4, b5⟩ := hb
      have b1 := Nat.le_of_ble_eq_true b1
      have b2 := Nat.le_of_ble_eq_true b2
      have b5 := Nat.le_of_ble_eq_true b5
      have hlen : ((st.take d).reverse).length = d := by rw [List.length_reverse, List.length_take]; omega
      exact hC a _ _ hk ⟨i, g, nest, hL, ztake_drop, b3, b1, by rw [List.reverse_reverse]; exact b5, b4, Or.inr (Or.inr ⟨hdg, of_decide_eq_true c2, of_decide_eq_true c4, of_decide_eq_true c5, by rw [hlen]; exact zb_eq c3⟩)⟩
end ZSIM
