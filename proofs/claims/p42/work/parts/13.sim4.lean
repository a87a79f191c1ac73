/-! ===== THE WALK, FOUR: any instruction; calls, returns; a method's walk; every method's contract; by program (wip/p42/gen_sim4.py) ===== -/
section ZSIM
variable {p : Program} {l : Launch} {e : Env} {R : Room} {s : State} {mi : MethodId} {args : Array Value} {below : List Frame} {meth : Method} {c : Code} {Q : State → Prop}
variable {Z : zZ} {D : va_G} {cy : Nat → ClassId} {H0 : Heap} {bl : Bool} {L : Nat × (Nat → Int32)} {n0 mm : Nat}
variable {M : zM} {al st st' : List zV} {pc pc' : Nat}
set_option maxHeartbeats 4000000 in
theorem z1 (cx : zCx p s mi args meth c R mm) (ev : zEv Z D cy H0 L s) {kN : Nat → List zV → List zV → zM → Option (Option zV × zM)} {kR : Option zV → zM → Option (Option zV × zM)} {kC : Nat → List zV → Nat → List zV → List zV → zM → Option (Option zV × zM)} {res : Option zV × zM} {E : zE} {cut : Bool} (hz : zins mm pc = some (E, cut)) (hX : zX kN kR kC bl pc al st M E = some res) (hN : ∀ (pc1 : Nat) (al1 st1 : List zV) (M1 : zM), kN pc1 al1 st1 M1 = some res → zT p l e R s mi args below meth c Q Z D cy H0 bl L n0 mm M1 al1 st1 pc1) (hE : ∀ (pc1 : Nat) (al1 st1 : List zV) (M1 : zM), kN pc1 al1 st1 M1 = some res → znx M1 ≤ n0 + R.cells ∧ zsl (znx M1) ≤ zsl n0 + R.slots) (hR : ∀ v, kR v M = some res → zRs mm pc st v → zT p l e R s mi args below meth c Q Z D cy H0 bl L n0 mm M al st pc) (hC : ∀ (y : Nat) (as st1 : List zV), kC y as (pc + 3) al st1 M = some res → zCq mm pc y as st1 st → zT p l e R s mi args below meth c Q Z D cy H0 bl L n0 mm M al st pc) : zT p l e R s mi args below meth c Q Z D cy H0 bl L n0 mm M al st pc := by
  obtain ⟨I, n, ⟨a, d, g⟩, z, w, sw⟩ := E
  cases I with
  | iconst v => exact z1_iconst cx ev hz hX hN
  | bipush v => exact z1_bipush cx ev hz hX hN
  | sipush v => exact z1_sipush cx ev hz hX hN
  | lconst v => exact z1_lconst cx ev hz hX hN
  | aconst_null => exact z1_aconst cx ev hz hX hN
  | ldc_w v => exact z1_ldcw cx ev hz hX hN
  | ldc2_w v => exact z1_ldc2 cx ev hz hX hN
  | ldc v => exact z1_ldc cx ev hz hX hN
  | getstatic v => exact z1_getstatic cx ev hz hX hN
  | iload v => exact z1_iload cx ev hz hX hN
  | iload_n v => exact z1_iload_n cx ev hz hX hN
  | lload v => exact z1_lload cx ev hz hX hN
  | lload_n v => exact z1_lload_n cx ev hz hX hN
  | aload v => exact z1_aload cx ev hz hX hN
  | aload_n v => exact z1_aload_n cx ev hz hX hN
  | istore v => exact z1_istore cx ev hz hX hN
  | istore_n v => exact z1_istore_n cx ev hz hX hN
  | lstore v => exact z1_lstore cx ev hz hX hN
  | lstore_n v => exact z1_lstore_n cx ev hz hX hN
  | astore v => exact z1_astore cx ev hz hX hN
  | astore_n v => exact z1_astore_n cx ev hz hX hN
  | iinc v u => exact z1_iinc cx ev hz hX hN
  | iadd => exact z1_iadd cx ev hz hX hN
  | isub => exact z1_isub cx ev hz hX hN
  | imul => exact z1_imul cx ev hz hX hN
  | iand => exact z1_iand cx ev hz hX hN
  | ior => exact z1_ior cx ev hz hX hN
  | ishl => exact z1_ishl cx ev hz hX hN
  | ixor => exact z1_ixor cx ev hz hX hN
  | ishr => exact z1_ishr cx ev hz hX hN
  | iushr => exact z1_iushr cx ev hz hX hN
  | idiv => exact z1_idiv cx ev hz hX hN
  | irem => exact z1_irem cx ev hz hX hN
  | ineg => exact z1_ineg cx ev hz hX hN
  | i2b => exact z1_i2b cx ev hz hX hN
  | i2s => exact z1_i2s cx ev hz hX hN
  | i2c => exact z1_i2c cx ev hz hX hN
  | i2l => exact z1_i2l cx ev hz hX hN
  | l2i => exact z1_l2i cx ev hz hX hN
  | ladd => exact z1_ladd cx ev hz hX hN
  | lsub => exact z1_lsub cx ev hz hX hN
  | lmul => exact z1_lmul cx ev hz hX hN
  | land => exact z1_land cx ev hz hX hN
  | lor => exact z1_lor cx ev hz hX hN
  | ldiv => exact z1_ldiv cx ev hz hX hN
  | lneg => exact z1_lneg cx ev hz hX hN
  | lshl => exact z1_lshl cx ev hz hX hN
  | lcmp => exact z1_lcmp cx ev hz hX hN
  | dup => exact z1_dup cx ev hz hX hN
  | dup2 => exact z1_dup2 cx ev hz hX hN
  | pop => exact z1_pop cx ev hz hX hN
  | goto v => exact z1_goto cx ev hz hX hN
  | ifnull v => exact z1_ifnull cx ev hz hX hN
  | ifnonnull v => exact z1_ifnonnull cx ev hz hX hN
  | lookupswitch v u => exact z1_lookup cx ev hz hX hN
  | tableswitch v u t q => exact z1_table cx ev hz hX hN
  | getfield v => exact z1_getfield cx ev hz hX hN
  | putfield v => exact z1_putfield cx ev hz hX hN
  | iaload => exact z1_iaload cx ev hz hX hN
  | saload => exact z1_saload cx ev hz hX hN
  | laload => exact z1_laload cx ev hz hX hN
  | aaload => exact z1_aaload cx ev hz hX hN
  | baload => exact z1_baload cx ev hz hX hN
  | iastore => exact z1_iastore cx ev hz hX hN
  | sastore => exact z1_sastore cx ev hz hX hN
  | lastore => exact z1_lastore cx ev hz hX hN
  | bastore => exact z1_bastore cx ev hz hX hN
  | aastore => exact z1_aastore cx ev hz hX hN
  | arraylength => exact z1_alen cx ev hz hX hN
  | ifCond c1 v => cases c1 with
    | eq => exact z1_ifCond_eq cx ev hz hX hN
    | ne => exact z1_ifCond_ne cx ev hz hX hN
    | lt => exact z1_ifCond_lt cx ev hz hX hN
    | ge => exact z1_ifCond_ge cx ev hz hX hN
    | gt => exact z1_ifCond_gt cx ev hz hX hN
    | le => exact z1_ifCond_le cx ev hz hX hN
  | if_icmp c1 v => cases c1 with
    | eq => exact z1_icmp_eq cx ev hz hX hN
    | ne => exact z1_icmp_ne cx ev hz hX hN
    | lt => exact z1_icmp_lt cx ev hz hX hN
    | ge => exact z1_icmp_ge cx ev hz hX hN
    | gt => exact z1_icmp_gt cx ev hz hX hN
    | le => exact z1_icmp_le cx ev hz hX hN
  | new v => exact z1_new cx ev hz hX hN hE
  | newarray v => exact z1_newarray cx ev hz hX hN hE
  | anewarray v => exact z1_anewarray cx ev hz hX hN hE
  | ireturn => exact z1_ireturn cx ev hz hX hR
  | lreturn => exact z1_lreturn cx ev hz hX hR
  | areturn => exact z1_areturn cx ev hz hX hR
  | return_ => exact z1_return cx ev hz hX hR
  | invokevirtual v => exact z1_invokevirtual cx ev hz hX hC
  | invokestatic v => exact z1_invokestatic cx ev hz hX hN hE hC
  | invokespecial v => exact z1_invokespecial cx ev hz hX hN hC
  | _ => cases hX
/-- a method's end -/
theorem zt_ret {Qc : Array Value → State → Outcome → State → Prop} {free : Addr → Prop} {mc ms : Nat} {v : Option zV} (cx : zCx p s mi args meth c R mm) (hr : zRs mm pc st v) (hQ : Q = MQ below Qc args s mc ms free) (hmc : mc + n0 = znx M) (hms : ms + zsl n0 = zsl (znx M)) (hfree : ∀ q : Addr, Z.1 ≤ q → free q) (hq : ∀ t : State, zW Z D cy H0 bl M t.heap → zVM bl M → zsv M (zpush v []) → zsc M = L → Qc args s (.returned (v.map (zcv Z))) t) : zT p l e R s mi args below meth c Q Z D cy H0 bl L n0 mm M al st pc := by
  intro H locs cells slots ls hI
  obtain ⟨i1, i2, i3, i4, i5, i6, i7, i8, i9⟩ := hI
  have e1 : cells = mc := by omega
  have e2 : slots = ms := by omega
  subst e1; subst e2; subst hQ
  have hf : ∀ q ∈ locs, free q.base := fun q h => hfree _ (i6 q h)
  have hlk := cx.2.2.2.2.2.2.1
  have hrt := cx.2.2.2.2.2.1
  rcases hr with ⟨x, ty, rfl, rfl, hdg, h1, h2⟩ | ⟨x, rfl, rfl, hdg, h1⟩ | ⟨q, nm, rfl, rfl, hdg, h1⟩ | ⟨rfl, rfl, hdg, h1⟩
  · exact W.zret cx.1 cx.2.1 (hrt.trans h1) h2 (fun t ht _ => hq t (by rw [ht]; exact i1) i2 i5 i9) hf hdg (hlocks := hlk)
  · exact W.lret cx.1 cx.2.1 (hrt.trans h1) (fun t ht _ => hq t (by rw [ht]; exact i1) i2 i5 i9) hf hdg (hlocks := hlk)
  · have hv : zcv Z (zp q) = .null ∨ ∃ a, zcv Z (zp q) = .ref a := by
      by_cases h0 : q.1 = 0
      · exact Or.inl (zcv_null Z h0)
      · exact Or.inr ⟨_, zcv_ref Z h0⟩
    exact W.aret cx.1 cx.2.1 (hrt.trans h1) (Or.inl ⟨nm, rfl⟩) hv (fun t ht _ => hq t (by rw [ht]; exact i1) i2 i5 i9) hf hdg (hlocks := hlk)
  · exact W.vret cx.1 cx.2.1 (hrt.trans h1) (fun t ht _ => hq t (by rw [ht]; exact i1) i2 trivial i9) hf hdg (hlocks := hlk)
def zRm (d : Nat) (M M' : zM) : Room := { frames := d + 1, locals := 40 * (d + 1), cells := znx M' - znx M, slots := zsl (znx M') - zsl (znx M) }
def zQc (Z : zZ) (D : va_G) (cy : Nat → ClassId) (H0 : Heap) (bl : Bool) (L : Nat × (Nat → Int32)) (r : Option zV) (M' : zM) : Array Value → State → Outcome → State → Prop := fun _ _ oc t => oc = .returned (r.map (zcv Z)) ∧ zW Z D cy H0 bl M' t.heap ∧ zVM bl M' ∧ zsv M' (zpush r []) ∧ zsc M' = L
def zPc (Z : zZ) (D : va_G) (cy : Nat → ClassId) (H0 : Heap) (bl : Bool) (L : Nat × (Nat → Int32)) (as : List zV) (M : zM) : Array Value → State → Prop := va_Pc (as.map (zcv Z)) (fun U => zEv Z D cy H0 L U ∧ zW Z D cy H0 bl M U.heap)
/-- a method's contract: what the abstract machine says it does -/
def zMet (l : Launch) (Z : zZ) (D : va_G) (cy : Nat → ClassId) (H0 : Heap) (bl : Bool) (L : Nat × (Nat → Int32)) (d y : Nat) (as : List zV) (M : zM) (r : Option zV) (M' : zM) : Prop :=
  Met l (zyn y) (Cond.code (zyn y) (zby y) (zml y) (zre1 y) :: zTs) (zRm d M M') (zPc Z D cy H0 bl L as M) (zQc Z D cy H0 bl L r M') (znx M' - znx M) (zsl (znx M') - zsl (znx M)) (fun q => Z.1 ≤ q)
theorem zRun_fin {Qa : State → Outcome → State → Prop} {mc ms : Nat} {rest st0 : List Value} {r : Option zV} {M' : zM} {H : Heap} {locs : List Loc} {cells slots : Nat} {ls : Array Slot} (hr : va_Run p l e R s mi args below meth c H locs cells slots mc ms (F0 mi pc ls st0) rest Qa (fun q => Z.1 ≤ q)) (hq : ∀ (st₀ : State) (v : Option Value) (t : State), Qa st₀ (.returned v) t → v = r.map (zcv Z) ∧ zW Z D cy H0 bl M' t.heap ∧ zVM bl M' ∧ zsv M' (zpush r []) ∧ zsc M' = L)
    (hk : ∀ (H1 : Heap) (L1 : List Loc), (∀ q ∈ L1, Z.1 ≤ q.base) → zW Z D cy H0 bl M' H1 → zVM bl M' → zsv M' (zpush r []) → zsc M' = L → W p l e R s mi args below meth c H1 (locs ++ L1) (cells + mc) (slots + ms) Q (F0 mi (pc + 3) ls ((r.map (zcv Z)).toList ++ rest))) : W p l e R s mi args below meth c H locs cells slots Q (F0 mi pc ls st0) := by
  intro T hT X
  obtain ⟨v, st₀, t, T', L1, h0, X', hL, e1, e2, hQ, st⟩ := hr T hT X
  obtain ⟨rfl, q1, q2, q3, q4⟩ := hq _ _ _ hQ
  obtain ⟨t2, a1, b1⟩ := hk T'.heap L1 hL (by rw [e1]; exact q1) q2 q3 q4 T' rfl X'
  exact ⟨t2, st t2 a1, b1⟩
theorem zrk_ref {g : Nat} (hg : g ≠ 0) : ∀ {as : List zV}, zrk g as = true → ∃ (i : Nat) (as' : List zV), as = zr g i :: as'
  | [], h => by
    have h' : Nat.beq g 0 = true := h
    exact absurd (zb_eq h') hg
  | .inl _ :: _, h => by
    have h' : Nat.beq g 0 = true := h
    exact absurd (zb_eq h') hg
  | .inr (.inl _) :: _, h => by
    have h' : Nat.beq g 0 = true := h
    exact absurd (zb_eq h') hg
  | .inr (.inr (.inl (k, i))) :: r, h => by
    have h' : (Nat.beq g 0 || Nat.beq k g) = true := h
    rw [zb_ne hg, Bool.false_or] at h'
    have := zb_eq h'
    subst this
    exact ⟨i, r, rfl⟩
  | .inr (.inr (.inr _)) :: _, h => by
    have h' : Nat.beq g 0 = true := h
    exact absurd (zb_eq h') hg
theorem zsv_app {M : zM} {a b : List zV} : zsv M (a ++ b) ↔ zsv M a ∧ zsv M b := by
  rw [zsv_mem, zsv_mem, zsv_mem]
  exact List.forall_mem_append
theorem zsv_rev {M : zM} {a : List zV} : zsv M a.reverse ↔ zsv M a := by
  rw [zsv_mem, zsv_mem]
  simp
set_option maxHeartbeats 4000000 in
/-- a call -/
theorem zt_call {d' y : Nat} {as : List zV} {M' : zM} {r : Option zV} (cx : zCx p s mi args meth c R mm) (ev : zEv Z D cy H0 L s) (hC : zCq mm pc y as st' st) (hM : zVM bl M → zsv M as → zsc M = L → zMet l Z D cy H0 bl L d' y as M r M') (hroom : d' + 2 ≤ R.frames ∧ 40 * (d' + 2) ≤ R.locals) (hml : zml y ≤ 21) (hle : znx M ≤ znx M') (hE : znx M' ≤ n0 + R.cells ∧ zsl (znx M') ≤ zsl n0 + R.slots) (hT : zT p l e R s mi args below meth c Q Z D cy H0 bl L n0 mm M' al (zpush r st') (pc + 3)) : zT p l e R s mi args below meth c Q Z D cy H0 bl L n0 mm M al st pc := by
  obtain ⟨i, g, nest, hL, hst, hok, hw1, hw2, hrk, hk⟩ := hC
  obtain ⟨hMok, hlink, hg⟩ := hL
  obtain ⟨m0, m1, m2, m3, ⟨m4a, m4b, m4c⟩, m5, m6⟩ := hMok
  intro H locs cells slots ls hI
  obtain ⟨i1, i2, i3, i4, i5, i6, i7, i8, i9⟩ := hI
  subst hst
  obtain ⟨j1, j2⟩ := zsv_app.mp i5
  have j1 := zsv_rev.mp j1
  have hM := hM i2 j1 i9
  have hts := cx.2.2.2.2.1
  have S : CallFix p mi c (zby mm) (zml mm) s args zTs (zcs1 (zcm mm)) := ⟨cx.1, cx.2.1, cx.2.2.1, cx.2.2.2.1, hts⟩
  have hG : GoodIn zTs (Cond.code (zyn y) (zby y) (zml y) (zre1 y) :: zTs) := fun w hw => by
    rcases List.mem_cons.mp hw with h | h
    · rw [h]; exact ⟨m1, zw_in m1⟩
    · exact ⟨h, zw_in h⟩
  have hbl : FrameBlind (zPc Z D cy H0 bl L as M) := fun a U g mk h => ⟨h.1, zEv.warm (State.WarmedH.refl U) h.2.1, h.2.2⟩
  have hPc : ∀ U : State, U.heap = H → s.WarmedH U.vm → zPc Z D cy H0 bl L as M (as.map (zcv Z)).toArray U := fun U hU hW => ⟨rfl, zEv.warm hW ev, by rw [hU]; exact i1⟩
  have hsl := zsl_le hle
  have hf : cells + (znx M' - znx M) ≤ R.cells ∧ slots + (zsl (znx M') - zsl (znx M)) ≤ R.slots := by omega
  have hR : (zRm d' M M').frames + 1 ≤ R.frames ∧ 8 + (zml y + 11) + (zRm d' M M').locals ≤ R.locals := by
    show d' + 1 + 1 ≤ R.frames ∧ 8 + (zml y + 11) + 40 * (d' + 1) ≤ R.locals
    omega
  have hWr : 2 * (F0 mi pc ls ((as.reverse ++ st').map (zcv Z))).monitorRoom + (((st'.map (zcv Z)).map fun v => v.category).sum) ≤ 8 := by
    rw [zwt_sum]
    show 2 * 0 + zwt st' ≤ 8
    omega
  have hq : ∀ (b : Array Value) (st₀ : State) (v : Option Value) (t : State), zQc Z D cy H0 bl L r M' b st₀ (.returned v) t → v = r.map (zcv Z) ∧ zW Z D cy H0 bl M' t.heap ∧ zVM bl M' ∧ zsv M' (zpush r []) ∧ zsc M' = L := fun b st₀ v t h => ⟨Outcome.returned.inj h.1, h.2⟩
  have hfin : ∀ (H1 : Heap) (L1 : List Loc), (∀ q ∈ L1, Z.1 ≤ q.base) → zW Z D cy H0 bl M' H1 → zVM bl M' → zsv M' (zpush r []) → zsc M' = L → W p l e R s mi args below meth c H1 (locs ++ L1) (cells + (znx M' - znx M)) (slots + (zsl (znx M') - zsl (znx M))) Q (F0 mi (pc + 3) ls ((r.map (zcv Z)).toList ++ st'.map (zcv Z))) := by
    intro H1 L1 l1 l2 l3 l4 l5
    have h := hT H1 (locs ++ L1) (cells + (znx M' - znx M)) (slots + (zsl (znx M') - zsl (znx M))) ls ⟨l2, l3, i3, zsv_le hle i4, by
      cases r with
      | none => exact zsv_le hle j2
      | some v => exact ⟨l4.1, zsv_le hle j2⟩, fun q h => by
      rcases List.mem_append.mp h with h | h
      · exact i6 q h
      · exact l1 q h, by omega, by omega, l5⟩
    cases r with
    | none => exact h
    | some v => exact h
  have hini := hts _ m2
  have hmap : (as.reverse ++ st').map (zcv Z) = (as.map (zcv Z)).reverse ++ st'.map (zcv Z) := by rw [List.map_append, List.map_reverse]
  have hrecv : g ≠ 0 → g ≤ 14 → (zyn y).cls = (bif Nat.beq g 14 then "java/lang/String" else zCn g) → ∀ j : Nat, zvr M (g, j) → ∃ cellB : Cell, H[zad Z g j]? = some cellB ∧ cellB.vm.isStatics = false ∧ s.vm.findClass (zyn y).cls = some cellB.cls := by
    intro h0 h14 hcl j hv
    by_cases e : g = 14
    · subst e
      obtain ⟨s1, -⟩ := ev.2.2.2.2.2.1.1 0 (by decide)
      obtain ⟨cell, c1, c2, c3, c4⟩ := s1.kept (zH0_at ev i1)
      refine ⟨cell, c1, c2, ?_⟩
      rw [hcl]
      exact c3
    · rw [zb_ne e] at hcl
      obtain ⟨r1, r2, r3⟩ := zvr_obj (p := (g, j)) hv h0 (by show ¬ (14 ≤ g ∧ g ≤ 16); omega)
      have hx := zW_at i1 r1 r2 r3
      rw [zen_ob (by show g ≤ 13; omega)] at hx
      obtain ⟨⟨C, T, N⟩, h1, cell, c1, c2, c3, c4⟩ := hx
      refine ⟨cell, c1, by rw [c3]; rfl, ?_⟩
      have hC : zCn g = C := by unfold zCn; rw [h1]; rfl
      rw [hcl, c2]
      show s.vm.findClass (zCn g) = _
      rw [hC]
      exact (ev.2.2.1.1 _ _ h1).2.1
  rcases hk with ⟨hdg, hg0, hnm, hlen⟩ | ⟨hdg, hg0, hlen⟩ | ⟨hdg, hg0, hnm, hre, hlen⟩
  · -- virtual
    obtain ⟨-, hg14, hstt, hcl⟩ : g ≠ 0 ∧ g ≤ 14 ∧ zstt y = false ∧ (zyn y).cls = bif Nat.beq g 14 then "java/lang/String" else zCn g := by
      rcases hg with ⟨h, -⟩ | h
      · exact absurd h hg0
      · exact h
    rw [hstt] at m6
    obtain ⟨m6a, m6b⟩ : Cond.instanceMethod (zyn y) ∈ zTs ∧ ((zyn y).name = "<init>" ∨ Cond.selects (zyn y).cls (zyn y) (zyn y) ∈ zTs) := m6
    have hsel : Cond.selects (zyn y).cls (zyn y) (zyn y) ∈ zTs := by
      rcases m6b with h | h
      · exact absurd h hnm
      · exact h
    obtain ⟨j, as', rfl⟩ := zrk_ref hg0 hrk
    have hn : (as'.map (zcv Z)).length = znp y := by rw [List.length_map]; simpa using hlen
    have hcv : zcv Z (zr g j) = .ref (zad Z g j) := zcv_ref Z (q := (g, j)) hg0
    have hstk : (F0 mi pc ls (((zr g j :: as').reverse ++ st').map (zcv Z))).stack = (as'.map (zcv Z)).reverse ++ .ref (zad Z g j) :: st'.map (zcv Z) := by
      show ((zr g j :: as').reverse ++ st').map (zcv Z) = _
      rw [hmap, List.map_cons, hcv]
      simp
    have hpv : PreV s H (zyn y).cls (zad Z g j) (zPc Z D cy H0 bl L (zr g j :: as') M) (as'.map (zcv Z)) := ⟨hbl, hrecv hg0 hg14 hcl j j1.1, fun U hU hW => by
      have h := hPc U hU hW
      rw [List.map_cons, hcv] at h
      exact h⟩
    rcases hlink with ⟨-, hl⟩ | ⟨-, hl⟩
    · have cb := callB_of (own := zcs1 (zcm mm)) (index := i) (rm := zRm d' M M') (R := R) (znp y) hts hG rfl rfl rfl hini (hts _ hl) ⟨m4a, m4b, m4c⟩ hR
      exact zRun_fin (va_runV S hM ⟨cb, hts _ m6a, hts _ hsel⟩ hpv rfl hn i3.1 hstk hWr hdg hf) (hq _) hfin
    · have cb := va_cnB (own := zcs1 (zcm mm)) (host := "CardsGone") (index := i) (rm := zRm d' M M') (R := R) (znp y) hts hG rfl rfl rfl (ev.1 _ hl rfl) hini ⟨m4a, m4b, m4c⟩ hR
      exact zRun_fin (va_runVN S hM ⟨cb, hts _ m6a, hts _ hsel⟩ hpv rfl hn i3.1 hstk hWr hdg hf) (hq _) hfin
  · -- static
    have hstt : zstt y = true := by
      rcases hg with ⟨-, h⟩ | ⟨h, -⟩
      · exact h
      · exact absurd hg0 h
    rw [hstt] at m6
    have m6 : Cond.static (zyn y) ∈ zTs := m6
    have hn : (as.map (zcv Z)).length = znp y := by rw [List.length_map]; exact hlen
    have hpv : PreS s H (zPc Z D cy H0 bl L as M) (as.map (zcv Z)) := ⟨hbl, hPc⟩
    rcases hlink with ⟨-, hl⟩ | ⟨-, hl⟩
    · have cb := callB_of (own := zcs1 (zcm mm)) (index := i) (rm := zRm d' M M') (R := R) (znp y) hts hG rfl rfl rfl hini (hts _ hl) ⟨m4a, m4b, m4c⟩ hR
      exact zRun_fin (va_runS S hM ⟨cb, hts _ m6⟩ hpv rfl hn i3.1 hmap hWr hdg hf) (hq _) hfin
    · have cb := va_cnB (own := zcs1 (zcm mm)) (host := "CardsGone") (index := i) (rm := zRm d' M M') (R := R) (znp y) hts hG rfl rfl rfl (ev.1 _ hl rfl) hini ⟨m4a, m4b, m4c⟩ hR
      exact zRun_fin (va_runSN S hM ⟨cb, hts _ m6, trivial⟩ hpv rfl hn i3.1 hmap hWr hdg hf) (hq _) hfin
  · -- a constructor
    obtain ⟨-, hg14, hstt, hcl⟩ : g ≠ 0 ∧ g ≤ 14 ∧ zstt y = false ∧ (zyn y).cls = bif Nat.beq g 14 then "java/lang/String" else zCn g := by
      rcases hg with ⟨h, -⟩ | h
      · exact absurd h hg0
      · exact h
    rw [hstt] at m6
    obtain ⟨m6a, m6b⟩ : Cond.instanceMethod (zyn y) ∈ zTs ∧ ((zyn y).name = "<init>" ∨ Cond.selects (zyn y).cls (zyn y) (zyn y) ∈ zTs) := m6
    obtain ⟨j, as', rfl⟩ := zrk_ref hg0 hrk
    have hn : (as'.map (zcv Z)).length = znp y := by rw [List.length_map]; simpa using hlen
    have hcv : zcv Z (zr g j) = .ref (zad Z g j) := zcv_ref Z (q := (g, j)) hg0
    have hstk : (F0 mi pc ls (((zr g j :: as').reverse ++ st').map (zcv Z))).stack = (as'.map (zcv Z)).reverse ++ .ref (zad Z g j) :: st'.map (zcv Z) := by
      show ((zr g j :: as').reverse ++ st').map (zcv Z) = _
      rw [hmap, List.map_cons, hcv]
      simp
    have hpv : PreS s H (zPc Z D cy H0 bl L (zr g j :: as') M) (.ref (zad Z g j) :: as'.map (zcv Z)) := ⟨hbl, fun U hU hW => by
      have h := hPc U hU hW
      rw [List.map_cons, hcv] at h
      exact h⟩
    unfold zMet at hM
    rw [hre] at hM hG
    rcases hlink with ⟨-, hl⟩ | ⟨-, hl⟩
    · have cb := callB_of (own := zcs1 (zcm mm)) (index := i) (rm := zRm d' M M') (R := R) (znp y) hts hG rfl rfl rfl hini (hts _ hl) ⟨m4a, m4b, m4c⟩ hR
      exact zRun_fin (va_runI S hM ⟨cb, hnm, hts _ m6a⟩ hpv rfl hn i3.1 hstk hWr hdg hf) (hq _) hfin
    · have cb := va_cnB (own := zcs1 (zcm mm)) (host := "CardsGone") (index := i) (rm := zRm d' M M') (R := R) (znp y) hts hG rfl rfl rfl (ev.1 _ hl rfl) hini ⟨m4a, m4b, m4c⟩ hR
      exact zRun_fin (va_runIN S hM ⟨cb, hnm, hts _ m6a⟩ hpv rfl hn i3.1 hstk hWr hdg hf) (hq _) hfin
end ZSIM
theorem zsw_some {β : Type} (f : Nat → Option β) (x : Int32) (d : Nat) {r : β} : ∀ l : List (Int32 × Nat), zsw f x d l = some r → ∃ t, f t = some r
  | [], h => ⟨d, h⟩
  | q :: l, h => by
    have h' : (if x = q.1 then f q.2 else zsw f x d l) = some r := h
    by_cases hx : x = q.1
    · rw [if_pos hx] at h'; exact ⟨_, h'⟩
    · rw [if_neg hx] at h'; exact zsw_some f x d l h'
def zSok (M : zM) : zB → Prop
  | .inl q => znx M ≤ znx q.2.2.2
  | .inr (.inl q) => q.2 = M
  | .inr (.inr q) => q.2.2.2.2.2 = M
theorem znx_sI (M : zM) (k i s : Nat) (v : Int32) : znx (zsI M k i s v) = znx M := rfl
theorem znx_sL (M : zM) (k i s : Nat) (v : Int64) : znx (zsL M k i s v) = znx M := rfl
theorem znx_sR (M : zM) (k i s : Nat) (v : Nat × Nat) : znx (zsR M k i s v) = znx M := rfl
theorem znx_new (M : zM) (k i : Nat) : znx (znew M k i) = znx M + 1 := rfl
set_option maxHeartbeats 8000000 in
set_option maxRecDepth 100000 in
theorem zX_guard {β : Type} (kN : Nat → List zV → List zV → zM → Option β) (kR : Option zV → zM → Option β) (kC : Nat → List zV → Nat → List zV → List zV → zM → Option β) (b : Bool) (pc : Nat) (ls st : List zV) (M : zM) (E : zE) :
    zX kN kR kC b pc ls st M E = zX (fun a1 a2 a3 a4 => @ite _ (znx M ≤ znx a4) (Nat.decLe _ _) (kN a1 a2 a3 a4) none) (fun a1 a2 => @ite _ (a2 = M) (Classical.propDecidable _) (kR a1 a2) none) (fun y as pc1 ls1 st1 a => @ite _ (a = M) (Classical.propDecidable _) (kC y as pc1 ls1 st1 a) none) b pc ls st M E := by
  obtain ⟨I, n, ⟨a, d, g⟩, z, w, sw⟩ := E
  cases I <;> simp only [zX, znx_sI, znx_sL, znx_sR, znx_new, Nat.le_refl, Nat.le_succ, Nat.le_add_right, if_true]
theorem zS_nx {b : Bool} {pc : Nat} {ls st : List zV} {M : zM} {E : zE} {q : zB} (h : zS b pc ls st M E = some q) : zSok M q := by
  have hg := zX_guard (fun a1 a2 a3 a4 => some (Sum.inl (a1, a2, a3, a4))) (fun a1 a2 => some (Sum.inr (Sum.inl (a1, a2)))) (fun a1 a2 a3 a4 a5 a6 => some (Sum.inr (Sum.inr (a1, a2, a3, a4, a5, a6)))) b pc ls st M E
  rw [zX_eq (fun a1 a2 a3 a4 => @ite _ (znx M ≤ znx a4) (Nat.decLe _ _) _ none)] at hg
  have h2 : zS b pc ls st M E = (zS b pc ls st M E).bind _ := hg
  rw [h] at h2
  rw [Option.bind_some] at h2
  obtain q | q | q := q
  · have h4 : some _ = @ite _ (znx M ≤ znx q.2.2.2) (Nat.decLe _ _) _ none := h2
    by_cases hc : znx M ≤ znx q.2.2.2
    · exact hc
    · rw [if_neg hc] at h4; cases h4
  · have h4 : some _ = @ite _ (q.2 = M) (Classical.propDecidable _) _ none := h2
    by_cases hc : q.2 = M
    · exact hc
    · rw [if_neg hc] at h4; cases h4
  · have h4 : some _ = @ite _ (q.2.2.2.2.2 = M) (Classical.propDecidable _) _ none := h2
    by_cases hc : q.2.2.2.2.2 = M
    · exact hc
    · rw [if_neg hc] at h4; cases h4
theorem zrun_nx (b : Bool) : ∀ (n d m pc : Nat) (ls st : List zV) (M : zM) (r : Option zV × zM), zrun b n d m pc ls st M = some r → znx M ≤ znx r.2
  | 0, d, m, pc, ls, st, M, r, h => by cases h
  | n + 1, d, m, pc, ls, st, M, r, h => by
    rw [zrun_succ] at h
    cases hz : zins m pc with
    | none => rw [hz] at h; cases h
    | some E =>
      rw [hz] at h
      simp only [Option.bind_some] at h
      rw [zX_eq] at h
      cases hs : zS b pc ls st M E.1 with
      | none => rw [hs] at h; cases h
      | some q =>
        rw [hs] at h
        have hk := zS_nx hs
        simp only [Option.bind_some] at h
        obtain q | q | q := q
        · have hk' : znx M ≤ znx q.2.2.2 := hk
          exact Nat.le_trans hk' (zrun_nx b n _ _ _ _ _ _ _ h)
        · have hk' : q.2 = M := hk
          have h' : (some (q.1, q.2) : Option (Option zV × zM)) = some r := h
          cases h'
          rw [hk']
          exact Nat.le_refl _
        · have hk' : q.2.2.2.2.2 = M := hk
          simp only [zel, zca] at h
          cases d with
          | zero => cases h
          | succ d' =>
            simp only at h
            rw [hk'] at h
            cases hc : zrun b n d' q.1 0 (zpad (zml q.1) (zargs q.2.1)) [] M with
            | none => rw [hc] at h; cases h
            | some w =>
              rw [hc] at h
              exact Nat.le_trans (zrun_nx b n _ _ _ _ _ _ _ hc) (zrun_nx b n _ _ _ _ _ _ _ h)
/-! entry -/
theorem zargs_len : ∀ as : List zV, (zargs as).length = zwt as
  | [] => rfl
  | .inl x :: r => by
    have := zargs_len r
    show (zargs r).length + 1 = 1 + zwt r
    omega
  | .inr (.inl x) :: r => by
    have := zargs_len r
    show (zargs r).length + 1 + 1 = 2 + zwt r
    omega
  | .inr (.inr (.inl q)) :: r => by
    have := zargs_len r
    show (zargs r).length + 1 = 1 + zwt r
    omega
  | .inr (.inr (.inr u)) :: r => by
    have := zargs_len r
    show (zargs r).length + 1 = 1 + zwt r
    omega
theorem zsl_len (Z : zZ) : ∀ as : List zV, (lg_sl (as.map (zcv Z))).length = zwt as
  | [] => rfl
  | v :: r => by
    have ih := zsl_len Z r
    have e : lg_sl ((v :: r).map (zcv Z)) = (if (zcv Z v).category = 2 then [Slot.val (zcv Z v), Slot.second] else [Slot.val (zcv Z v)]) ++ lg_sl (r.map (zcv Z)) := rfl
    rw [e, List.length_append, ih]
    match v with
    | .inl x => rfl
    | .inr (.inl x) => rfl
    | .inr (.inr (.inl q)) =>
      rw [if_neg (by rw [show (zcv Z (.inr (.inr (.inl q)))).category = 1 from zcv_cat Z q]; decide)]
      rfl
    | .inr (.inr (.inr u)) => rfl
theorem zargs_at (Z : zZ) : ∀ (as : List zV) (i j : Nat) (v : zV), (zargs as)[j]? = some v → v ≠ zu → (i + j, zcv Z v) ∈ lv_args i (as.map (zcv Z))
  | [], i, j, v, h, hv => by simp [zargs] at h
  | .inl x :: r, i, j, v, h, hv => by
    show _ ∈ (i, zcv Z (.inl x)) :: lv_args (i + 1) (r.map (zcv Z))
    cases j with
    | zero => cases h; exact List.mem_cons_self
    | succ j =>
      have := zargs_at Z r (i + 1) j v h hv
      rw [show i + (j + 1) = i + 1 + j by omega]
      exact List.mem_cons_of_mem _ this
  | .inr (.inl x) :: r, i, j, v, h, hv => by
    show _ ∈ (i, zcv Z (.inr (.inl x))) :: lv_args (i + 2) (r.map (zcv Z))
    match j, h with
    | 0, h => cases h; exact List.mem_cons_self
    | 1, h => cases h; exact absurd rfl hv
    | j + 2, h =>
      have := zargs_at Z r (i + 2) j v h hv
      rw [show i + (j + 2) = i + 2 + j by omega]
      exact List.mem_cons_of_mem _ this
  | .inr (.inr (.inl q)) :: r, i, j, v, h, hv => by
    show _ ∈ (i, zcv Z (.inr (.inr (.inl q)))) :: lv_args (if (zcv Z (.inr (.inr (.inl q)))).category = 2 then i + 2 else i + 1) (r.map (zcv Z))
    rw [if_neg (by rw [show (zcv Z (.inr (.inr (.inl q)))).category = 1 from zcv_cat Z q]; decide)]
    cases j with
    | zero => cases h; exact List.mem_cons_self
    | succ j =>
      have := zargs_at Z r (i + 1) j v h hv
      rw [show i + (j + 1) = i + 1 + j by omega]
      exact List.mem_cons_of_mem _ this
  | .inr (.inr (.inr u)) :: r, i, j, v, h, hv => by
    show _ ∈ (i, zcv Z (.inr (.inr (.inr u)))) :: lv_args (i + 1) (r.map (zcv Z))
    cases j with
    | zero => cases h; exact absurd rfl hv
    | succ j =>
      have := zargs_at Z r (i + 1) j v h hv
      rw [show i + (j + 1) = i + 1 + j by omega]
      exact List.mem_cons_of_mem _ this
theorem zLR_entry (Z : zZ) {as : List zV} {n : Nat} (h : zwt as ≤ n) : zLR Z ((lg_sl (as.map (zcv Z)) ++ List.replicate (n - (lg_sl (as.map (zcv Z))).length) Slot.unset).toArray) n (zpad n (zargs as)) := by
  have hk := lv_entry (as.map (zcv Z)) (n := n) (by rw [zsl_len]; exact h)
  have hlen : (zpad n (zargs as)).length = n := by
    unfold zpad
    rw [List.length_append, List.length_replicate, zargs_len]
    omega
  refine ⟨hk.1, hk.2.1, hlen, fun j v hj hv => ?_⟩
  unfold zpad at hj
  by_cases hl : j < (zargs as).length
  · rw [List.getElem?_append_left hl] at hj
    have := zargs_at Z as 0 j v hj hv
    rw [Nat.zero_add] at this
    exact hk.2.2 _ this
  · rw [List.getElem?_append_right (by omega)] at hj
    have := List.mem_of_getElem? hj
    rw [List.eq_of_mem_replicate this] at hv
    exact absurd rfl hv
theorem zsv_args {M : zM} : ∀ {as : List zV}, zsv M as → zsv M (zargs as)
  | [], h => trivial
  | .inl x :: r, h => ⟨trivial, zsv_args h.2⟩
  | .inr (.inl x) :: r, h => ⟨trivial, trivial, zsv_args h.2⟩
  | .inr (.inr (.inl q)) :: r, h => ⟨h.1, zsv_args h.2⟩
  | .inr (.inr (.inr u)) :: r, h => ⟨trivial, zsv_args h.2⟩
theorem zsv_pad {M : zM} {as : List zV} (n : Nat) (h : zsv M as) : zsv M (zpad n (zargs as)) := by
  refine zsv_app.mpr ⟨zsv_args h, zsv_mem.mpr fun v hv => ?_⟩
  rw [List.eq_of_mem_replicate hv]
  exact trivial
section ZSIM
variable {p : Program} {l : Launch} {e : Env} {R : Room} {s : State} {mi : MethodId} {args : Array Value} {below : List Frame} {meth : Method} {c : Code} {Q : State → Prop}
variable {Z : zZ} {D : va_G} {cy : Nat → ClassId} {H0 : Heap} {bl : Bool} {L : Nat × (Nat → Int32)} {n0 mm : Nat}
/-- a method's walk -/
theorem zwalk {d : Nat} {res : Option zV × zM} (cx : zCx p s mi args meth c R mm) (ev : zEv Z D cy H0 L s) (hroom : d + 1 ≤ R.frames ∧ 40 * (d + 1) ≤ R.locals) (hb : znx res.2 ≤ n0 + R.cells ∧ zsl (znx res.2) ≤ zsl n0 + R.slots) (hRet : ∀ (pc : Nat) (al st : List zV), zRs mm pc st res.1 → zT p l e R s mi args below meth c Q Z D cy H0 bl L n0 mm res.2 al st pc) :
    ∀ n : Nat, (∀ k, k < n → ∀ (d' y : Nat) (as : List zV) (M : zM) (r : Option zV) (M' : zM), zrun bl k d' y 0 (zpad (zml y) (zargs as)) [] M = some (r, M') → zMok y → zsv M as → zwt as ≤ zml y → zVM bl M → zsc M = L → zMet l Z D cy H0 bl L d' y as M r M') → ∀ (pc : Nat) (al st : List zV) (M : zM), zrun bl n d mm pc al st M = some res → zT p l e R s mi args below meth c Q Z D cy H0 bl L n0 mm M al st pc := by
  intro n
  induction n with
  | zero => intro _ pc al st M h; cases h
  | succ n ih =>
    intro hmet pc al st M h
    have ih := ih fun k hk => hmet k (Nat.lt_succ_of_lt hk)
    rw [zrun_succ] at h
    cases hz : zins mm pc with
    | none => rw [hz] at h; cases h
    | some E =>
      rw [hz] at h
      obtain ⟨E, cut⟩ := E
      have h : zX (zrun bl n d mm) zre (zca (zrun bl n) d mm) bl pc al st M E = some res := h
      refine z1 cx ev hz h (fun pc1 al1 st1 M1 h1 => ih pc1 al1 st1 M1 h1) (fun pc1 al1 st1 M1 h1 => ?_) (fun v hv hs => ?_) (fun y as st1 hc hs => ?_)
      · have h2 := zrun_nx bl n _ _ _ _ _ _ _ h1
        have h3 := zsl_le h2
        omega
      · have hv : (some (v, M) : Option (Option zV × zM)) = some res := hv
        cases hv
        exact hRet pc al st hs
      · cases d with
        | zero => cases hc
        | succ d' =>
          have hc : ((zrun bl n d' y 0 (zpad (zml y) (zargs as)) [] M).bind fun q => zrun bl n (d' + 1) mm (pc + 3) al (zpush q.1 st1) q.2) = some res := hc
          cases hr : zrun bl n d' y 0 (zpad (zml y) (zargs as)) [] M with
          | none => rw [hr] at hc; cases hc
          | some q =>
            obtain ⟨r, M'⟩ := q
            rw [hr] at hc
            have hc : zrun bl n (d' + 1) mm (pc + 3) al (zpush r st1) M' = some res := hc
            have n1 := zrun_nx bl n _ _ _ _ _ _ _ hr
            have n2 := zrun_nx bl n _ _ _ _ _ _ _ hc
            have n3 := zsl_le n2
            have hs' := hs
            obtain ⟨i, g, nest, hL, hst, hok, hw1, hw2, hrk, hk⟩ := hs
            have hwt : zwt as ≤ zml y := by
              have e : zwt as.reverse = zwt as := by rw [← zwt_sum (Z := Z), ← zwt_sum (Z := Z), List.map_reverse, List.map_reverse, List.sum_reverse]
              omega
            exact zt_call cx ev hs' (fun v1 v2 v3 => hmet n (Nat.lt_succ_self n) d' y as M r M' hr hL.1 v2 hwt v1 v3) hroom hL.1.1.2 n1 (by omega) (ih _ _ _ _ hc)
end ZSIM
/-- every method that the abstract machine runs meets its contract -/
theorem zmet {l : Launch} {Z : zZ} {D : va_G} {cy : Nat → ClassId} {H0 : Heap} {bl : Bool} {L : Nat × (Nat → Int32)} : ∀ (n d y : Nat) (as : List zV) (M : zM) (r : Option zV) (M' : zM), zrun bl n d y 0 (zpad (zml y) (zargs as)) [] M = some (r, M') → zMok y → zsv M as → zwt as ≤ zml y → zVM bl M → zsc M = L → zMet l Z D cy H0 bl L d y as M r M' := by
  intro n
  induction n using Nat.strongRecOn with
  | _ n IH =>
    intro d y as M r M' hrun hok hsv hwt hVM hL
    have hmet := IH
    obtain ⟨m0, m1, m2, m3, m4, m5, m6⟩ := id hok
    have hle := zrun_nx bl n _ _ _ _ _ _ _ hrun
    have hle : znx M ≤ znx M' := hle
    have hsl := zsl_le hle
    refine Met.ofW (cc := zby y) (maxL := zml y) (ret := zre1 y) m5 rfl ?_
    intro p e s m args below meth c s₁ B hml hP
    obtain ⟨rfl, hev, hW⟩ := hP
    have hts : ∀ w ∈ (Cond.code (zyn y) (zby y) (zml y) (zre1 y) :: zTs), w.before (as.map (zcv Z)).toArray s = true := atoms_spec (ws := Cond.code (zyn y) (zby y) (zml y) (zre1 y) :: zTs) B.pre
    have hown : s.vm.findClass (zcs1 (zcm y)) = some m.cls := by rw [← m3]; exact findClass_of_methodNamed B.named
    have hroom1 : 1 ≤ (headSpec (Cond.code (zyn y) (zby y) (zml y) (zre1 y) :: zTs) (zRm d M M')).room.frames := by show 1 ≤ d + 1; omega
    have hroom2 : 40 ≤ (headSpec (Cond.code (zyn y) (zby y) (zml y) (zre1 y) :: zTs) (zRm d M M')).room.locals := by show 40 ≤ 40 * (d + 1); omega
    have cx : zCx p s m (as.map (zcv Z)).toArray meth c (headSpec (Cond.code (zyn y) (zby y) (zml y) (zre1 y) :: zTs) (zRm d M M')).room y := ⟨B.exec, B.bytes, hml, hown, fun w hw => hts w (List.mem_cons_of_mem _ hw), B.returns, B.notSynchronized, fun h => (name_of_methodNamed B.named B.method).1.trans h, hroom1, hroom2, Or.inl m0.1⟩
    rw [lg_entry_eq]
    refine zwalk (mm := y) (n0 := znx M) (d := d) (res := (r, M')) (L := L) cx hev ⟨Nat.le_refl _, Nat.le_refl _⟩ ⟨?_, ?_⟩ (fun pc al st hs => zt_ret cx hs rfl ?_ ?_ (fun q h => h) (fun t h1 h2 h3 h4 => ⟨rfl, h1, h2, h3, h4⟩)) n hmet 0 (zpad (zml y) (zargs as)) [] M hrun s.heap [] 0 0 _ ⟨hW, hVM, zLR_entry Z hwt, zsv_pad _ hsv, trivial, (fun q h => by cases h), by omega, by omega, hL⟩
    · show znx M' ≤ znx M + (znx M' - znx M)
      omega
    · show zsl (znx M') ≤ zsl (znx M) + (zsl (znx M') - zsl (znx M))
      omega
    · show znx M' - znx M + znx M = znx M'
      omega
    · show zsl (znx M') - zsl (znx M) + zsl (znx M) = zsl (znx M')
      omega
