/-! ===== THE WALK, ONE: what the abstract machine's states are of the kit's; plain instructions; by program (wip/p42/gen_sim1.py) ===== -/
def znw : Cond → Bool
  | .fieldLinkNest _ _ _ _ _ _ => true
  | .methodLinkNest _ _ _ _ => true
  | _ => false
/-- what a state says, whatever its heap -/
def zEv (Z : zZ) (D : va_G) (cy : Nat → ClassId) (H0 : Heap) (L : Nat × (Nat → Int32)) (U : State) : Prop :=
  (∀ w ∈ tables_1, znw w = true → va_Nw w U) ∧ vk_R "CardsGone$Reader" 63 "padnvblwrcts" Z.2.2.1 U ∧ va_K D zCl [] U ∧ (∀ k, 17 ≤ k → zcn k ≠ 0 → zat k ≠ 0 → ArrOfT U (cy (zak k)) (zft k) ∧ va_RA U (cy (zak k)) (zft k)) ∧ va_X Z.2.1 L.1 L.2 U H0 ∧ vk_S 1 [12] [[112, 97, 100, 110, 118, 98, 108, 119, 114, 99, 116, 115]] (fun _ => Z.2.2.1) (fun _ => Z.2.2.2) (fun q => Z.1 ≤ q) U H0 ∧ va_Z "java/lang/String" "COMPACT_STRINGS" "Z" (.int 1) (fun q => Z.1 ≤ q) U H0 ∧ (va_AO "CardsGone$Body" U ∧ va_AO "CardsGone$Deal" U ∧ va_AO "CardsGone$Shelf" U) ∧ H0.size = Z.1
theorem znw_warm {w : Cond} (hw : znw w = true) {s U : State} (hW : s.WarmedH U.vm) (h : va_Nw w s) : va_Nw w U := by
  match w, hw, h with
  | .fieldLinkNest .., _, h => exact va_Nw.warmF hW h
  | .methodLinkNest .., _, h => exact va_Nw.warmM hW h
theorem zEv.warm {Z : zZ} {D : va_G} {cy : Nat → ClassId} {H0 : Heap} {L : Nat × (Nat → Int32)} {s U : State} (hW : s.WarmedH U.vm) (h : zEv Z D cy H0 L s) : zEv Z D cy H0 L U := by
  obtain ⟨h1, h2, h3, h4, h5, h6, h7, ⟨h8, h9, h10⟩, h11⟩ := h
  have hvm := hW.alike
  exact ⟨fun w hw hz => znw_warm hz hW (h1 w hw hz), vk_R.warm hW h2, va_K.moved hvm h3, fun k q1 q2 q3 => ⟨arrOfT_moved hvm (h4 k q1 q2 q3).1, (h4 k q1 q2 q3).2.moved hvm⟩, va_X.moved hvm h5, vk_S.moved hvm h6, va_Z.moved hvm h7, ⟨va_AO.moved hvm h8, va_AO.moved hvm h9, va_AO.moved hvm h10⟩, h11⟩
/-- a method at work -/
def zCx (p : Program) (s : State) (mi : MethodId) (args : Array Value) (meth : Method) (c : Code) (R : Room) (mm : Nat) : Prop :=
  p.tables.exec = Jvm.exec ∧ c.code = zby mm ∧ c.maxLocals = zml mm ∧ s.vm.findClass (zcs1 (zcm mm)) = some mi.cls ∧ (∀ w ∈ zTs, w.before args s = true) ∧ meth.sig.returnType = zre1 mm ∧ meth.locks = false ∧ ((zyn mm).name = "<init>" → meth.name = "<init>") ∧ 1 ≤ R.frames ∧ 40 ≤ R.locals ∧ zrlm mm
/-- the kit's state pictures the abstract one -/
def zI (Z : zZ) (D : va_G) (cy : Nat → ClassId) (H0 : Heap) (bl : Bool) (L : Nat × (Nat → Int32)) (n0 mm : Nat) (M : zM) (al st : List zV) (H : Heap) (locs : List Loc) (cells slots : Nat) (ls : Array Slot) : Prop :=
  zW Z D cy H0 bl M H ∧ zVM bl M ∧ zLR Z ls (zml mm) al ∧ zsv M al ∧ zsv M st ∧ (∀ q ∈ locs, Z.1 ≤ q.base) ∧ cells + n0 = znx M ∧ slots + zsl n0 = zsl (znx M) ∧ zsc M = L
/-- from every state of the kit that pictures this one, the end is reached -/
def zT (p : Program) (l : Launch) (e : Env) (R : Room) (s : State) (mi : MethodId) (args : Array Value) (below : List Frame) (meth : Method) (c : Code) (Q : State → Prop) (Z : zZ) (D : va_G) (cy : Nat → ClassId) (H0 : Heap) (bl : Bool) (L : Nat × (Nat → Int32)) (n0 mm : Nat) (M : zM) (al st : List zV) (pc : Nat) : Prop :=
  ∀ (H : Heap) (locs : List Loc) (cells slots : Nat) (ls : Array Slot), zI Z D cy H0 bl L n0 mm M al st H locs cells slots ls → W p l e R s mi args below meth c H locs cells slots Q (F0 mi pc ls (st.map (zcv Z)))
theorem zcv_null (Z : zZ) {q : Nat × Nat} (h : q.1 = 0) : zcv Z (zp q) = .null := by
  show va_rf (zrf Z q) = .null
  unfold zrf
  rw [h]
  rfl
theorem zcv_ref (Z : zZ) {q : Nat × Nat} (h : q.1 ≠ 0) : zcv Z (zp q) = .ref (zad Z q.1 q.2) := by
  show va_rf (zrf Z q) = _
  rw [zrf_ref Z h]
  rfl
theorem zcv_cat (Z : zZ) (q : Nat × Nat) : (zcv Z (zp q)).category = 1 := by
  by_cases h : q.1 = 0
  · rw [zcv_null Z h]; rfl
  · rw [zcv_ref Z h]; rfl
theorem zfact {mm pc : Nat} {E : zE} {cut : Bool} (hrl : zrlm mm) (hz : zins mm pc = some (E, cut)) : decode (zby mm) pc = .ok (E.1, E.2.1 - pc) ∧ pc ≤ E.2.1 ∧ (zsws E.1 = true ∨ E.2.1 = pc + zln E.1) ∧ zchk (zcm mm) (zml mm) (zre1 mm) pc E = true := by
  have h := zKall hrl pc
  unfold zda at h
  rw [hz] at h
  have h' : zdk mm pc E = true := h
  unfold zdk at h'
  simp only [Bool.and_eq_true, Bool.or_eq_true, decide_eq_true_eq] at h'
  obtain ⟨h1, h2, h3, h4⟩ := h'
  refine ⟨h1, h2, ?_, h4⟩
  rcases h3 with h3 | h3
  · exact Or.inl h3
  · have := zb_eq h3
    exact Or.inr (by omega)
theorem zfact2 {mm pc n a d g : Nat} {z : Int32} {w : Int64} {sw : List (Int32 × Nat)} {I : Instr} {cut : Bool} (hrl : zrlm mm) (hz : zins mm pc = some ((I, n, (a, d, g), z, w, sw), cut)) (hs : zsws I = false) : decode (zby mm) pc = .ok (I, zln I) ∧ n = pc + zln I ∧ zchk (zcm mm) (zml mm) (zre1 mm) pc (I, n, (a, d, g), z, w, sw) = true := by
  obtain ⟨h1, h2, h3, h4⟩ := zfact hrl hz
  rcases h3 with h3 | h3
  · have h3' : zsws I = true := h3
    rw [hs] at h3'
    cases h3'
  · have h3' : n = pc + zln I := h3
    refine ⟨?_, h3', h4⟩
    have h1' : decode (zby mm) pc = .ok (I, n - pc) := h1
    rw [h1', h3', Nat.add_sub_cancel_left]
section ZSIM
variable {p : Program} {l : Launch} {e : Env} {R : Room} {s : State} {mi : MethodId} {args : Array Value} {below : List Frame} {meth : Method} {c : Code} {Q : State → Prop}
variable {Z : zZ} {D : va_G} {cy : Nat → ClassId} {H0 : Heap} {bl : Bool} {L : Nat × (Nat → Int32)} {n0 mm : Nat}
variable {M : zM} {al st st' : List zV} {pc pc' : Nat}
theorem zt_st (h : zT p l e R s mi args below meth c Q Z D cy H0 bl L n0 mm M al st' pc') (hv : zsv M al → zsv M st → zsv M st') (k : ∀ (H : Heap) (locs : List Loc) (cells slots : Nat) (ls : Array Slot), zLR Z ls (zml mm) al → W p l e R s mi args below meth c H locs cells slots Q (F0 mi pc' ls (st'.map (zcv Z))) → W p l e R s mi args below meth c H locs cells slots Q (F0 mi pc ls (st.map (zcv Z)))) : zT p l e R s mi args below meth c Q Z D cy H0 bl L n0 mm M al st pc := by
  intro H locs cells slots ls hI
  obtain ⟨i1, i2, i3, i4, i5, i6⟩ := hI
  exact k H locs cells slots ls i3 (h H locs cells slots ls ⟨i1, i2, i3, i4, hv i4 i5, i6⟩)
theorem zt_br (hv : zsv M st → zsv M st') (k : ∀ (H : Heap) (locs : List Loc) (cells slots : Nat) (ls : Array Slot), zI Z D cy H0 bl L n0 mm M al st' H locs cells slots ls → W p l e R s mi args below meth c H locs cells slots Q (F0 mi pc ls (st.map (zcv Z)))) : zT p l e R s mi args below meth c Q Z D cy H0 bl L n0 mm M al st pc := by
  intro H locs cells slots ls hI
  obtain ⟨i1, i2, i3, i4, i5, i6⟩ := hI
  exact k H locs cells slots ls ⟨i1, i2, i3, i4, hv i5, i6⟩
theorem zt_ls {v : zV} {a : Nat} (h : zT p l e R s mi args below meth c Q Z D cy H0 bl L n0 mm M (zst a v al) st' pc') (hv : zsv M al → zsv M st → zvv M v ∧ zsv M st') (ha : a < zml mm) (k : ∀ (H : Heap) (locs : List Loc) (cells slots : Nat) (ls : Array Slot), zLR Z ls (zml mm) al → (∀ ls' : Array Slot, lv_has ls' (zml mm) ((a, zcv Z v) :: (zlo Z 0 al).filter (fun q => !(q.1 == a) && !(q.1 + 1 == a && q.2.category == 2))) → W p l e R s mi args below meth c H locs cells slots Q (F0 mi pc' ls' (st'.map (zcv Z)))) → W p l e R s mi args below meth c H locs cells slots Q (F0 mi pc ls (st.map (zcv Z)))) : zT p l e R s mi args below meth c Q Z D cy H0 bl L n0 mm M al st pc := by
  intro H locs cells slots ls hI
  obtain ⟨i1, i2, i3, i4, i5, i6⟩ := hI
  obtain ⟨v1, v2⟩ := hv i4 i5
  exact k H locs cells slots ls i3 fun ls' h' => h H locs cells slots ls' ⟨i1, i2, zLR_st i3 ha h', zsv_st i4 v1, v2, i6⟩
theorem zt_ls2 {v : zV} {a : Nat} (h : zT p l e R s mi args below meth c Q Z D cy H0 bl L n0 mm M (zst2 a v al) st' pc') (hv : zsv M al → zsv M st → zvv M v ∧ zsv M st') (ha : a + 1 < zml mm) (k : ∀ (H : Heap) (locs : List Loc) (cells slots : Nat) (ls : Array Slot), zLR Z ls (zml mm) al → (∀ ls' : Array Slot, lv_has ls' (zml mm) ((a, zcv Z v) :: (zlo Z 0 al).filter (fun q => !(q.1 == a) && (!(q.1 == a + 1) && !(q.1 + 1 == a && q.2.category == 2)))) → W p l e R s mi args below meth c H locs cells slots Q (F0 mi pc' ls' (st'.map (zcv Z)))) → W p l e R s mi args below meth c H locs cells slots Q (F0 mi pc ls (st.map (zcv Z)))) : zT p l e R s mi args below meth c Q Z D cy H0 bl L n0 mm M al st pc := by
  intro H locs cells slots ls hI
  obtain ⟨i1, i2, i3, i4, i5, i6⟩ := hI
  obtain ⟨v1, v2⟩ := hv i4 i5
  exact k H locs cells slots ls i3 fun ls' h' => h H locs cells slots ls' ⟨i1, i2, zLR_st2 i3 ha h', zsv_st2 i4 v1, v2, i6⟩
theorem zlo_at {al : List zV} {a : Nat} {v : zV} (hv : znth a al = v) (hu : v ≠ zu) : ∃ k : Nat, (zlo Z 0 al)[k]? = some (a, zcv Z v) := by
  have h : (a, zcv Z v) ∈ zlo Z 0 al := (zlo_mem Z al 0 _).mpr ⟨a, v, znth_get a al v hv hu, hu, by rw [Nat.zero_add]⟩
  obtain ⟨k, hk⟩ := List.getElem?_of_mem h
  exact ⟨k, hk⟩
theorem zx_nI {β : Type} {v : zV} {f : Int32 → Option β} {res : β} (h : (match v with | .inl x => f x | _ => none) = some res) : ∃ x, v = zi x ∧ f x = some res := by
  match v, h with
  | .inl x, h => exact ⟨x, rfl, h⟩
theorem zx_nL {β : Type} {v : zV} {f : Int64 → Option β} {res : β} (h : (match v with | .inr (.inl x) => f x | _ => none) = some res) : ∃ x, v = zl x ∧ f x = some res := by
  match v, h with
  | .inr (.inl x), h => exact ⟨x, rfl, h⟩
theorem zx_nR {β : Type} {v : zV} {f : Nat × Nat → Option β} {res : β} (h : (match v with | .inr (.inr (.inl x)) => f x | _ => none) = some res) : ∃ x, v = zp x ∧ f x = some res := by
  match v, h with
  | .inr (.inr (.inl x)), h => exact ⟨x, rfl, h⟩
variable {kN : Nat → List zV → List zV → zM → Option (Option zV × zM)} {kR : Option zV → zM → Option (Option zV × zM)} {kC : Nat → List zV → Nat → List zV → List zV → zM → Option (Option zV × zM)} {res : Option zV × zM}
variable {n a d g : Nat} {z : Int32} {w : Int64} {sw : List (Int32 × Nat)} {cut : Bool}
theorem z1_iconst {v : Int} (cx : zCx p s mi args meth c R mm) (ev : zEv Z D cy H0 L s) (hz : zins mm pc = some ((.iconst v, n, (a, d, g), z, w, sw), cut)) (hX : zX kN kR kC bl pc al st M (.iconst v, n, (a, d, g), z, w, sw) = some res) (hN : ∀ (pc1 : Nat) (al1 st1 : List zV) (M1 : zM), kN pc1 al1 st1 M1 = some res → zT p l e R s mi args below meth c Q Z D cy H0 bl L n0 mm M1 al1 st1 pc1) : zT p l e R s mi args below meth c Q Z D cy H0 bl L n0 mm M al st pc := by
  obtain ⟨hdg, rfl, hc⟩ := zfact2 cx.2.2.2.2.2.2.2.2.2.2 hz rfl
  have hk : kN (pc + 1) al (zi z :: st) M = some res := hX
  exact zt_st (hN _ _ _ _ hk) (fun _ q => ⟨trivial, q⟩) (fun _ _ _ _ _ hL k => lv_iconst cx.1 cx.2.1 hdg (of_decide_eq_true hc) k)
theorem z1_bipush {v : Int} (cx : zCx p s mi args meth c R mm) (ev : zEv Z D cy H0 L s) (hz : zins mm pc = some ((.bipush v, n, (a, d, g), z, w, sw), cut)) (hX : zX kN kR kC bl pc al st M (.bipush v, n, (a, d, g), z, w, sw) = some res) (hN : ∀ (pc1 : Nat) (al1 st1 : List zV) (M1 : zM), kN pc1 al1 st1 M1 = some res → zT p l e R s mi args below meth c Q Z D cy H0 bl L n0 mm M1 al1 st1 pc1) : zT p l e R s mi args below meth c Q Z D cy H0 bl L n0 mm M al st pc := by
  obtain ⟨hdg, rfl, hc⟩ := zfact2 cx.2.2.2.2.2.2.2.2.2.2 hz rfl
  have hk : kN (pc + 2) al (zi z :: st) M = some res := hX
  exact zt_st (hN _ _ _ _ hk) (fun _ q => ⟨trivial, q⟩) (fun _ _ _ _ _ hL k => lv_bipush cx.1 cx.2.1 hdg (of_decide_eq_true hc) k)
theorem z1_sipush {v : Int} (cx : zCx p s mi args meth c R mm) (ev : zEv Z D cy H0 L s) (hz : zins mm pc = some ((.sipush v, n, (a, d, g), z, w, sw), cut)) (hX : zX kN kR kC bl pc al st M (.sipush v, n, (a, d, g), z, w, sw) = some res) (hN : ∀ (pc1 : Nat) (al1 st1 : List zV) (M1 : zM), kN pc1 al1 st1 M1 = some res → zT p l e R s mi args below meth c Q Z D cy H0 bl L n0 mm M1 al1 st1 pc1) : zT p l e R s mi args below meth c Q Z D cy H0 bl L n0 mm M al st pc := by
  obtain ⟨hdg, rfl, hc⟩ := zfact2 cx.2.2.2.2.2.2.2.2.2.2 hz rfl
  have hk : kN (pc + 3) al (zi z :: st) M = some res := hX
  exact zt_st (hN _ _ _ _ hk) (fun _ q => ⟨trivial, q⟩) (fun _ _ _ _ _ hL k => lv_sipush cx.1 cx.2.1 hdg (of_decide_eq_true hc) k)
theorem z1_lconst {v : Fin 2} (cx : zCx p s mi args meth c R mm) (ev : zEv Z D cy H0 L s) (hz : zins mm pc = some ((.lconst v, n, (a, d, g), z, w, sw), cut)) (hX : zX kN kR kC bl pc al st M (.lconst v, n, (a, d, g), z, w, sw) = some res) (hN : ∀ (pc1 : Nat) (al1 st1 : List zV) (M1 : zM), kN pc1 al1 st1 M1 = some res → zT p l e R s mi args below meth c Q Z D cy H0 bl L n0 mm M1 al1 st1 pc1) : zT p l e R s mi args below meth c Q Z D cy H0 bl L n0 mm M al st pc := by
  obtain ⟨hdg, rfl, hc⟩ := zfact2 cx.2.2.2.2.2.2.2.2.2.2 hz rfl
  have hk : kN (pc + 1) al (zl w :: st) M = some res := hX
  exact zt_st (hN _ _ _ _ hk) (fun _ q => ⟨trivial, q⟩) (fun _ _ _ _ _ hL k => lv_lconst cx.1 cx.2.1 hdg (of_decide_eq_true hc) k)
theorem z1_aconst (cx : zCx p s mi args meth c R mm) (ev : zEv Z D cy H0 L s) (hz : zins mm pc = some ((.aconst_null, n, (a, d, g), z, w, sw), cut)) (hX : zX kN kR kC bl pc al st M (.aconst_null, n, (a, d, g), z, w, sw) = some res) (hN : ∀ (pc1 : Nat) (al1 st1 : List zV) (M1 : zM), kN pc1 al1 st1 M1 = some res → zT p l e R s mi args below meth c Q Z D cy H0 bl L n0 mm M1 al1 st1 pc1) : zT p l e R s mi args below meth c Q Z D cy H0 bl L n0 mm M al st pc := by
  obtain ⟨hdg, rfl, hc⟩ := zfact2 cx.2.2.2.2.2.2.2.2.2.2 hz rfl
  have hk : kN (pc + 1) al (zr 0 0 :: st) M = some res := hX
  exact zt_st (hN _ _ _ _ hk) (fun _ q => ⟨Or.inl rfl, q⟩) (fun _ _ _ _ _ hL k => lv_null cx.1 cx.2.1 hdg k)
theorem z1_ldcw {i : Nat} (cx : zCx p s mi args meth c R mm) (ev : zEv Z D cy H0 L s) (hz : zins mm pc = some ((.ldc_w i, n, (a, d, g), z, w, sw), cut)) (hX : zX kN kR kC bl pc al st M (.ldc_w i, n, (a, d, g), z, w, sw) = some res) (hN : ∀ (pc1 : Nat) (al1 st1 : List zV) (M1 : zM), kN pc1 al1 st1 M1 = some res → zT p l e R s mi args below meth c Q Z D cy H0 bl L n0 mm M1 al1 st1 pc1) : zT p l e R s mi args below meth c Q Z D cy H0 bl L n0 mm M al st pc := by
  obtain ⟨hdg, rfl, hc⟩ := zfact2 cx.2.2.2.2.2.2.2.2.2.2 hz rfl
  have hk : kN (pc + 3) al (zi z :: st) M = some res := hX
  exact zt_st (hN _ _ _ _ hk) (fun _ q => ⟨trivial, q⟩) (fun _ _ _ _ _ hL k => lv_ldcw cx.1 cx.2.1 (own := zcs1 (zcm mm)) cx.2.2.2.1 (cx.2.2.2.2.1 _ (zKi_ok _ (of_decide_eq_true hc))) hdg k)
theorem z1_ldc2 {i : Nat} (cx : zCx p s mi args meth c R mm) (ev : zEv Z D cy H0 L s) (hz : zins mm pc = some ((.ldc2_w i, n, (a, d, g), z, w, sw), cut)) (hX : zX kN kR kC bl pc al st M (.ldc2_w i, n, (a, d, g), z, w, sw) = some res) (hN : ∀ (pc1 : Nat) (al1 st1 : List zV) (M1 : zM), kN pc1 al1 st1 M1 = some res → zT p l e R s mi args below meth c Q Z D cy H0 bl L n0 mm M1 al1 st1 pc1) : zT p l e R s mi args below meth c Q Z D cy H0 bl L n0 mm M al st pc := by
  obtain ⟨hdg, rfl, hc⟩ := zfact2 cx.2.2.2.2.2.2.2.2.2.2 hz rfl
  have hk : kN (pc + 3) al (zl w :: st) M = some res := hX
  exact zt_st (hN _ _ _ _ hk) (fun _ q => ⟨trivial, q⟩) (fun _ _ _ _ _ hL k => lv_ldc2 cx.1 cx.2.1 (own := zcs1 (zcm mm)) cx.2.2.2.1 (cx.2.2.2.2.1 _ (zKl_ok _ (of_decide_eq_true hc))) hdg k)
theorem z1_ldc {i : Nat} (cx : zCx p s mi args meth c R mm) (ev : zEv Z D cy H0 L s) (hz : zins mm pc = some ((.ldc i, n, (a, d, g), z, w, sw), cut)) (hX : zX kN kR kC bl pc al st M (.ldc i, n, (a, d, g), z, w, sw) = some res) (hN : ∀ (pc1 : Nat) (al1 st1 : List zV) (M1 : zM), kN pc1 al1 st1 M1 = some res → zT p l e R s mi args below meth c Q Z D cy H0 bl L n0 mm M1 al1 st1 pc1) : zT p l e R s mi args below meth c Q Z D cy H0 bl L n0 mm M al st pc := by
  obtain ⟨hdg, rfl, hc⟩ := zfact2 cx.2.2.2.2.2.2.2.2.2.2 hz rfl
  have hk : (bif Nat.beq a 1 then kN (pc + 2) al (zr 14 0 :: st) M else kN (pc + 2) al (zi z :: st) M) = some res := hX
  have hc : (Nat.beq a 1 && (Nat.beq (zcm mm) 7 && Nat.beq i 63) || Nat.beq a 0 && decide ((zcm mm, i, z) ∈ zKi)) = true := hc
  cases ha : Nat.beq a 1 with
  | true =>
    rw [ha] at hk hc
    have ha1 := zb_eq ha
    have h0 : Nat.beq a 0 = false := zb_ne (by omega)
    rw [h0] at hc
    simp only [Bool.true_and, Bool.false_and, Bool.or_false, Bool.and_eq_true] at hc
    have e1 : zcs1 (zcm mm) = "CardsGone$Reader" := by rw [zb_eq hc.1]; rfl
    have e2 := zb_eq hc.2
    subst e2
    exact zt_st (hN _ _ _ _ hk) (fun _ q => ⟨Or.inr (Or.inl ⟨Nat.le_refl _, by decide, rfl⟩), q⟩) (fun _ _ _ _ _ hL k => va_ldcS cx.1 cx.2.1 (own := "CardsGone$Reader") (by rw [← e1]; exact cx.2.2.2.1) ev.2.1 hdg k)
  | false =>
    rw [ha] at hk hc
    simp only [Bool.false_and, Bool.false_or, Bool.and_eq_true] at hc
    exact zt_st (hN _ _ _ _ hk) (fun _ q => ⟨trivial, q⟩) (fun _ _ _ _ _ hL k => lv_ldc cx.1 cx.2.1 (own := zcs1 (zcm mm)) cx.2.2.2.1 (cx.2.2.2.2.1 _ (zKi_ok _ (of_decide_eq_true hc.2))) hdg k)
theorem z1_getstatic {i : Nat} (cx : zCx p s mi args meth c R mm) (ev : zEv Z D cy H0 L s) (hz : zins mm pc = some ((.getstatic i, n, (a, d, g), z, w, sw), cut)) (hX : zX kN kR kC bl pc al st M (.getstatic i, n, (a, d, g), z, w, sw) = some res) (hN : ∀ (pc1 : Nat) (al1 st1 : List zV) (M1 : zM), kN pc1 al1 st1 M1 = some res → zT p l e R s mi args below meth c Q Z D cy H0 bl L n0 mm M1 al1 st1 pc1) : zT p l e R s mi args below meth c Q Z D cy H0 bl L n0 mm M al st pc := by
  obtain ⟨hdg, rfl, hc⟩ := zfact2 cx.2.2.2.2.2.2.2.2.2.2 hz rfl
  have hk : kN (pc + 3) al (zi z :: st) M = some res := hX
  have hc : (decide ((zcm mm, i) ∈ zGl) && decide (z = 1)) = true := hc
  simp only [Bool.and_eq_true, decide_eq_true_eq] at hc
  obtain ⟨hg, rfl⟩ := hc
  intro H locs cells slots ls hI
  obtain ⟨cf, kf, fi, f, ad, cell, h1, h2, h3, h4, h5, h6, h7, h8⟩ := ev.2.2.2.2.2.2.1
  have hlt : ad < Z.1 := by rw [← ev.2.2.2.2.2.2.2.2]; exact (Array.getElem?_eq_some_iff.mp h5).1
  refine W.gets cx.1 cx.2.1 (own := zcs1 (zcm mm)) cx.2.2.2.1 (cx.2.2.2.2.1 _ (zGl_ok _ hg)) h1 h2 h3 h4 (by rw [hI.1.2.2 ad hlt]; exact h5) (fun q => by rw [q] at h6; cases h6) h7 rfl hdg ?_
  exact hN _ _ _ _ hk H locs cells slots ls ⟨hI.1, hI.2.1, hI.2.2.1, hI.2.2.2.1, ⟨trivial, hI.2.2.2.2.1⟩, hI.2.2.2.2.2⟩
theorem z1_iload {i : Nat} (cx : zCx p s mi args meth c R mm) (ev : zEv Z D cy H0 L s) (hz : zins mm pc = some ((.iload i, n, (a, d, g), z, w, sw), cut)) (hX : zX kN kR kC bl pc al st M (.iload i, n, (a, d, g), z, w, sw) = some res) (hN : ∀ (pc1 : Nat) (al1 st1 : List zV) (M1 : zM), kN pc1 al1 st1 M1 = some res → zT p l e R s mi args below meth c Q Z D cy H0 bl L n0 mm M1 al1 st1 pc1) : zT p l e R s mi args below meth c Q Z D cy H0 bl L n0 mm M al st pc := by
  obtain ⟨hdg, rfl, hc⟩ := zfact2 cx.2.2.2.2.2.2.2.2.2.2 hz rfl
  have hi := zb_eq hc
  subst hi
  obtain ⟨x, hv, hk⟩ := zx_nI (v := znth i al) (f := fun x => kN (pc + 2) al (zi x :: st) M) hX
  exact zt_st (hN _ _ _ _ hk) (fun _ q => ⟨trivial, q⟩) (fun _ _ _ _ _ hL k => lv_iload cx.1 cx.2.1 hdg (zLR_at hL hv (by intro q; cases q)) k)
theorem z1_iload_n {i : Fin 4} (cx : zCx p s mi args meth c R mm) (ev : zEv Z D cy H0 L s) (hz : zins mm pc = some ((.iload_n i, n, (a, d, g), z, w, sw), cut)) (hX : zX kN kR kC bl pc al st M (.iload_n i, n, (a, d, g), z, w, sw) = some res) (hN : ∀ (pc1 : Nat) (al1 st1 : List zV) (M1 : zM), kN pc1 al1 st1 M1 = some res → zT p l e R s mi args below meth c Q Z D cy H0 bl L n0 mm M1 al1 st1 pc1) : zT p l e R s mi args below meth c Q Z D cy H0 bl L n0 mm M al st pc := by
  obtain ⟨hdg, rfl, hc⟩ := zfact2 cx.2.2.2.2.2.2.2.2.2.2 hz rfl
  obtain ⟨x, hv, hk⟩ := zx_nI (v := znth a al) (f := fun x => kN (pc + 1) al (zi x :: st) M) hX
  exact zt_st (hN _ _ _ _ hk) (fun _ q => ⟨trivial, q⟩) (fun _ _ _ _ _ hL k => lv_iload_n cx.1 cx.2.1 hdg (zb_eq hc) (zLR_at hL hv (by intro q; cases q)) k)
theorem z1_lload {i : Nat} (cx : zCx p s mi args meth c R mm) (ev : zEv Z D cy H0 L s) (hz : zins mm pc = some ((.lload i, n, (a, d, g), z, w, sw), cut)) (hX : zX kN kR kC bl pc al st M (.lload i, n, (a, d, g), z, w, sw) = some res) (hN : ∀ (pc1 : Nat) (al1 st1 : List zV) (M1 : zM), kN pc1 al1 st1 M1 = some res → zT p l e R s mi args below meth c Q Z D cy H0 bl L n0 mm M1 al1 st1 pc1) : zT p l e R s mi args below meth c Q Z D cy H0 bl L n0 mm M al st pc := by
  obtain ⟨hdg, rfl, hc⟩ := zfact2 cx.2.2.2.2.2.2.2.2.2.2 hz rfl
  have hi := zb_eq hc
  subst hi
  obtain ⟨x, hv, hk⟩ := zx_nL (v := znth i al) (f := fun x => kN (pc + 2) al (zl x :: st) M) hX
  exact zt_st (hN _ _ _ _ hk) (fun _ q => ⟨trivial, q⟩) (fun _ _ _ _ _ hL k => lv_lload cx.1 cx.2.1 hdg (zLR_at hL hv (by intro q; cases q)) k)
theorem z1_lload_n {i : Fin 4} (cx : zCx p s mi args meth c R mm) (ev : zEv Z D cy H0 L s) (hz : zins mm pc = some ((.lload_n i, n, (a, d, g), z, w, sw), cut)) (hX : zX kN kR kC bl pc al st M (.lload_n i, n, (a, d, g), z, w, sw) = some res) (hN : ∀ (pc1 : Nat) (al1 st1 : List zV) (M1 : zM), kN pc1 al1 st1 M1 = some res → zT p l e R s mi args below meth c Q Z D cy H0 bl L n0 mm M1 al1 st1 pc1) : zT p l e R s mi args below meth c Q Z D cy H0 bl L n0 mm M al st pc := by
  obtain ⟨hdg, rfl, hc⟩ := zfact2 cx.2.2.2.2.2.2.2.2.2.2 hz rfl
  obtain ⟨x, hv, hk⟩ := zx_nL (v := znth a al) (f := fun x => kN (pc + 1) al (zl x :: st) M) hX
  exact zt_st (hN _ _ _ _ hk) (fun _ q => ⟨trivial, q⟩) (fun _ _ _ _ _ hL k => lv_lload_n cx.1 cx.2.1 hdg (zb_eq hc) (zLR_at hL hv (by intro q; cases q)) k)
theorem z1_aload {i : Nat} (cx : zCx p s mi args meth c R mm) (ev : zEv Z D cy H0 L s) (hz : zins mm pc = some ((.aload i, n, (a, d, g), z, w, sw), cut)) (hX : zX kN kR kC bl pc al st M (.aload i, n, (a, d, g), z, w, sw) = some res) (hN : ∀ (pc1 : Nat) (al1 st1 : List zV) (M1 : zM), kN pc1 al1 st1 M1 = some res → zT p l e R s mi args below meth c Q Z D cy H0 bl L n0 mm M1 al1 st1 pc1) : zT p l e R s mi args below meth c Q Z D cy H0 bl L n0 mm M al st pc := by
  obtain ⟨hdg, rfl, hc⟩ := zfact2 cx.2.2.2.2.2.2.2.2.2.2 hz rfl
  have hi := zb_eq hc
  subst hi
  obtain ⟨x, hv, hk⟩ := zx_nR (v := znth i al) (f := fun x => kN (pc + 2) al (zp x :: st) M) hX
  have hl : ∀ ls : Array Slot, zLR Z ls (zml mm) al → ls[i]? = some (.val (zcv Z (zp x))) := fun ls hL => zLR_at hL hv (by intro q; cases q)
  refine zt_st (hN _ _ _ _ hk) (fun q1 q => ⟨zsv_nth q1 hv (by intro q; cases q), q⟩) (fun _ _ _ _ ls hL k => ?_)
  have hl1 := hl ls hL
  change W _ _ _ _ _ _ _ _ _ _ _ _ _ _ _ (F0 mi (pc + 2) ls (zcv Z (zp x) :: st.map (zcv Z))) at k
  by_cases hx : x.1 = 0
  · rw [zcv_null Z hx] at hl1 k
    exact lv_aloadN cx.1 cx.2.1 hdg hl1 k
  · rw [zcv_ref Z hx] at hl1 k
    exact lv_aload cx.1 cx.2.1 hdg hl1 k
theorem z1_aload_n {i : Fin 4} (cx : zCx p s mi args meth c R mm) (ev : zEv Z D cy H0 L s) (hz : zins mm pc = some ((.aload_n i, n, (a, d, g), z, w, sw), cut)) (hX : zX kN kR kC bl pc al st M (.aload_n i, n, (a, d, g), z, w, sw) = some res) (hN : ∀ (pc1 : Nat) (al1 st1 : List zV) (M1 : zM), kN pc1 al1 st1 M1 = some res → zT p l e R s mi args below meth c Q Z D cy H0 bl L n0 mm M1 al1 st1 pc1) : zT p l e R s mi args below meth c Q Z D cy H0 bl L n0 mm M al st pc := by
  obtain ⟨hdg, rfl, hc⟩ := zfact2 cx.2.2.2.2.2.2.2.2.2.2 hz rfl
  obtain ⟨x, hv, hk⟩ := zx_nR (v := znth a al) (f := fun x => kN (pc + 1) al (zp x :: st) M) hX
  have hl : ∀ ls : Array Slot, zLR Z ls (zml mm) al → ls[a]? = some (.val (zcv Z (zp x))) := fun ls hL => zLR_at hL hv (by intro q; cases q)
  refine zt_st (hN _ _ _ _ hk) (fun q1 q => ⟨zsv_nth q1 hv (by intro q; cases q), q⟩) (fun _ _ _ _ ls hL k => ?_)
  have hl1 := hl ls hL
  change W _ _ _ _ _ _ _ _ _ _ _ _ _ _ _ (F0 mi (pc + 1) ls (zcv Z (zp x) :: st.map (zcv Z))) at k
  by_cases hx : x.1 = 0
  · rw [zcv_null Z hx] at hl1 k
    exact lv_aload_nN cx.1 cx.2.1 hdg (zb_eq hc) hl1 k
  · rw [zcv_ref Z hx] at hl1 k
    exact lv_aload_n cx.1 cx.2.1 hdg (zb_eq hc) hl1 k
theorem z1_istore {i : Nat} (cx : zCx p s mi args meth c R mm) (ev : zEv Z D cy H0 L s) (hz : zins mm pc = some ((.istore i, n, (a, d, g), z, w, sw), cut)) (hX : zX kN kR kC bl pc al st M (.istore i, n, (a, d, g), z, w, sw) = some res) (hN : ∀ (pc1 : Nat) (al1 st1 : List zV) (M1 : zM), kN pc1 al1 st1 M1 = some res → zT p l e R s mi args below meth c Q Z D cy H0 bl L n0 mm M1 al1 st1 pc1) : zT p l e R s mi args below meth c Q Z D cy H0 bl L n0 mm M al st pc := by
  obtain ⟨hdg, rfl, hc⟩ := zfact2 cx.2.2.2.2.2.2.2.2.2.2 hz rfl
  have hc : (Nat.beq i a && decide (a < zml mm)) = true := hc
  simp only [Bool.and_eq_true, decide_eq_true_eq] at hc
  obtain ⟨hi, ha⟩ := hc
  have hi := zb_eq hi
  subst hi
  obtain _ | ⟨x | x | x | x, st⟩ := st
  · cases hX
  · skip
    have hk : kN (pc + 2) (zst i (zi x) al) st M = some res := hX
    exact zt_ls (hN _ _ _ _ hk) (fun _ q => ⟨trivial, q.2⟩) ha (fun _ _ _ _ _ hL k => lv_istore cx.1 cx.2.1 hdg (zLR_has hL) ha rfl k)
  · cases hX
  · cases hX
  · cases hX
theorem z1_istore_n {i : Fin 4} (cx : zCx p s mi args meth c R mm) (ev : zEv Z D cy H0 L s) (hz : zins mm pc = some ((.istore_n i, n, (a, d, g), z, w, sw), cut)) (hX : zX kN kR kC bl pc al st M (.istore_n i, n, (a, d, g), z, w, sw) = some res) (hN : ∀ (pc1 : Nat) (al1 st1 : List zV) (M1 : zM), kN pc1 al1 st1 M1 = some res → zT p l e R s mi args below meth c Q Z D cy H0 bl L n0 mm M1 al1 st1 pc1) : zT p l e R s mi args below meth c Q Z D cy H0 bl L n0 mm M al st pc := by
  obtain ⟨hdg, rfl, hc⟩ := zfact2 cx.2.2.2.2.2.2.2.2.2.2 hz rfl
  have hc : (Nat.beq i.val a && decide (a < zml mm)) = true := hc
  simp only [Bool.and_eq_true, decide_eq_true_eq] at hc
  obtain ⟨hi, ha⟩ := hc
  have hi := zb_eq hi
  subst hi
  obtain _ | ⟨x | x | x | x, st⟩ := st
  · cases hX
  · skip
    have hk : kN (pc + 1) (zst i.val (zi x) al) st M = some res := hX
    exact zt_ls (hN _ _ _ _ hk) (fun _ q => ⟨trivial, q.2⟩) ha (fun _ _ _ _ _ hL k => lv_istore_n cx.1 cx.2.1 hdg rfl (zLR_has hL) ha rfl k)
  · cases hX
  · cases hX
  · cases hX
theorem z1_lstore {i : Nat} (cx : zCx p s mi args meth c R mm) (ev : zEv Z D cy H0 L s) (hz : zins mm pc = some ((.lstore i, n, (a, d, g), z, w, sw), cut)) (hX : zX kN kR kC bl pc al st M (.lstore i, n, (a, d, g), z, w, sw) = some res) (hN : ∀ (pc1 : Nat) (al1 st1 : List zV) (M1 : zM), kN pc1 al1 st1 M1 = some res → zT p l e R s mi args below meth c Q Z D cy H0 bl L n0 mm M1 al1 st1 pc1) : zT p l e R s mi args below meth c Q Z D cy H0 bl L n0 mm M al st pc := by
  obtain ⟨hdg, rfl, hc⟩ := zfact2 cx.2.2.2.2.2.2.2.2.2.2 hz rfl
  have hc : (Nat.beq i a && decide (a + 1 < zml mm)) = true := hc
  simp only [Bool.and_eq_true, decide_eq_true_eq] at hc
  obtain ⟨hi, ha⟩ := hc
  have hi := zb_eq hi
  subst hi
  obtain _ | ⟨x | x | x | x, st⟩ := st
  · cases hX
  · cases hX
  · skip
    have hk : kN (pc + 2) (zst2 i (zl x) al) st M = some res := hX
    exact zt_ls2 (hN _ _ _ _ hk) (fun _ q => ⟨trivial, q.2⟩) ha (fun _ _ _ _ _ hL k => lv_lstore cx.1 cx.2.1 hdg (zLR_has hL) ha rfl k)
  · cases hX
  · cases hX
theorem z1_lstore_n {i : Fin 4} (cx : zCx p s mi args meth c R mm) (ev : zEv Z D cy H0 L s) (hz : zins mm pc = some ((.lstore_n i, n, (a, d, g), z, w, sw), cut)) (hX : zX kN kR kC bl pc al st M (.lstore_n i, n, (a, d, g), z, w, sw) = some res) (hN : ∀ (pc1 : Nat) (al1 st1 : List zV) (M1 : zM), kN pc1 al1 st1 M1 = some res → zT p l e R s mi args below meth c Q Z D cy H0 bl L n0 mm M1 al1 st1 pc1) : zT p l e R s mi args below meth c Q Z D cy H0 bl L n0 mm M al st pc := by
  obtain ⟨hdg, rfl, hc⟩ := zfact2 cx.2.2.2.2.2.2.2.2.2.2 hz rfl
  have hc : (Nat.beq i.val a && decide (a + 1 < zml mm)) = true := hc
  simp only [Bool.and_eq_true, decide_eq_true_eq] at hc
  obtain ⟨hi, ha⟩ := hc
  have hi := zb_eq hi
  subst hi
  obtain _ | ⟨x | x | x | x, st⟩ := st
  · cases hX
  · cases hX
  · skip
    have hk : kN (pc + 1) (zst2 i.val (zl x) al) st M = some res := hX
    exact zt_ls2 (hN _ _ _ _ hk) (fun _ q => ⟨trivial, q.2⟩) ha (fun _ _ _ _ _ hL k => lv_lstore_n cx.1 cx.2.1 hdg rfl (zLR_has hL) ha rfl k)
  · cases hX
  · cases hX
theorem z1_astore {i : Nat} (cx : zCx p s mi args meth c R mm) (ev : zEv Z D cy H0 L s) (hz : zins mm pc = some ((.astore i, n, (a, d, g), z, w, sw), cut)) (hX : zX kN kR kC bl pc al st M (.astore i, n, (a, d, g), z, w, sw) = some res) (hN : ∀ (pc1 : Nat) (al1 st1 : List zV) (M1 : zM), kN pc1 al1 st1 M1 = some res → zT p l e R s mi args below meth c Q Z D cy H0 bl L n0 mm M1 al1 st1 pc1) : zT p l e R s mi args below meth c Q Z D cy H0 bl L n0 mm M al st pc := by
  obtain ⟨hdg, rfl, hc⟩ := zfact2 cx.2.2.2.2.2.2.2.2.2.2 hz rfl
  have hc : (Nat.beq i a && decide (a < zml mm)) = true := hc
  simp only [Bool.and_eq_true, decide_eq_true_eq] at hc
  obtain ⟨hi, ha⟩ := hc
  have hi := zb_eq hi
  subst hi
  obtain _ | ⟨x | x | x | x, st⟩ := st
  · cases hX
  · cases hX
  · cases hX
  · skip
    have hk : kN (pc + 2) (zst i (zp x) al) st M = some res := hX
    refine zt_ls (hN _ _ _ _ hk) (fun _ q => ⟨q.1, q.2⟩) ha (fun _ _ _ _ ls hL k => ?_)
    show W _ _ _ _ _ _ _ _ _ _ _ _ _ _ _ (F0 mi pc ls (zcv Z (zp x) :: st.map (zcv Z)))
    by_cases hx : x.1 = 0
    · rw [zcv_null Z hx] at k ⊢
      exact lv_astoreN cx.1 cx.2.1 hdg (zLR_has hL) ha rfl k
    · rw [zcv_ref Z hx] at k ⊢
      exact lv_astore cx.1 cx.2.1 hdg (zLR_has hL) ha rfl k
  · cases hX
theorem z1_astore_n {i : Fin 4} (cx : zCx p s mi args meth c R mm) (ev : zEv Z D cy H0 L s) (hz : zins mm pc = some ((.astore_n i, n, (a, d, g), z, w, sw), cut)) (hX : zX kN kR kC bl pc al st M (.astore_n i, n, (a, d, g), z, w, sw) = some res) (hN : ∀ (pc1 : Nat) (al1 st1 : List zV) (M1 : zM), kN pc1 al1 st1 M1 = some res → zT p l e R s mi args below meth c Q Z D cy H0 bl L n0 mm M1 al1 st1 pc1) : zT p l e R s mi args below meth c Q Z D cy H0 bl L n0 mm M al st pc := by
  obtain ⟨hdg, rfl, hc⟩ := zfact2 cx.2.2.2.2.2.2.2.2.2.2 hz rfl
  have hc : (Nat.beq i.val a && decide (a < zml mm)) = true := hc
  simp only [Bool.and_eq_true, decide_eq_true_eq] at hc
  obtain ⟨hi, ha⟩ := hc
  have hi := zb_eq hi
  subst hi
  obtain _ | ⟨x | x | x | x, st⟩ := st
  · cases hX
  · cases hX
  · cases hX
  · skip
    have hk : kN (pc + 1) (zst i.val (zp x) al) st M = some res := hX
    refine zt_ls (hN _ _ _ _ hk) (fun _ q => ⟨q.1, q.2⟩) ha (fun _ _ _ _ ls hL k => ?_)
    show W _ _ _ _ _ _ _ _ _ _ _ _ _ _ _ (F0 mi pc ls (zcv Z (zp x) :: st.map (zcv Z)))
    by_cases hx : x.1 = 0
    · rw [zcv_null Z hx] at k ⊢
      exact lv_astore_nN cx.1 cx.2.1 hdg rfl (zLR_has hL) ha rfl k
    · rw [zcv_ref Z hx] at k ⊢
      exact lv_astore_n cx.1 cx.2.1 hdg rfl (zLR_has hL) ha rfl k
  · cases hX
theorem z1_iinc {i : Nat} {v : Int} (cx : zCx p s mi args meth c R mm) (ev : zEv Z D cy H0 L s) (hz : zins mm pc = some ((.iinc i v, n, (a, d, g), z, w, sw), cut)) (hX : zX kN kR kC bl pc al st M (.iinc i v, n, (a, d, g), z, w, sw) = some res) (hN : ∀ (pc1 : Nat) (al1 st1 : List zV) (M1 : zM), kN pc1 al1 st1 M1 = some res → zT p l e R s mi args below meth c Q Z D cy H0 bl L n0 mm M1 al1 st1 pc1) : zT p l e R s mi args below meth c Q Z D cy H0 bl L n0 mm M al st pc := by
  obtain ⟨hdg, rfl, hc⟩ := zfact2 cx.2.2.2.2.2.2.2.2.2.2 hz rfl
  have hc : (Nat.beq i a && (decide (Int32.ofInt v = z) && decide (a < zml mm))) = true := hc
  simp only [Bool.and_eq_true, decide_eq_true_eq] at hc
  obtain ⟨hi, hw, ha⟩ := hc
  have hi := zb_eq hi
  subst hi
  subst hw
  obtain ⟨x, hv, hk⟩ := zx_nI (v := znth i al) (f := fun x => kN (pc + 3) (zst i (zi (x + Int32.ofInt v)) al) st M) hX
  obtain ⟨j, hj⟩ := zlo_at (Z := Z) hv (by intro q; cases q)
  exact zt_ls (hN _ _ _ _ hk) (fun _ q => ⟨trivial, q⟩) ha (fun _ _ _ _ _ hL k => lv_iinc cx.1 cx.2.1 hdg (zLR_has hL) hj rfl ha rfl k)
theorem z1_iadd (cx : zCx p s mi args meth c R mm) (ev : zEv Z D cy H0 L s) (hz : zins mm pc = some ((.iadd, n, (a, d, g), z, w, sw), cut)) (hX : zX kN kR kC bl pc al st M (.iadd, n, (a, d, g), z, w, sw) = some res) (hN : ∀ (pc1 : Nat) (al1 st1 : List zV) (M1 : zM), kN pc1 al1 st1 M1 = some res → zT p l e R s mi args below meth c Q Z D cy H0 bl L n0 mm M1 al1 st1 pc1) : zT p l e R s mi args below meth c Q Z D cy H0 bl L n0 mm M al st pc := by
  obtain ⟨hdg, rfl, hc⟩ := zfact2 cx.2.2.2.2.2.2.2.2.2.2 hz rfl
  obtain _ | ⟨y | y | y | y, st⟩ := st
  · cases hX
  · skip
    obtain _ | ⟨x | x | x | x, st⟩ := st
    · cases hX
    · skip
      have hk : kN (pc + 1) al (zi (x + y) :: st) M = some res := hX
      exact zt_st (hN _ _ _ _ hk) (fun _ q => ⟨trivial, q.2.2⟩) (fun _ _ _ _ _ hL k => lv_iadd cx.1 cx.2.1 hdg k)
    · cases hX
    · cases hX
    · cases hX
  · cases hX
  · cases hX
  · cases hX
theorem z1_isub (cx : zCx p s mi args meth c R mm) (ev : zEv Z D cy H0 L s) (hz : zins mm pc = some ((.isub, n, (a, d, g), z, w, sw), cut)) (hX : zX kN kR kC bl pc al st M (.isub, n, (a, d, g), z, w, sw) = some res) (hN : ∀ (pc1 : Nat) (al1 st1 : List zV) (M1 : zM), kN pc1 al1 st1 M1 = some res → zT p l e R s mi args below meth c Q Z D cy H0 bl L n0 mm M1 al1 st1 pc1) : zT p l e R s mi args below meth c Q Z D cy H0 bl L n0 mm M al st pc := by
  obtain ⟨hdg, rfl, hc⟩ := zfact2 cx.2.2.2.2.2.2.2.2.2.2 hz rfl
  obtain _ | ⟨y | y | y | y, st⟩ := st
  · cases hX
  · skip
    obtain _ | ⟨x | x | x | x, st⟩ := st
    · cases hX
    · skip
      have hk : kN (pc + 1) al (zi (x - y) :: st) M = some res := hX
      exact zt_st (hN _ _ _ _ hk) (fun _ q => ⟨trivial, q.2.2⟩) (fun _ _ _ _ _ hL k => lv_isub cx.1 cx.2.1 hdg k)
    · cases hX
    · cases hX
    · cases hX
  · cases hX
  · cases hX
  · cases hX
theorem z1_imul (cx : zCx p s mi args meth c R mm) (ev : zEv Z D cy H0 L s) (hz : zins mm pc = some ((.imul, n, (a, d, g), z, w, sw), cut)) (hX : zX kN kR kC bl pc al st M (.imul, n, (a, d, g), z, w, sw) = some res) (hN : ∀ (pc1 : Nat) (al1 st1 : List zV) (M1 : zM), kN pc1 al1 st1 M1 = some res → zT p l e R s mi args below meth c Q Z D cy H0 bl L n0 mm M1 al1 st1 pc1) : zT p l e R s mi args below meth c Q Z D cy H0 bl L n0 mm M al st pc := by
  obtain ⟨hdg, rfl, hc⟩ := zfact2 cx.2.2.2.2.2.2.2.2.2.2 hz rfl
  obtain _ | ⟨y | y | y | y, st⟩ := st
  · cases hX
  · skip
    obtain _ | ⟨x | x | x | x, st⟩ := st
    · cases hX
    · skip
      have hk : kN (pc + 1) al (zi (x * y) :: st) M = some res := hX
      exact zt_st (hN _ _ _ _ hk) (fun _ q => ⟨trivial, q.2.2⟩) (fun _ _ _ _ _ hL k => lv_imul cx.1 cx.2.1 hdg k)
    · cases hX
    · cases hX
    · cases hX
  · cases hX
  · cases hX
  · cases hX
theorem z1_iand (cx : zCx p s mi args meth c R mm) (ev : zEv Z D cy H0 L s) (hz : zins mm pc = some ((.iand, n, (a, d, g), z, w, sw), cut)) (hX : zX kN kR kC bl pc al st M (.iand, n, (a, d, g), z, w, sw) = some res) (hN : ∀ (pc1 : Nat) (al1 st1 : List zV) (M1 : zM), kN pc1 al1 st1 M1 = some res → zT p l e R s mi args below meth c Q Z D cy H0 bl L n0 mm M1 al1 st1 pc1) : zT p l e R s mi args below meth c Q Z D cy H0 bl L n0 mm M al st pc := by
  obtain ⟨hdg, rfl, hc⟩ := zfact2 cx.2.2.2.2.2.2.2.2.2.2 hz rfl
  obtain _ | ⟨y | y | y | y, st⟩ := st
  · cases hX
  · skip
    obtain _ | ⟨x | x | x | x, st⟩ := st
    · cases hX
    · skip
      have hk : kN (pc + 1) al (zi (x &&& y) :: st) M = some res := hX
      exact zt_st (hN _ _ _ _ hk) (fun _ q => ⟨trivial, q.2.2⟩) (fun _ _ _ _ _ hL k => lv_iand cx.1 cx.2.1 hdg k)
    · cases hX
    · cases hX
    · cases hX
  · cases hX
  · cases hX
  · cases hX
theorem z1_ior (cx : zCx p s mi args meth c R mm) (ev : zEv Z D cy H0 L s) (hz : zins mm pc = some ((.ior, n, (a, d, g), z, w, sw), cut)) (hX : zX kN kR kC bl pc al st M (.ior, n, (a, d, g), z, w, sw) = some res) (hN : ∀ (pc1 : Nat) (al1 st1 : List zV) (M1 : zM), kN pc1 al1 st1 M1 = some res → zT p l e R s mi args below meth c Q Z D cy H0 bl L n0 mm M1 al1 st1 pc1) : zT p l e R s mi args below meth c Q Z D cy H0 bl L n0 mm M al st pc := by
  obtain ⟨hdg, rfl, hc⟩ := zfact2 cx.2.2.2.2.2.2.2.2.2.2 hz rfl
  obtain _ | ⟨y | y | y | y, st⟩ := st
  · cases hX
  · skip
    obtain _ | ⟨x | x | x | x, st⟩ := st
    · cases hX
    · skip
      have hk : kN (pc + 1) al (zi (x ||| y) :: st) M = some res := hX
      exact zt_st (hN _ _ _ _ hk) (fun _ q => ⟨trivial, q.2.2⟩) (fun _ _ _ _ _ hL k => lv_ior cx.1 cx.2.1 hdg k)
    · cases hX
    · cases hX
    · cases hX
  · cases hX
  · cases hX
  · cases hX
theorem z1_ishl (cx : zCx p s mi args meth c R mm) (ev : zEv Z D cy H0 L s) (hz : zins mm pc = some ((.ishl, n, (a, d, g), z, w, sw), cut)) (hX : zX kN kR kC bl pc al st M (.ishl, n, (a, d, g), z, w, sw) = some res) (hN : ∀ (pc1 : Nat) (al1 st1 : List zV) (M1 : zM), kN pc1 al1 st1 M1 = some res → zT p l e R s mi args below meth c Q Z D cy H0 bl L n0 mm M1 al1 st1 pc1) : zT p l e R s mi args below meth c Q Z D cy H0 bl L n0 mm M al st pc := by
  obtain ⟨hdg, rfl, hc⟩ := zfact2 cx.2.2.2.2.2.2.2.2.2.2 hz rfl
  obtain _ | ⟨y | y | y | y, st⟩ := st
  · cases hX
  · skip
    obtain _ | ⟨x | x | x | x, st⟩ := st
    · cases hX
    · skip
      have hk : kN (pc + 1) al (zi (x <<< (y &&& 31)) :: st) M = some res := hX
      exact zt_st (hN _ _ _ _ hk) (fun _ q => ⟨trivial, q.2.2⟩) (fun _ _ _ _ _ hL k => lv_ishl cx.1 cx.2.1 hdg k)
    · cases hX
    · cases hX
    · cases hX
  · cases hX
  · cases hX
  · cases hX
theorem z1_ixor (cx : zCx p s mi args meth c R mm) (ev : zEv Z D cy H0 L s) (hz : zins mm pc = some ((.ixor, n, (a, d, g), z, w, sw), cut)) (hX : zX kN kR kC bl pc al st M (.ixor, n, (a, d, g), z, w, sw) = some res) (hN : ∀ (pc1 : Nat) (al1 st1 : List zV) (M1 : zM), kN pc1 al1 st1 M1 = some res → zT p l e R s mi args below meth c Q Z D cy H0 bl L n0 mm M1 al1 st1 pc1) : zT p l e R s mi args below meth c Q Z D cy H0 bl L n0 mm M al st pc := by
  obtain ⟨hdg, rfl, hc⟩ := zfact2 cx.2.2.2.2.2.2.2.2.2.2 hz rfl
  obtain _ | ⟨y | y | y | y, st⟩ := st
  · cases hX
  · skip
    obtain _ | ⟨x | x | x | x, st⟩ := st
    · cases hX
    · skip
      have hk : kN (pc + 1) al (zi (x ^^^ y) :: st) M = some res := hX
      exact zt_st (hN _ _ _ _ hk) (fun _ q => ⟨trivial, q.2.2⟩) (fun _ _ _ _ _ hL k => lv_ixor cx.1 cx.2.1 hdg k)
    · cases hX
    · cases hX
    · cases hX
  · cases hX
  · cases hX
  · cases hX
theorem z1_ishr (cx : zCx p s mi args meth c R mm) (ev : zEv Z D cy H0 L s) (hz : zins mm pc = some ((.ishr, n, (a, d, g), z, w, sw), cut)) (hX : zX kN kR kC bl pc al st M (.ishr, n, (a, d, g), z, w, sw) = some res) (hN : ∀ (pc1 : Nat) (al1 st1 : List zV) (M1 : zM), kN pc1 al1 st1 M1 = some res → zT p l e R s mi args below meth c Q Z D cy H0 bl L n0 mm M1 al1 st1 pc1) : zT p l e R s mi args below meth c Q Z D cy H0 bl L n0 mm M al st pc := by
  obtain ⟨hdg, rfl, hc⟩ := zfact2 cx.2.2.2.2.2.2.2.2.2.2 hz rfl
  obtain _ | ⟨y | y | y | y, st⟩ := st
  · cases hX
  · skip
    obtain _ | ⟨x | x | x | x, st⟩ := st
    · cases hX
    · skip
      have hk : kN (pc + 1) al (zi (x >>> (y &&& 31)) :: st) M = some res := hX
      exact zt_st (hN _ _ _ _ hk) (fun _ q => ⟨trivial, q.2.2⟩) (fun _ _ _ _ _ hL k => lv_ishr cx.1 cx.2.1 hdg k)
    · cases hX
    · cases hX
    · cases hX
  · cases hX
  · cases hX
  · cases hX
theorem z1_iushr (cx : zCx p s mi args meth c R mm) (ev : zEv Z D cy H0 L s) (hz : zins mm pc = some ((.iushr, n, (a, d, g), z, w, sw), cut)) (hX : zX kN kR kC bl pc al st M (.iushr, n, (a, d, g), z, w, sw) = some res) (hN : ∀ (pc1 : Nat) (al1 st1 : List zV) (M1 : zM), kN pc1 al1 st1 M1 = some res → zT p l e R s mi args below meth c Q Z D cy H0 bl L n0 mm M1 al1 st1 pc1) : zT p l e R s mi args below meth c Q Z D cy H0 bl L n0 mm M al st pc := by
  obtain ⟨hdg, rfl, hc⟩ := zfact2 cx.2.2.2.2.2.2.2.2.2.2 hz rfl
  obtain _ | ⟨y | y | y | y, st⟩ := st
  · cases hX
  · skip
    obtain _ | ⟨x | x | x | x, st⟩ := st
    · cases hX
    · skip
      have hk : kN (pc + 1) al (zi (x.toUInt32 >>> (y.toUInt32 &&& Int32.toUInt32 31)).toInt32 :: st) M = some res := hX
      exact zt_st (hN _ _ _ _ hk) (fun _ q => ⟨trivial, q.2.2⟩) (fun _ _ _ _ _ hL k => lv_iushr cx.1 cx.2.1 hdg rfl k)
    · cases hX
    · cases hX
    · cases hX
  · cases hX
  · cases hX
  · cases hX
theorem z1_idiv (cx : zCx p s mi args meth c R mm) (ev : zEv Z D cy H0 L s) (hz : zins mm pc = some ((.idiv, n, (a, d, g), z, w, sw), cut)) (hX : zX kN kR kC bl pc al st M (.idiv, n, (a, d, g), z, w, sw) = some res) (hN : ∀ (pc1 : Nat) (al1 st1 : List zV) (M1 : zM), kN pc1 al1 st1 M1 = some res → zT p l e R s mi args below meth c Q Z D cy H0 bl L n0 mm M1 al1 st1 pc1) : zT p l e R s mi args below meth c Q Z D cy H0 bl L n0 mm M al st pc := by
  obtain ⟨hdg, rfl, hc⟩ := zfact2 cx.2.2.2.2.2.2.2.2.2.2 hz rfl
  obtain _ | ⟨y | y | y | y, st⟩ := st
  · cases hX
  · skip
    obtain _ | ⟨x | x | x | x, st⟩ := st
    · cases hX
    · skip
      by_cases hy : y = 0
      · have hk : (if y = 0 then none else kN (pc + 1) al (zi (x / y) :: st) M) = some res := hX
        rw [if_pos hy] at hk
        cases hk
      have hk : (if y = 0 then none else kN (pc + 1) al (zi (x / y) :: st) M) = some res := hX
      rw [if_neg hy] at hk
      exact zt_st (hN _ _ _ _ hk) (fun _ q => ⟨trivial, q.2.2⟩) (fun _ _ _ _ _ hL k => lv_idiv cx.1 cx.2.1 hdg hy k)
    · cases hX
    · cases hX
    · cases hX
  · cases hX
  · cases hX
  · cases hX
theorem z1_irem (cx : zCx p s mi args meth c R mm) (ev : zEv Z D cy H0 L s) (hz : zins mm pc = some ((.irem, n, (a, d, g), z, w, sw), cut)) (hX : zX kN kR kC bl pc al st M (.irem, n, (a, d, g), z, w, sw) = some res) (hN : ∀ (pc1 : Nat) (al1 st1 : List zV) (M1 : zM), kN pc1 al1 st1 M1 = some res → zT p l e R s mi args below meth c Q Z D cy H0 bl L n0 mm M1 al1 st1 pc1) : zT p l e R s mi args below meth c Q Z D cy H0 bl L n0 mm M al st pc := by
  obtain ⟨hdg, rfl, hc⟩ := zfact2 cx.2.2.2.2.2.2.2.2.2.2 hz rfl
  obtain _ | ⟨y | y | y | y, st⟩ := st
  · cases hX
  · skip
    obtain _ | ⟨x | x | x | x, st⟩ := st
    · cases hX
    · skip
      by_cases hy : y = 0
      · have hk : (if y = 0 then none else kN (pc + 1) al (zi (x - x / y * y) :: st) M) = some res := hX
        rw [if_pos hy] at hk
        cases hk
      have hk : (if y = 0 then none else kN (pc + 1) al (zi (x - x / y * y) :: st) M) = some res := hX
      rw [if_neg hy] at hk
      exact zt_st (hN _ _ _ _ hk) (fun _ q => ⟨trivial, q.2.2⟩) (fun _ _ _ _ _ hL k => lv_irem cx.1 cx.2.1 hdg hy k)
    · cases hX
    · cases hX
    · cases hX
  · cases hX
  · cases hX
  · cases hX
theorem z1_ineg (cx : zCx p s mi args meth c R mm) (ev : zEv Z D cy H0 L s) (hz : zins mm pc = some ((.ineg, n, (a, d, g), z, w, sw), cut)) (hX : zX kN kR kC bl pc al st M (.ineg, n, (a, d, g), z, w, sw) = some res) (hN : ∀ (pc1 : Nat) (al1 st1 : List zV) (M1 : zM), kN pc1 al1 st1 M1 = some res → zT p l e R s mi args below meth c Q Z D cy H0 bl L n0 mm M1 al1 st1 pc1) : zT p l e R s mi args below meth c Q Z D cy H0 bl L n0 mm M al st pc := by
  obtain ⟨hdg, rfl, hc⟩ := zfact2 cx.2.2.2.2.2.2.2.2.2.2 hz rfl
  obtain _ | ⟨x | x | x | x, st⟩ := st
  · cases hX
  · skip
    have hk : kN (pc + 1) al (zi (-x) :: st) M = some res := hX
    exact zt_st (hN _ _ _ _ hk) (fun _ q => ⟨trivial, q.2⟩) (fun _ _ _ _ _ hL k => lv_ineg cx.1 cx.2.1 hdg k)
  · cases hX
  · cases hX
  · cases hX
theorem z1_i2b (cx : zCx p s mi args meth c R mm) (ev : zEv Z D cy H0 L s) (hz : zins mm pc = some ((.i2b, n, (a, d, g), z, w, sw), cut)) (hX : zX kN kR kC bl pc al st M (.i2b, n, (a, d, g), z, w, sw) = some res) (hN : ∀ (pc1 : Nat) (al1 st1 : List zV) (M1 : zM), kN pc1 al1 st1 M1 = some res → zT p l e R s mi args below meth c Q Z D cy H0 bl L n0 mm M1 al1 st1 pc1) : zT p l e R s mi args below meth c Q Z D cy H0 bl L n0 mm M al st pc := by
  obtain ⟨hdg, rfl, hc⟩ := zfact2 cx.2.2.2.2.2.2.2.2.2.2 hz rfl
  obtain _ | ⟨x | x | x | x, st⟩ := st
  · cases hX
  · skip
    have hk : kN (pc + 1) al (zi x.toInt8.toInt32 :: st) M = some res := hX
    exact zt_st (hN _ _ _ _ hk) (fun _ q => ⟨trivial, q.2⟩) (fun _ _ _ _ _ hL k => lv_i2b cx.1 cx.2.1 hdg rfl k)
  · cases hX
  · cases hX
  · cases hX
theorem z1_i2s (cx : zCx p s mi args meth c R mm) (ev : zEv Z D cy H0 L s) (hz : zins mm pc = some ((.i2s, n, (a, d, g), z, w, sw), cut)) (hX : zX kN kR kC bl pc al st M (.i2s, n, (a, d, g), z, w, sw) = some res) (hN : ∀ (pc1 : Nat) (al1 st1 : List zV) (M1 : zM), kN pc1 al1 st1 M1 = some res → zT p l e R s mi args below meth c Q Z D cy H0 bl L n0 mm M1 al1 st1 pc1) : zT p l e R s mi args below meth c Q Z D cy H0 bl L n0 mm M al st pc := by
  obtain ⟨hdg, rfl, hc⟩ := zfact2 cx.2.2.2.2.2.2.2.2.2.2 hz rfl
  obtain _ | ⟨x | x | x | x, st⟩ := st
  · cases hX
  · skip
    have hk : kN (pc + 1) al (zi x.toInt16.toInt32 :: st) M = some res := hX
    exact zt_st (hN _ _ _ _ hk) (fun _ q => ⟨trivial, q.2⟩) (fun _ _ _ _ _ hL k => lv_i2s cx.1 cx.2.1 hdg rfl k)
  · cases hX
  · cases hX
  · cases hX
theorem z1_i2c (cx : zCx p s mi args meth c R mm) (ev : zEv Z D cy H0 L s) (hz : zins mm pc = some ((.i2c, n, (a, d, g), z, w, sw), cut)) (hX : zX kN kR kC bl pc al st M (.i2c, n, (a, d, g), z, w, sw) = some res) (hN : ∀ (pc1 : Nat) (al1 st1 : List zV) (M1 : zM), kN pc1 al1 st1 M1 = some res → zT p l e R s mi args below meth c Q Z D cy H0 bl L n0 mm M1 al1 st1 pc1) : zT p l e R s mi args below meth c Q Z D cy H0 bl L n0 mm M al st pc := by
  obtain ⟨hdg, rfl, hc⟩ := zfact2 cx.2.2.2.2.2.2.2.2.2.2 hz rfl
  obtain _ | ⟨x | x | x | x, st⟩ := st
  · cases hX
  · skip
    have hk : kN (pc + 1) al (zi (x.toUInt32 % 65536).toInt32 :: st) M = some res := hX
    exact zt_st (hN _ _ _ _ hk) (fun _ q => ⟨trivial, q.2⟩) (fun _ _ _ _ _ hL k => lv_i2c cx.1 cx.2.1 hdg rfl k)
  · cases hX
  · cases hX
  · cases hX
theorem z1_i2l (cx : zCx p s mi args meth c R mm) (ev : zEv Z D cy H0 L s) (hz : zins mm pc = some ((.i2l, n, (a, d, g), z, w, sw), cut)) (hX : zX kN kR kC bl pc al st M (.i2l, n, (a, d, g), z, w, sw) = some res) (hN : ∀ (pc1 : Nat) (al1 st1 : List zV) (M1 : zM), kN pc1 al1 st1 M1 = some res → zT p l e R s mi args below meth c Q Z D cy H0 bl L n0 mm M1 al1 st1 pc1) : zT p l e R s mi args below meth c Q Z D cy H0 bl L n0 mm M al st pc := by
  obtain ⟨hdg, rfl, hc⟩ := zfact2 cx.2.2.2.2.2.2.2.2.2.2 hz rfl
  obtain _ | ⟨x | x | x | x, st⟩ := st
  · cases hX
  · skip
    have hk : kN (pc + 1) al (zl x.toInt64 :: st) M = some res := hX
    exact zt_st (hN _ _ _ _ hk) (fun _ q => ⟨trivial, q.2⟩) (fun _ _ _ _ _ hL k => lv_i2l cx.1 cx.2.1 hdg rfl k)
  · cases hX
  · cases hX
  · cases hX
theorem z1_l2i (cx : zCx p s mi args meth c R mm) (ev : zEv Z D cy H0 L s) (hz : zins mm pc = some ((.l2i, n, (a, d, g), z, w, sw), cut)) (hX : zX kN kR kC bl pc al st M (.l2i, n, (a, d, g), z, w, sw) = some res) (hN : ∀ (pc1 : Nat) (al1 st1 : List zV) (M1 : zM), kN pc1 al1 st1 M1 = some res → zT p l e R s mi args below meth c Q Z D cy H0 bl L n0 mm M1 al1 st1 pc1) : zT p l e R s mi args below meth c Q Z D cy H0 bl L n0 mm M al st pc := by
  obtain ⟨hdg, rfl, hc⟩ := zfact2 cx.2.2.2.2.2.2.2.2.2.2 hz rfl
  obtain _ | ⟨x | x | x | x, st⟩ := st
  · cases hX
  · cases hX
  · skip
    have hk : kN (pc + 1) al (zi x.toInt32 :: st) M = some res := hX
    exact zt_st (hN _ _ _ _ hk) (fun _ q => ⟨trivial, q.2⟩) (fun _ _ _ _ _ hL k => lv_l2i cx.1 cx.2.1 hdg rfl k)
  · cases hX
  · cases hX
theorem z1_ladd (cx : zCx p s mi args meth c R mm) (ev : zEv Z D cy H0 L s) (hz : zins mm pc = some ((.ladd, n, (a, d, g), z, w, sw), cut)) (hX : zX kN kR kC bl pc al st M (.ladd, n, (a, d, g), z, w, sw) = some res) (hN : ∀ (pc1 : Nat) (al1 st1 : List zV) (M1 : zM), kN pc1 al1 st1 M1 = some res → zT p l e R s mi args below meth c Q Z D cy H0 bl L n0 mm M1 al1 st1 pc1) : zT p l e R s mi args below meth c Q Z D cy H0 bl L n0 mm M al st pc := by
  obtain ⟨hdg, rfl, hc⟩ := zfact2 cx.2.2.2.2.2.2.2.2.2.2 hz rfl
  obtain _ | ⟨y | y | y | y, st⟩ := st
  · cases hX
  · cases hX
  · skip
    obtain _ | ⟨x | x | x | x, st⟩ := st
    · cases hX
    · cases hX
    · skip
      have hk : kN (pc + 1) al (zl (x + y) :: st) M = some res := hX
      exact zt_st (hN _ _ _ _ hk) (fun _ q => ⟨trivial, q.2.2⟩) (fun _ _ _ _ _ hL k => lv_ladd cx.1 cx.2.1 hdg k)
    · cases hX
    · cases hX
  · cases hX
  · cases hX
theorem z1_lsub (cx : zCx p s mi args meth c R mm) (ev : zEv Z D cy H0 L s) (hz : zins mm pc = some ((.lsub, n, (a, d, g), z, w, sw), cut)) (hX : zX kN kR kC bl pc al st M (.lsub, n, (a, d, g), z, w, sw) = some res) (hN : ∀ (pc1 : Nat) (al1 st1 : List zV) (M1 : zM), kN pc1 al1 st1 M1 = some res → zT p l e R s mi args below meth c Q Z D cy H0 bl L n0 mm M1 al1 st1 pc1) : zT p l e R s mi args below meth c Q Z D cy H0 bl L n0 mm M al st pc := by
  obtain ⟨hdg, rfl, hc⟩ := zfact2 cx.2.2.2.2.2.2.2.2.2.2 hz rfl
  obtain _ | ⟨y | y | y | y, st⟩ := st
  · cases hX
  · cases hX
  · skip
    obtain _ | ⟨x | x | x | x, st⟩ := st
    · cases hX
    · cases hX
    · skip
      have hk : kN (pc + 1) al (zl (x - y) :: st) M = some res := hX
      exact zt_st (hN _ _ _ _ hk) (fun _ q => ⟨trivial, q.2.2⟩) (fun _ _ _ _ _ hL k => lv_lsub cx.1 cx.2.1 hdg k)
    · cases hX
    · cases hX
  · cases hX
  · cases hX
theorem z1_lmul (cx : zCx p s mi args meth c R mm) (ev : zEv Z D cy H0 L s) (hz : zins mm pc = some ((.lmul, n, (a, d, g), z, w, sw), cut)) (hX : zX kN kR kC bl pc al st M (.lmul, n, (a, d, g), z, w, sw) = some res) (hN : ∀ (pc1 : Nat) (al1 st1 : List zV) (M1 : zM), kN pc1 al1 st1 M1 = some res → zT p l e R s mi args below meth c Q Z D cy H0 bl L n0 mm M1 al1 st1 pc1) : zT p l e R s mi args below meth c Q Z D cy H0 bl L n0 mm M al st pc := by
  obtain ⟨hdg, rfl, hc⟩ := zfact2 cx.2.2.2.2.2.2.2.2.2.2 hz rfl
  obtain _ | ⟨y | y | y | y, st⟩ := st
  · cases hX
  · cases hX
  · skip
    obtain _ | ⟨x | x | x | x, st⟩ := st
    · cases hX
    · cases hX
    · skip
      have hk : kN (pc + 1) al (zl (x * y) :: st) M = some res := hX
      exact zt_st (hN _ _ _ _ hk) (fun _ q => ⟨trivial, q.2.2⟩) (fun _ _ _ _ _ hL k => lv_lmul cx.1 cx.2.1 hdg k)
    · cases hX
    · cases hX
  · cases hX
  · cases hX
theorem z1_land (cx : zCx p s mi args meth c R mm) (ev : zEv Z D cy H0 L s) (hz : zins mm pc = some ((.land, n, (a, d, g), z, w, sw), cut)) (hX : zX kN kR kC bl pc al st M (.land, n, (a, d, g), z, w, sw) = some res) (hN : ∀ (pc1 : Nat) (al1 st1 : List zV) (M1 : zM), kN pc1 al1 st1 M1 = some res → zT p l e R s mi args below meth c Q Z D cy H0 bl L n0 mm M1 al1 st1 pc1) : zT p l e R s mi args below meth c Q Z D cy H0 bl L n0 mm M al st pc := by
  obtain ⟨hdg, rfl, hc⟩ := zfact2 cx.2.2.2.2.2.2.2.2.2.2 hz rfl
  obtain _ | ⟨y | y | y | y, st⟩ := st
  · cases hX
  · cases hX
  · skip
    obtain _ | ⟨x | x | x | x, st⟩ := st
    · cases hX
    · cases hX
    · skip
      have hk : kN (pc + 1) al (zl (x &&& y) :: st) M = some res := hX
      exact zt_st (hN _ _ _ _ hk) (fun _ q => ⟨trivial, q.2.2⟩) (fun _ _ _ _ _ hL k => lv_land cx.1 cx.2.1 hdg k)
    · cases hX
    · cases hX
  · cases hX
  · cases hX
theorem z1_lor (cx : zCx p s mi args meth c R mm) (ev : zEv Z D cy H0 L s) (hz : zins mm pc = some ((.lor, n, (a, d, g), z, w, sw), cut)) (hX : zX kN kR kC bl pc al st M (.lor, n, (a, d, g), z, w, sw) = some res) (hN : ∀ (pc1 : Nat) (al1 st1 : List zV) (M1 : zM), kN pc1 al1 st1 M1 = some res → zT p l e R s mi args below meth c Q Z D cy H0 bl L n0 mm M1 al1 st1 pc1) : zT p l e R s mi args below meth c Q Z D cy H0 bl L n0 mm M al st pc := by
  obtain ⟨hdg, rfl, hc⟩ := zfact2 cx.2.2.2.2.2.2.2.2.2.2 hz rfl
  obtain _ | ⟨y | y | y | y, st⟩ := st
  · cases hX
  · cases hX
  · skip
    obtain _ | ⟨x | x | x | x, st⟩ := st
    · cases hX
    · cases hX
    · skip
      have hk : kN (pc + 1) al (zl (x ||| y) :: st) M = some res := hX
      exact zt_st (hN _ _ _ _ hk) (fun _ q => ⟨trivial, q.2.2⟩) (fun _ _ _ _ _ hL k => lv_lor cx.1 cx.2.1 hdg k)
    · cases hX
    · cases hX
  · cases hX
  · cases hX
theorem z1_ldiv (cx : zCx p s mi args meth c R mm) (ev : zEv Z D cy H0 L s) (hz : zins mm pc = some ((.ldiv, n, (a, d, g), z, w, sw), cut)) (hX : zX kN kR kC bl pc al st M (.ldiv, n, (a, d, g), z, w, sw) = some res) (hN : ∀ (pc1 : Nat) (al1 st1 : List zV) (M1 : zM), kN pc1 al1 st1 M1 = some res → zT p l e R s mi args below meth c Q Z D cy H0 bl L n0 mm M1 al1 st1 pc1) : zT p l e R s mi args below meth c Q Z D cy H0 bl L n0 mm M al st pc := by
  obtain ⟨hdg, rfl, hc⟩ := zfact2 cx.2.2.2.2.2.2.2.2.2.2 hz rfl
  obtain _ | ⟨y | y | y | y, st⟩ := st
  · cases hX
  · cases hX
  · skip
    obtain _ | ⟨x | x | x | x, st⟩ := st
    · cases hX
    · cases hX
    · skip
      by_cases hy : y = 0
      · have hk : (if y = 0 then none else kN (pc + 1) al (zl (x / y) :: st) M) = some res := hX
        rw [if_pos hy] at hk
        cases hk
      have hk : (if y = 0 then none else kN (pc + 1) al (zl (x / y) :: st) M) = some res := hX
      rw [if_neg hy] at hk
      exact zt_st (hN _ _ _ _ hk) (fun _ q => ⟨trivial, q.2.2⟩) (fun _ _ _ _ _ hL k => lv_ldiv cx.1 cx.2.1 hdg hy k)
    · cases hX
    · cases hX
  · cases hX
  · cases hX
theorem z1_lneg (cx : zCx p s mi args meth c R mm) (ev : zEv Z D cy H0 L s) (hz : zins mm pc = some ((.lneg, n, (a, d, g), z, w, sw), cut)) (hX : zX kN kR kC bl pc al st M (.lneg, n, (a, d, g), z, w, sw) = some res) (hN : ∀ (pc1 : Nat) (al1 st1 : List zV) (M1 : zM), kN pc1 al1 st1 M1 = some res → zT p l e R s mi args below meth c Q Z D cy H0 bl L n0 mm M1 al1 st1 pc1) : zT p l e R s mi args below meth c Q Z D cy H0 bl L n0 mm M al st pc := by
  obtain ⟨hdg, rfl, hc⟩ := zfact2 cx.2.2.2.2.2.2.2.2.2.2 hz rfl
  obtain _ | ⟨x | x | x | x, st⟩ := st
  · cases hX
  · cases hX
  · skip
    have hk : kN (pc + 1) al (zl (-x) :: st) M = some res := hX
    exact zt_st (hN _ _ _ _ hk) (fun _ q => ⟨trivial, q.2⟩) (fun _ _ _ _ _ hL k => lv_lneg cx.1 cx.2.1 hdg k)
  · cases hX
  · cases hX
theorem z1_lshl (cx : zCx p s mi args meth c R mm) (ev : zEv Z D cy H0 L s) (hz : zins mm pc = some ((.lshl, n, (a, d, g), z, w, sw), cut)) (hX : zX kN kR kC bl pc al st M (.lshl, n, (a, d, g), z, w, sw) = some res) (hN : ∀ (pc1 : Nat) (al1 st1 : List zV) (M1 : zM), kN pc1 al1 st1 M1 = some res → zT p l e R s mi args below meth c Q Z D cy H0 bl L n0 mm M1 al1 st1 pc1) : zT p l e R s mi args below meth c Q Z D cy H0 bl L n0 mm M al st pc := by
  obtain ⟨hdg, rfl, hc⟩ := zfact2 cx.2.2.2.2.2.2.2.2.2.2 hz rfl
  obtain _ | ⟨y | y | y | y, st⟩ := st
  · cases hX
  · skip
    obtain _ | ⟨x | x | x | x, st⟩ := st
    · cases hX
    · cases hX
    · skip
      have hk : kN (pc + 1) al (zl (x <<< (y.toInt64 &&& 63)) :: st) M = some res := hX
      exact zt_st (hN _ _ _ _ hk) (fun _ q => ⟨trivial, q.2.2⟩) (fun _ _ _ _ _ hL k => lv_lshl cx.1 cx.2.1 hdg rfl k)
    · cases hX
    · cases hX
  · cases hX
  · cases hX
  · cases hX
theorem z1_lcmp (cx : zCx p s mi args meth c R mm) (ev : zEv Z D cy H0 L s) (hz : zins mm pc = some ((.lcmp, n, (a, d, g), z, w, sw), cut)) (hX : zX kN kR kC bl pc al st M (.lcmp, n, (a, d, g), z, w, sw) = some res) (hN : ∀ (pc1 : Nat) (al1 st1 : List zV) (M1 : zM), kN pc1 al1 st1 M1 = some res → zT p l e R s mi args below meth c Q Z D cy H0 bl L n0 mm M1 al1 st1 pc1) : zT p l e R s mi args below meth c Q Z D cy H0 bl L n0 mm M al st pc := by
  obtain ⟨hdg, rfl, hc⟩ := zfact2 cx.2.2.2.2.2.2.2.2.2.2 hz rfl
  obtain _ | ⟨y | y | y | y, st⟩ := st
  · cases hX
  · cases hX
  · skip
    obtain _ | ⟨x | x | x | x, st⟩ := st
    · cases hX
    · cases hX
    · skip
      have hk : kN (pc + 1) al (zi (lg_cmp x y) :: st) M = some res := hX
      exact zt_st (hN _ _ _ _ hk) (fun _ q => ⟨trivial, q.2.2⟩) (fun _ _ _ _ _ hL k => W.lcmp cx.1 cx.2.1 hdg k)
    · cases hX
    · cases hX
  · cases hX
  · cases hX
theorem z1_dup (cx : zCx p s mi args meth c R mm) (ev : zEv Z D cy H0 L s) (hz : zins mm pc = some ((.dup, n, (a, d, g), z, w, sw), cut)) (hX : zX kN kR kC bl pc al st M (.dup, n, (a, d, g), z, w, sw) = some res) (hN : ∀ (pc1 : Nat) (al1 st1 : List zV) (M1 : zM), kN pc1 al1 st1 M1 = some res → zT p l e R s mi args below meth c Q Z D cy H0 bl L n0 mm M1 al1 st1 pc1) : zT p l e R s mi args below meth c Q Z D cy H0 bl L n0 mm M al st pc := by
  obtain ⟨hdg, rfl, hc⟩ := zfact2 cx.2.2.2.2.2.2.2.2.2.2 hz rfl
  obtain _ | ⟨x | x | x | x, st⟩ := st
  · cases hX
  · have hk : kN (pc + 1) al (zi x :: zi x :: st) M = some res := hX
    exact zt_st (hN _ _ _ _ hk) (fun _ q => ⟨trivial, trivial, q.2⟩) (fun _ _ _ _ _ hL k => lv_dup cx.1 cx.2.1 hdg rfl k)
  · cases hX
  · have hk : kN (pc + 1) al (zp x :: zp x :: st) M = some res := hX
    exact zt_st (hN _ _ _ _ hk) (fun _ q => ⟨q.1, q.1, q.2⟩) (fun _ _ _ _ _ hL k => lv_dup cx.1 cx.2.1 hdg (zcv_cat Z x) k)
  · cases hX
theorem z1_dup2 (cx : zCx p s mi args meth c R mm) (ev : zEv Z D cy H0 L s) (hz : zins mm pc = some ((.dup2, n, (a, d, g), z, w, sw), cut)) (hX : zX kN kR kC bl pc al st M (.dup2, n, (a, d, g), z, w, sw) = some res) (hN : ∀ (pc1 : Nat) (al1 st1 : List zV) (M1 : zM), kN pc1 al1 st1 M1 = some res → zT p l e R s mi args below meth c Q Z D cy H0 bl L n0 mm M1 al1 st1 pc1) : zT p l e R s mi args below meth c Q Z D cy H0 bl L n0 mm M al st pc := by
  obtain ⟨hdg, rfl, hc⟩ := zfact2 cx.2.2.2.2.2.2.2.2.2.2 hz rfl
  obtain _ | ⟨y | y | y | y, st⟩ := st
  · cases hX
  · skip
    obtain _ | ⟨x | x | x | x, st⟩ := st
    · cases hX
    · cases hX
    · cases hX
    · skip
      have hk : kN (pc + 1) al (zi y :: zp x :: zi y :: zp x :: st) M = some res := hX
      exact zt_st (hN _ _ _ _ hk) (fun _ q => ⟨trivial, q.2.1, trivial, q.2.1, q.2.2⟩) (fun _ _ _ _ _ hL k => lv_dup2_11 cx.1 cx.2.1 hdg rfl (zcv_cat Z x) k)
    · cases hX
  · cases hX
  · cases hX
  · cases hX
theorem z1_pop (cx : zCx p s mi args meth c R mm) (ev : zEv Z D cy H0 L s) (hz : zins mm pc = some ((.pop, n, (a, d, g), z, w, sw), cut)) (hX : zX kN kR kC bl pc al st M (.pop, n, (a, d, g), z, w, sw) = some res) (hN : ∀ (pc1 : Nat) (al1 st1 : List zV) (M1 : zM), kN pc1 al1 st1 M1 = some res → zT p l e R s mi args below meth c Q Z D cy H0 bl L n0 mm M1 al1 st1 pc1) : zT p l e R s mi args below meth c Q Z D cy H0 bl L n0 mm M al st pc := by
  obtain ⟨hdg, rfl, hc⟩ := zfact2 cx.2.2.2.2.2.2.2.2.2.2 hz rfl
  obtain _ | ⟨x | x | x | x, st⟩ := st
  · cases hX
  · skip
    have hk : kN (pc + 1) al st M = some res := hX
    exact zt_st (hN _ _ _ _ hk) (fun _ q => q.2) (fun _ _ _ _ _ hL k => lv_pop cx.1 cx.2.1 hdg rfl k)
  · cases hX
  · cases hX
  · cases hX
theorem z1_ifCond_eq {off : Int} (cx : zCx p s mi args meth c R mm) (ev : zEv Z D cy H0 L s) (hz : zins mm pc = some ((.ifCond .eq off, n, (a, d, g), z, w, sw), cut)) (hX : zX kN kR kC bl pc al st M (.ifCond .eq off, n, (a, d, g), z, w, sw) = some res) (hN : ∀ (pc1 : Nat) (al1 st1 : List zV) (M1 : zM), kN pc1 al1 st1 M1 = some res → zT p l e R s mi args below meth c Q Z D cy H0 bl L n0 mm M1 al1 st1 pc1) : zT p l e R s mi args below meth c Q Z D cy H0 bl L n0 mm M al st pc := by
  obtain ⟨hdg, rfl, hc⟩ := zfact2 cx.2.2.2.2.2.2.2.2.2.2 hz rfl
  obtain _ | ⟨x | x | x | x, st⟩ := st
  · cases hX
  · skip
    have hk : (if x = 0 then kN a al st M else kN (pc + 3) al st M) = some res := hX
    refine zt_br (st' := st) (fun q => q.2) (fun H locs cells slots ls hI => ?_)
    exact lv_if_eq cx.1 cx.2.1 hdg (of_decide_eq_true hc) (fun q => hN a al st M (by rw [if_pos q] at hk; exact hk) H locs cells slots ls hI) (fun q => hN (pc + 3) al st M (by rw [if_neg q] at hk; exact hk) H locs cells slots ls hI)
  · cases hX
  · cases hX
  · cases hX
theorem z1_ifCond_ne {off : Int} (cx : zCx p s mi args meth c R mm) (ev : zEv Z D cy H0 L s) (hz : zins mm pc = some ((.ifCond .ne off, n, (a, d, g), z, w, sw), cut)) (hX : zX kN kR kC bl pc al st M (.ifCond .ne off, n, (a, d, g), z, w, sw) = some res) (hN : ∀ (pc1 : Nat) (al1 st1 : List zV) (M1 : zM), kN pc1 al1 st1 M1 = some res → zT p l e R s mi args below meth c Q Z D cy H0 bl L n0 mm M1 al1 st1 pc1) : zT p l e R s mi args below meth c Q Z D cy H0 bl L n0 mm M al st pc := by
  obtain ⟨hdg, rfl, hc⟩ := zfact2 cx.2.2.2.2.2.2.2.2.2.2 hz rfl
  obtain _ | ⟨x | x | x | x, st⟩ := st
  · cases hX
  · skip
    have hk : (if x = 0 then kN (pc + 3) al st M else kN a al st M) = some res := hX
    refine zt_br (st' := st) (fun q => q.2) (fun H locs cells slots ls hI => ?_)
    exact lv_if_ne cx.1 cx.2.1 hdg (of_decide_eq_true hc) (fun q => hN a al st M (by rw [if_neg q] at hk; exact hk) H locs cells slots ls hI) (fun q => hN (pc + 3) al st M (by rw [if_pos q] at hk; exact hk) H locs cells slots ls hI)
  · cases hX
  · cases hX
  · cases hX
theorem z1_ifCond_lt {off : Int} (cx : zCx p s mi args meth c R mm) (ev : zEv Z D cy H0 L s) (hz : zins mm pc = some ((.ifCond .lt off, n, (a, d, g), z, w, sw), cut)) (hX : zX kN kR kC bl pc al st M (.ifCond .lt off, n, (a, d, g), z, w, sw) = some res) (hN : ∀ (pc1 : Nat) (al1 st1 : List zV) (M1 : zM), kN pc1 al1 st1 M1 = some res → zT p l e R s mi args below meth c Q Z D cy H0 bl L n0 mm M1 al1 st1 pc1) : zT p l e R s mi args below meth c Q Z D cy H0 bl L n0 mm M al st pc := by
  obtain ⟨hdg, rfl, hc⟩ := zfact2 cx.2.2.2.2.2.2.2.2.2.2 hz rfl
  obtain _ | ⟨x | x | x | x, st⟩ := st
  · cases hX
  · skip
    have hk : (if x < 0 then kN a al st M else kN (pc + 3) al st M) = some res := hX
    refine zt_br (st' := st) (fun q => q.2) (fun H locs cells slots ls hI => ?_)
    exact lv_if_lt cx.1 cx.2.1 hdg (of_decide_eq_true hc) (fun q => hN a al st M (by rw [if_pos q] at hk; exact hk) H locs cells slots ls hI) (fun q => hN (pc + 3) al st M (by rw [if_neg q] at hk; exact hk) H locs cells slots ls hI)
  · cases hX
  · cases hX
  · cases hX
theorem z1_ifCond_ge {off : Int} (cx : zCx p s mi args meth c R mm) (ev : zEv Z D cy H0 L s) (hz : zins mm pc = some ((.ifCond .ge off, n, (a, d, g), z, w, sw), cut)) (hX : zX kN kR kC bl pc al st M (.ifCond .ge off, n, (a, d, g), z, w, sw) = some res) (hN : ∀ (pc1 : Nat) (al1 st1 : List zV) (M1 : zM), kN pc1 al1 st1 M1 = some res → zT p l e R s mi args below meth c Q Z D cy H0 bl L n0 mm M1 al1 st1 pc1) : zT p l e R s mi args below meth c Q Z D cy H0 bl L n0 mm M al st pc := by
  obtain ⟨hdg, rfl, hc⟩ := zfact2 cx.2.2.2.2.2.2.2.2.2.2 hz rfl
  obtain _ | ⟨x | x | x | x, st⟩ := st
  · cases hX
  · skip
    have hk : (if 0 ≤ x then kN a al st M else kN (pc + 3) al st M) = some res := hX
    refine zt_br (st' := st) (fun q => q.2) (fun H locs cells slots ls hI => ?_)
    exact lv_if_ge cx.1 cx.2.1 hdg (of_decide_eq_true hc) (fun q => hN a al st M (by rw [if_pos q] at hk; exact hk) H locs cells slots ls hI) (fun q => hN (pc + 3) al st M (by rw [if_neg q] at hk; exact hk) H locs cells slots ls hI)
  · cases hX
  · cases hX
  · cases hX
theorem z1_ifCond_gt {off : Int} (cx : zCx p s mi args meth c R mm) (ev : zEv Z D cy H0 L s) (hz : zins mm pc = some ((.ifCond .gt off, n, (a, d, g), z, w, sw), cut)) (hX : zX kN kR kC bl pc al st M (.ifCond .gt off, n, (a, d, g), z, w, sw) = some res) (hN : ∀ (pc1 : Nat) (al1 st1 : List zV) (M1 : zM), kN pc1 al1 st1 M1 = some res → zT p l e R s mi args below meth c Q Z D cy H0 bl L n0 mm M1 al1 st1 pc1) : zT p l e R s mi args below meth c Q Z D cy H0 bl L n0 mm M al st pc := by
  obtain ⟨hdg, rfl, hc⟩ := zfact2 cx.2.2.2.2.2.2.2.2.2.2 hz rfl
  obtain _ | ⟨x | x | x | x, st⟩ := st
  · cases hX
  · skip
    have hk : (if 0 < x then kN a al st M else kN (pc + 3) al st M) = some res := hX
    refine zt_br (st' := st) (fun q => q.2) (fun H locs cells slots ls hI => ?_)
    exact lv_if_gt cx.1 cx.2.1 hdg (of_decide_eq_true hc) (fun q => hN a al st M (by rw [if_pos q] at hk; exact hk) H locs cells slots ls hI) (fun q => hN (pc + 3) al st M (by rw [if_neg q] at hk; exact hk) H locs cells slots ls hI)
  · cases hX
  · cases hX
  · cases hX
theorem z1_ifCond_le {off : Int} (cx : zCx p s mi args meth c R mm) (ev : zEv Z D cy H0 L s) (hz : zins mm pc = some ((.ifCond .le off, n, (a, d, g), z, w, sw), cut)) (hX : zX kN kR kC bl pc al st M (.ifCond .le off, n, (a, d, g), z, w, sw) = some res) (hN : ∀ (pc1 : Nat) (al1 st1 : List zV) (M1 : zM), kN pc1 al1 st1 M1 = some res → zT p l e R s mi args below meth c Q Z D cy H0 bl L n0 mm M1 al1 st1 pc1) : zT p l e R s mi args below meth c Q Z D cy H0 bl L n0 mm M al st pc := by
  obtain ⟨hdg, rfl, hc⟩ := zfact2 cx.2.2.2.2.2.2.2.2.2.2 hz rfl
  obtain _ | ⟨x | x | x | x, st⟩ := st
  · cases hX
  · skip
    have hk : (if x ≤ 0 then kN a al st M else kN (pc + 3) al st M) = some res := hX
    refine zt_br (st' := st) (fun q => q.2) (fun H locs cells slots ls hI => ?_)
    exact lv_if_le cx.1 cx.2.1 hdg (of_decide_eq_true hc) (fun q => hN a al st M (by rw [if_pos q] at hk; exact hk) H locs cells slots ls hI) (fun q => hN (pc + 3) al st M (by rw [if_neg q] at hk; exact hk) H locs cells slots ls hI)
  · cases hX
  · cases hX
  · cases hX
theorem z1_icmp_eq {off : Int} (cx : zCx p s mi args meth c R mm) (ev : zEv Z D cy H0 L s) (hz : zins mm pc = some ((.if_icmp .eq off, n, (a, d, g), z, w, sw), cut)) (hX : zX kN kR kC bl pc al st M (.if_icmp .eq off, n, (a, d, g), z, w, sw) = some res) (hN : ∀ (pc1 : Nat) (al1 st1 : List zV) (M1 : zM), kN pc1 al1 st1 M1 = some res → zT p l e R s mi args below meth c Q Z D cy H0 bl L n0 mm M1 al1 st1 pc1) : zT p l e R s mi args below meth c Q Z D cy H0 bl L n0 mm M al st pc := by
  obtain ⟨hdg, rfl, hc⟩ := zfact2 cx.2.2.2.2.2.2.2.2.2.2 hz rfl
  obtain _ | ⟨y | y | y | y, st⟩ := st
  · cases hX
  · skip
    obtain _ | ⟨x | x | x | x, st⟩ := st
    · cases hX
    · skip
      have hk : (if x = y then kN a al st M else kN (pc + 3) al st M) = some res := hX
      refine zt_br (st' := st) (fun q => q.2.2) (fun H locs cells slots ls hI => ?_)
      exact lv_icmp_eq cx.1 cx.2.1 hdg (of_decide_eq_true hc) (fun q => hN a al st M (by rw [if_pos q] at hk; exact hk) H locs cells slots ls hI) (fun q => hN (pc + 3) al st M (by rw [if_neg q] at hk; exact hk) H locs cells slots ls hI)
    · cases hX
    · cases hX
    · cases hX
  · cases hX
  · cases hX
  · cases hX
theorem z1_icmp_ne {off : Int} (cx : zCx p s mi args meth c R mm) (ev : zEv Z D cy H0 L s) (hz : zins mm pc = some ((.if_icmp .ne off, n, (a, d, g), z, w, sw), cut)) (hX : zX kN kR kC bl pc al st M (.if_icmp .ne off, n, (a, d, g), z, w, sw) = some res) (hN : ∀ (pc1 : Nat) (al1 st1 : List zV) (M1 : zM), kN pc1 al1 st1 M1 = some res → zT p l e R s mi args below meth c Q Z D cy H0 bl L n0 mm M1 al1 st1 pc1) : zT p l e R s mi args below meth c Q Z D cy H0 bl L n0 mm M al st pc := by
  obtain ⟨hdg, rfl, hc⟩ := zfact2 cx.2.2.2.2.2.2.2.2.2.2 hz rfl
  obtain _ | ⟨y | y | y | y, st⟩ := st
  · cases hX
  · skip
    obtain _ | ⟨x | x | x | x, st⟩ := st
    · cases hX
    · skip
      have hk : (if x = y then kN (pc + 3) al st M else kN a al st M) = some res := hX
      refine zt_br (st' := st) (fun q => q.2.2) (fun H locs cells slots ls hI => ?_)
      exact lv_icmp_ne cx.1 cx.2.1 hdg (of_decide_eq_true hc) (fun q => hN a al st M (by rw [if_neg q] at hk; exact hk) H locs cells slots ls hI) (fun q => hN (pc + 3) al st M (by rw [if_pos q] at hk; exact hk) H locs cells slots ls hI)
    · cases hX
    · cases hX
    · cases hX
  · cases hX
  · cases hX
  · cases hX
theorem z1_icmp_lt {off : Int} (cx : zCx p s mi args meth c R mm) (ev : zEv Z D cy H0 L s) (hz : zins mm pc = some ((.if_icmp .lt off, n, (a, d, g), z, w, sw), cut)) (hX : zX kN kR kC bl pc al st M (.if_icmp .lt off, n, (a, d, g), z, w, sw) = some res) (hN : ∀ (pc1 : Nat) (al1 st1 : List zV) (M1 : zM), kN pc1 al1 st1 M1 = some res → zT p l e R s mi args below meth c Q Z D cy H0 bl L n0 mm M1 al1 st1 pc1) : zT p l e R s mi args below meth c Q Z D cy H0 bl L n0 mm M al st pc := by
  obtain ⟨hdg, rfl, hc⟩ := zfact2 cx.2.2.2.2.2.2.2.2.2.2 hz rfl
  obtain _ | ⟨y | y | y | y, st⟩ := st
  · cases hX
  · skip
    obtain _ | ⟨x | x | x | x, st⟩ := st
    · cases hX
    · skip
      have hk : (if x < y then kN a al st M else kN (pc + 3) al st M) = some res := hX
      refine zt_br (st' := st) (fun q => q.2.2) (fun H locs cells slots ls hI => ?_)
      exact lv_icmp_lt cx.1 cx.2.1 hdg (of_decide_eq_true hc) (fun q => hN a al st M (by rw [if_pos q] at hk; exact hk) H locs cells slots ls hI) (fun q => hN (pc + 3) al st M (by rw [if_neg q] at hk; exact hk) H locs cells slots ls hI)
    · cases hX
    · cases hX
    · cases hX
  · cases hX
  · cases hX
  · cases hX
theorem z1_icmp_ge {off : Int} (cx : zCx p s mi args meth c R mm) (ev : zEv Z D cy H0 L s) (hz : zins mm pc = some ((.if_icmp .ge off, n, (a, d, g), z, w, sw), cut)) (hX : zX kN kR kC bl pc al st M (.if_icmp .ge off, n, (a, d, g), z, w, sw) = some res) (hN : ∀ (pc1 : Nat) (al1 st1 : List zV) (M1 : zM), kN pc1 al1 st1 M1 = some res → zT p l e R s mi args below meth c Q Z D cy H0 bl L n0 mm M1 al1 st1 pc1) : zT p l e R s mi args below meth c Q Z D cy H0 bl L n0 mm M al st pc := by
  obtain ⟨hdg, rfl, hc⟩ := zfact2 cx.2.2.2.2.2.2.2.2.2.2 hz rfl
  obtain _ | ⟨y | y | y | y, st⟩ := st
  · cases hX
  · skip
    obtain _ | ⟨x | x | x | x, st⟩ := st
    · cases hX
    · skip
      have hk : (if y ≤ x then kN a al st M else kN (pc + 3) al st M) = some res := hX
      refine zt_br (st' := st) (fun q => q.2.2) (fun H locs cells slots ls hI => ?_)
      exact lv_icmp_ge cx.1 cx.2.1 hdg (of_decide_eq_true hc) (fun q => hN a al st M (by rw [if_pos q] at hk; exact hk) H locs cells slots ls hI) (fun q => hN (pc + 3) al st M (by rw [if_neg q] at hk; exact hk) H locs cells slots ls hI)
    · cases hX
    · cases hX
    · cases hX
  · cases hX
  · cases hX
  · cases hX
theorem z1_icmp_gt {off : Int} (cx : zCx p s mi args meth c R mm) (ev : zEv Z D cy H0 L s) (hz : zins mm pc = some ((.if_icmp .gt off, n, (a, d, g), z, w, sw), cut)) (hX : zX kN kR kC bl pc al st M (.if_icmp .gt off, n, (a, d, g), z, w, sw) = some res) (hN : ∀ (pc1 : Nat) (al1 st1 : List zV) (M1 : zM), kN pc1 al1 st1 M1 = some res → zT p l e R s mi args below meth c Q Z D cy H0 bl L n0 mm M1 al1 st1 pc1) : zT p l e R s mi args below meth c Q Z D cy H0 bl L n0 mm M al st pc := by
  obtain ⟨hdg, rfl, hc⟩ := zfact2 cx.2.2.2.2.2.2.2.2.2.2 hz rfl
  obtain _ | ⟨y | y | y | y, st⟩ := st
  · cases hX
  · skip
    obtain _ | ⟨x | x | x | x, st⟩ := st
    · cases hX
    · skip
      have hk : (if y < x then kN a al st M else kN (pc + 3) al st M) = some res := hX
      refine zt_br (st' := st) (fun q => q.2.2) (fun H locs cells slots ls hI => ?_)
      exact lv_icmp_gt cx.1 cx.2.1 hdg (of_decide_eq_true hc) (fun q => hN a al st M (by rw [if_pos q] at hk; exact hk) H locs cells slots ls hI) (fun q => hN (pc + 3) al st M (by rw [if_neg q] at hk; exact hk) H locs cells slots ls hI)
    · cases hX
    · cases hX
    · cases hX
  · cases hX
  · cases hX
  · cases hX
theorem z1_icmp_le {off : Int} (cx : zCx p s mi args meth c R mm) (ev : zEv Z D cy H0 L s) (hz : zins mm pc = some ((.if_icmp .le off, n, (a, d, g), z, w, sw), cut)) (hX : zX kN kR kC bl pc al st M (.if_icmp .le off, n, (a, d, g), z, w, sw) = some res) (hN : ∀ (pc1 : Nat) (al1 st1 : List zV) (M1 : zM), kN pc1 al1 st1 M1 = some res → zT p l e R s mi args below meth c Q Z D cy H0 bl L n0 mm M1 al1 st1 pc1) : zT p l e R s mi args below meth c Q Z D cy H0 bl L n0 mm M al st pc := by
  obtain ⟨hdg, rfl, hc⟩ := zfact2 cx.2.2.2.2.2.2.2.2.2.2 hz rfl
  obtain _ | ⟨y | y | y | y, st⟩ := st
  · cases hX
  · skip
    obtain _ | ⟨x | x | x | x, st⟩ := st
    · cases hX
    · skip
      have hk : (if x ≤ y then kN a al st M else kN (pc + 3) al st M) = some res := hX
      refine zt_br (st' := st) (fun q => q.2.2) (fun H locs cells slots ls hI => ?_)
      exact lv_icmp_le cx.1 cx.2.1 hdg (of_decide_eq_true hc) (fun q => hN a al st M (by rw [if_pos q] at hk; exact hk) H locs cells slots ls hI) (fun q => hN (pc + 3) al st M (by rw [if_neg q] at hk; exact hk) H locs cells slots ls hI)
    · cases hX
    · cases hX
    · cases hX
  · cases hX
  · cases hX
  · cases hX
theorem z1_goto {off : Int} (cx : zCx p s mi args meth c R mm) (ev : zEv Z D cy H0 L s) (hz : zins mm pc = some ((.goto off, n, (a, d, g), z, w, sw), cut)) (hX : zX kN kR kC bl pc al st M (.goto off, n, (a, d, g), z, w, sw) = some res) (hN : ∀ (pc1 : Nat) (al1 st1 : List zV) (M1 : zM), kN pc1 al1 st1 M1 = some res → zT p l e R s mi args below meth c Q Z D cy H0 bl L n0 mm M1 al1 st1 pc1) : zT p l e R s mi args below meth c Q Z D cy H0 bl L n0 mm M al st pc := by
  obtain ⟨hdg, rfl, hc⟩ := zfact2 cx.2.2.2.2.2.2.2.2.2.2 hz rfl
  have hk : kN a al st M = some res := hX
  exact zt_st (hN _ _ _ _ hk) (fun _ q => q) (fun _ _ _ _ _ hL k => lv_goto cx.1 cx.2.1 hdg (of_decide_eq_true hc) k)
theorem z1_ifnull {off : Int} (cx : zCx p s mi args meth c R mm) (ev : zEv Z D cy H0 L s) (hz : zins mm pc = some ((.ifnull off, n, (a, d, g), z, w, sw), cut)) (hX : zX kN kR kC bl pc al st M (.ifnull off, n, (a, d, g), z, w, sw) = some res) (hN : ∀ (pc1 : Nat) (al1 st1 : List zV) (M1 : zM), kN pc1 al1 st1 M1 = some res → zT p l e R s mi args below meth c Q Z D cy H0 bl L n0 mm M1 al1 st1 pc1) : zT p l e R s mi args below meth c Q Z D cy H0 bl L n0 mm M al st pc := by
  obtain ⟨hdg, rfl, hc⟩ := zfact2 cx.2.2.2.2.2.2.2.2.2.2 hz rfl
  obtain _ | ⟨x | x | x | x, st⟩ := st
  · cases hX
  · cases hX
  · cases hX
  · skip
    have hk : (bif Nat.beq x.1 0 then kN a al st M else kN (pc + 3) al st M) = some res := hX
    have ht := of_decide_eq_true hc
    refine zt_br (st' := st) (fun q => q.2) (fun H locs cells slots ls hI => ?_)
    show W _ _ _ _ _ _ _ _ _ _ _ _ _ _ _ (F0 mi pc ls (zcv Z (zp x) :: st.map (zcv Z)))
    by_cases hx : x.1 = 0
    · rw [show Nat.beq x.1 0 = true by rw [hx]; rfl] at hk
      rw [zcv_null Z hx]
      exact lv_ifnullN cx.1 cx.2.1 hdg ht (hN a al st M hk H locs cells slots ls hI)
    · rw [zb_ne hx] at hk
      rw [zcv_ref Z hx]
      exact lv_ifnull cx.1 cx.2.1 hdg (hN (pc + 3) al st M hk H locs cells slots ls hI)
  · cases hX
theorem z1_ifnonnull {off : Int} (cx : zCx p s mi args meth c R mm) (ev : zEv Z D cy H0 L s) (hz : zins mm pc = some ((.ifnonnull off, n, (a, d, g), z, w, sw), cut)) (hX : zX kN kR kC bl pc al st M (.ifnonnull off, n, (a, d, g), z, w, sw) = some res) (hN : ∀ (pc1 : Nat) (al1 st1 : List zV) (M1 : zM), kN pc1 al1 st1 M1 = some res → zT p l e R s mi args below meth c Q Z D cy H0 bl L n0 mm M1 al1 st1 pc1) : zT p l e R s mi args below meth c Q Z D cy H0 bl L n0 mm M al st pc := by
  obtain ⟨hdg, rfl, hc⟩ := zfact2 cx.2.2.2.2.2.2.2.2.2.2 hz rfl
  obtain _ | ⟨x | x | x | x, st⟩ := st
  · cases hX
  · cases hX
  · cases hX
  · skip
    have hk : (bif Nat.beq x.1 0 then kN (pc + 3) al st M else kN a al st M) = some res := hX
    have ht := of_decide_eq_true hc
    refine zt_br (st' := st) (fun q => q.2) (fun H locs cells slots ls hI => ?_)
    show W _ _ _ _ _ _ _ _ _ _ _ _ _ _ _ (F0 mi pc ls (zcv Z (zp x) :: st.map (zcv Z)))
    by_cases hx : x.1 = 0
    · rw [show Nat.beq x.1 0 = true by rw [hx]; rfl] at hk
      rw [zcv_null Z hx]
      exact lv_ifnonnullN cx.1 cx.2.1 hdg (hN (pc + 3) al st M hk H locs cells slots ls hI)
    · rw [zb_ne hx] at hk
      rw [zcv_ref Z hx]
      exact lv_ifnonnull cx.1 cx.2.1 hdg ht (hN a al st M hk H locs cells slots ls hI)
  · cases hX
end ZSIM
