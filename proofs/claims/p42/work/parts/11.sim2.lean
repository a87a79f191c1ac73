/-! ===== THE WALK, TWO: switches, fields, arrays; by program (wip/p42/gen_sim2.py) ===== -/
def zfin (k d : Nat) : Bool := ((zCl[k - 1]?).map fun q => (q.2.1 d).2.2.2).getD false
def zinl : List Nat := [1, 9, 14, 20, 31, 52, 58, 81, 93, 107, 120, 129]
theorem zinl_ok : ∀ m ∈ zinl, (zyn m).name = "<init>" := by decide +kernel
def zfq (m : Nat) (E : Option (zE × Bool)) : Bool := match E with
  | none => true
  | some ((.putfield _, _, (a, d, _), _), _) => !(zfin a d) || zinl.contains m
  | _ => true
set_option maxRecDepth 100000 in
theorem zfq_ok1 : ∀ m, m < 342 → (zat2 [] (m % 18) (zat2 [] (m / 18) zcs)).all (fun ch => ch.all (zfq m)) = true := by decide +kernel
theorem zat2_nil {α : Type} (d : α) : ∀ n : Nat, zat2 d n [] = d
  | 0 => rfl
  | _ + 1 => rfl
theorem zat2_mem {α : Type} (d : α) : ∀ (n : Nat) (l : List α), zat2 d n l = d ∨ zat2 d n l ∈ l
  | n, [] => Or.inl (zat2_nil d n)
  | 0, x :: _ => Or.inr List.mem_cons_self
  | n + 1, _ :: r => (zat2_mem d n r).imp id (fun h => List.mem_cons_of_mem _ h)
theorem zfq_ok {m pc i n a d g : Nat} {x : Int32 × Int64 × List (Int32 × Nat)} {cut : Bool} (hz : zins m pc = some ((.putfield i, n, (a, d, g), x), cut)) (hf : zfin a d = true) : (zyn m).name = "<init>" := by
  have hm : m < 342 := by
    rcases Nat.lt_or_ge m 342 with h | h
    · exact h
    · unfold zins at hz
      rw [zat2_ge [] zcs (m / 18) (by show 19 ≤ m / 18; omega)] at hz
      cases hm : m % 18 <;> rw [hm] at hz <;> cases hp : pc / 24 <;> rw [hp] at hz <;> cases hq : pc % 24 <;> rw [hq] at hz <;> cases hz
  have h1 := List.all_eq_true.mp (zfq_ok1 m hm)
  unfold zins at hz
  generalize zat2 [] (m % 18) (zat2 [] (m / 18) zcs) = chs at h1 hz
  rcases zat2_mem [] (pc / 24) chs with h | h
  · rw [h] at hz
    cases hq : pc % 24 <;> rw [hq] at hz <;> cases hz
  · have h2 := List.all_eq_true.mp (h1 _ h)
    rcases zat2_mem none (pc % 24) (zat2 [] (pc / 24) chs) with h3 | h3
    · rw [h3] at hz; cases hz
    · have h4 := h2 _ h3
      rw [hz] at h4
      have h5 : (!(zfin a d) || zinl.contains m) = true := h4
      rw [hf] at h5
      exact zinl_ok m (List.contains_iff_mem.mp h5)
theorem zsw_miss {β : Type} (f : Nat → Option β) (x : Int32) (d : Nat) : ∀ l : List (Int32 × Nat), (∀ q ∈ l, x ≠ q.1) → zsw f x d l = f d
  | [], _ => rfl
  | q :: r, h => by
    show (if x = q.1 then f q.2 else zsw f x d r) = _
    rw [if_neg (h q List.mem_cons_self)]
    exact zsw_miss f x d r fun q' h' => h q' (List.mem_cons_of_mem _ h')
theorem zsw_hit {β : Type} (f : Nat → Option β) (x : Int32) (d : Nat) : ∀ (l : List (Int32 × Nat)) (k : Nat) (q : Int32 × Nat), l[k]? = some q → x = q.1 → (∀ (j : Nat) (q' : Int32 × Nat), j < k → l[j]? = some q' → x ≠ q'.1) → zsw f x d l = f q.2
  | [], k, q, h, _, _ => by simp at h
  | q0 :: r, 0, q, h, hx, _ => by
    rw [List.getElem?_cons_zero] at h
    cases h
    show (if x = q0.1 then f q0.2 else zsw f x d r) = _
    rw [if_pos hx]
  | q0 :: r, k + 1, q, h, hx, hj => by
    rw [List.getElem?_cons_succ] at h
    show (if x = q0.1 then f q0.2 else zsw f x d r) = _
    rw [if_neg (hj 0 q0 (Nat.succ_pos k) List.getElem?_cons_zero)]
    exact zsw_hit f x d r k q h hx fun j q' h1 h2 => hj (j + 1) q' (Nat.succ_lt_succ h1) (by rw [List.getElem?_cons_succ]; exact h2)
theorem zi32_ok {v : Int} (h : zi32 v = true) : (Int32.ofInt v).toInt = v := by
  unfold zi32 at h
  simp only [Bool.and_eq_true, decide_eq_true_eq] at h
  exact Int32.toInt_ofInt_of_le (by omega) (by omega)
theorem zsw_look {β : Type} (f : Nat → Option β) (x : Int32) (pc a : Nat) (df : Int) (hd : (pc : Int) + df = (a : Int)) : ∀ l : List (Int × Int), (∀ q ∈ l, 0 ≤ (pc : Int) + q.2 ∧ zi32 q.1 = true) → ∃ t : Nat, zsw f x a (l.map (fun q => (Int32.ofInt q.1, ((pc : Int) + q.2).toNat))) = f t ∧ (pc : Int) + Op.lookupswitch.offset l df x.toInt = (t : Int)
  | [], _ => ⟨a, rfl, hd⟩
  | (q1, q2) :: r, h => by
    obtain ⟨h1, h2⟩ := h _ List.mem_cons_self
    have e := zi32_ok h2
    by_cases hx : x = Int32.ofInt q1
    · refine ⟨((pc : Int) + q2).toNat, ?_, ?_⟩
      · show (if x = Int32.ofInt q1 then f ((pc : Int) + q2).toNat else _) = _
        rw [if_pos hx]
      · rw [Op.lookupswitch.offset_cons, if_pos (by rw [hx, e])]
        have h1' : 0 ≤ (pc : Int) + q2 := h1
        omega
    · obtain ⟨t, g1, g2⟩ := zsw_look f x pc a df hd r fun q hq => h q (List.mem_cons_of_mem _ hq)
      refine ⟨t, ?_, ?_⟩
      · show (if x = Int32.ofInt q1 then f ((pc : Int) + q2).toNat else _) = _
        rw [if_neg hx]
        exact g1
      · rw [Op.lookupswitch.offset_cons, if_neg (fun q => hx (Int32.toInt_inj.mp (by rw [e]; exact q.symm)))]
        exact g2
def zfI {β : Type} (v : zV) (f : Int32 → Option β) : Option β := match v with
  | .inl x => f x
  | _ => none
def zfR {β : Type} (v : zV) (f : Nat × Nat → Option β) : Option β := match v with
  | .inr (.inr (.inl x)) => f x
  | _ => none
theorem zin_in {j : Int32} {n : Nat} (h : zin j n = true) : vp_in j n := by
  unfold zin at h
  simp only [Bool.and_eq_true, decide_eq_true_eq] at h
  exact vp_in_iff.mpr h
theorem zib_or {x : Int32} (h : zib x = true) : x = 0 ∨ x = 1 := by
  unfold zib at h
  simpa using h
theorem zNf_le : ∀ k, k < 14 → zNf (k - 1) ≤ 95 := by decide +kernel
theorem zF_any {c i a d g : Nat} (h : (zat2 [] c zFc).any (fun e => Nat.beq e.1 i && (Nat.beq e.2.1 a && (Nat.beq e.2.2.1 d && Nat.beq e.2.2.2.1 g))) = true) : ∃ nest, zFok c (i, a, d, g, nest) := by
  obtain ⟨⟨e1, e2, e3, e4, e5⟩, he, h1⟩ := List.any_eq_true.mp h
  simp only [Bool.and_eq_true] at h1
  obtain ⟨h1, h2, h3, h4⟩ := h1
  have q1 := zb_eq h1
  have q2 := zb_eq h2
  have q3 := zb_eq h3
  have q4 := zb_eq h4
  subst q1; subst q2; subst q3; subst q4
  exact ⟨e5, zFc_ok c _ he⟩
theorem zF_any2 {c i a d g : Nat} (h : (zat2 [] c zFc).any (fun e => Nat.beq e.1 i && (Nat.beq e.2.1 a && (Nat.beq e.2.2.1 d && (Nat.beq e.2.2.2.1 g && (Nat.beq e.2.2.2.2 0 || Nat.ble g 2))))) = true) : ∃ nest, zFok c (i, a, d, g, nest) ∧ (nest = 0 ∨ g ≤ 2) := by
  obtain ⟨⟨e1, e2, e3, e4, e5⟩, he, h1⟩ := List.any_eq_true.mp h
  simp only [Bool.and_eq_true, Bool.or_eq_true] at h1
  obtain ⟨h1, h2, h3, h4, h5⟩ := h1
  have q1 := zb_eq h1
  have q2 := zb_eq h2
  have q3 := zb_eq h3
  have q4 := zb_eq h4
  subst q1; subst q2; subst q3; subst q4
  exact ⟨e5, zFc_ok c _ he, h5.imp (fun q => zb_eq q) (fun q => Nat.le_of_ble_eq_true q)⟩
theorem zF_cl {c i k d g nest : Nat} (h : zFok c (i, k, d, g, nest)) (hk : k ≠ 14) : ∃ (C : String) (T : u_T) (N : Nat), zCl[k - 1]? = some (C, T, N) ∧ 1 ≤ k ∧ k ≤ 13 ∧ d < N ∧ (T d).1 = C ∧ ((nest = 0 ∧ Cond.fieldLink (zcs1 c) i C (T d).2.1 (T d).2.2.1 ∈ zTs) ∨ (nest = 1 ∧ Cond.fieldLinkNest (zcs1 c) i C (T d).2.1 (T d).2.2.1 "CardsGone" ∈ tables_1)) ∧ ((g = 0 ∧ (zTy.getD (k - 1) (fun _ => .int)) d = .int) ∨ (g = 1 ∧ (zTy.getD (k - 1) (fun _ => .int)) d = .boolean) ∨ (g = 3 ∧ zfr (k - 1) d = true)) ∧ ((T d).2.2.2 = true → (nest = 0 ∧ zcs1 c = C) ∨ (nest = 1 ∧ g = 3)) := by
  have h' : (bif Nat.beq k 14 then _ else _) := h
  rw [zb_ne hk] at h'
  obtain ⟨⟨C, T, N⟩, h1, h2, h3, h4, h5, h6, h7, h8⟩ := h'
  exact ⟨C, T, N, h1, h2, h3, h4, h5, h6, h7, h8⟩
theorem zNf_of {k : Nat} {C : String} {T : u_T} {N : Nat} (h : zCl[k - 1]? = some (C, T, N)) : zNf (k - 1) = N := by
  unfold zNf
  rw [h]
  rfl
theorem zen_ob {Z : zZ} {cy : Nat → ClassId} {bl : Bool} {M : zM} {k i : Nat} (h : k ≤ 13) : zen Z cy bl M k i = .inr (k - 1, (List.range (zNf (k - 1))).map (zfs Z bl M k i)) := by
  unfold zen
  rw [show Nat.ble k 13 = true from Nat.ble_eq_true_of_le h]
  rfl
theorem zen_ar {Z : zZ} {cy : Nat → ClassId} {bl : Bool} {M : zM} {k i : Nat} (h : 17 ≤ k) : zen Z cy bl M k i = .inl (cy (zak k), (zka k).2.1, zco Z bl M k i) := by
  unfold zen
  rw [show Nat.ble k 13 = false from by
    cases q : Nat.ble k 13 with
    | false => rfl
    | true => have := Nat.le_of_ble_eq_true q; omega]
  rfl
theorem zmap_get {α : Type} (f : Nat → α) {N d : Nat} (h : d < N) : ((List.range N).map f)[d]? = some (f d) := by
  rw [List.getElem?_map, List.getElem?_range h]
  rfl
theorem zV_map (f : Nat → Value) {N d : Nat} (h : d < N) : vp_V ((List.range N).map f) d = f d := by
  unfold vp_V
  rw [List.getD_eq_getElem?_getD, zmap_get f h]
  rfl
theorem zP1 {D : va_G} {q : Nat × va_E} {H : Heap} (h : va_at D zCl q H) : va_P D zCl [q] H := by
  intro k q' hk
  cases k with
  | zero => rw [List.getElem?_cons_zero] at hk; cases hk; exact h
  | succ k => simp at hk
theorem zat_fix : ∀ k, k < 117 → (zat k = 4 → 17 ≤ k) ∧ (zat k = 3 → 17 ≤ k) ∧ (zat k = 5 → 17 ≤ k) ∧ (zat k = 6 → 17 ≤ k ∧ 1 ≤ zek k ∧ zek k ≤ 13) ∧ (zat k = 1 → 16 ≤ k) ∧ (zat k = 2 → 15 ≤ k ∧ k ≠ 16) ∧ (zat k ≤ 6) ∧ (zat k ≠ 0 → 15 ≤ k) ∧ ((zka k).2.1 ≤ 100000) ∧ (zat k = 6 → (zka k).2.1 ≤ 99) := by decide +kernel
section ZSIM
variable {p : Program} {l : Launch} {e : Env} {R : Room} {s : State} {mi : MethodId} {args : Array Value} {below : List Frame} {meth : Method} {c : Code} {Q : State → Prop}
variable {Z : zZ} {D : va_G} {cy : Nat → ClassId} {H0 : Heap} {bl : Bool} {L : Nat × (Nat → Int32)} {n0 mm : Nat}
variable {M : zM} {al st st' : List zV} {pc pc' : Nat}
/-- an array's cell -/
theorem zarr_at {H : Heap} {q : Nat × Nat} (hW : zW Z D cy H0 bl M H) (hr : zvr M q) (h17 : 17 ≤ q.1) : q.1 < 117 ∧ q.2 < zcn q.1 ∧ zpo q.1 q.2 < znx M ∧ H[zad Z q.1 q.2]? = some (vp_cell (cy (zak q.1)) ((zka q.1).2.1, zco Z bl M q.1 q.2)) := by
  obtain ⟨h1, h2, h3⟩ := zvr_obj hr (by omega) (by omega)
  refine ⟨h1, h2, h3, ?_⟩
  have h := zW_at hW h1 h2 h3
  rw [zen_ar h17] at h
  exact h
theorem zlen_of {k : Nat} (h : 17 ≤ k) : zlen M k = (zka k).2.1 := by
  unfold zlen
  rw [zb_ne (by omega)]
  rfl
theorem zld_of {k i j : Nat} (h : 17 ≤ k) : zld M k i j = zgI M k i j := by
  unfold zld
  rw [zb_ne (by omega), zb_ne (by omega)]
  rfl
theorem zco_i {k i : Nat} (h5 : zat k ≠ 5) (h6 : zat k ≠ 6) : zco Z bl M k i = .inl (fun j => zgI M k i j) := by
  unfold zco
  split
  · rename_i h; exact absurd h h5
  · rename_i h; exact absurd h h6
  · rfl
theorem zco_l {k i : Nat} (h5 : zat k = 5) : zco Z bl M k i = .inr (.inl (fun j => zgL M k i j)) := by
  unfold zco
  rw [h5]
  rfl
theorem zco_r {k i : Nat} (h6 : zat k = 6) : zco Z bl M k i = .inr (.inr (.inr (.inr (fun j => zrf Z (zgF bl M k i j))))) := by
  unfold zco
  rw [h6]
  rfl
theorem zft_r {k : Nat} (h6 : zat k = 6) : zft k = .object (zCn (zek k)) := by
  unfold zft
  rw [h6]
  rfl
theorem zft_of {k t : Nat} {ty : FieldType} (h : zat k = t) (ht : (match t with
  | 1 => some FieldType.int
  | 2 => some .byte
  | 3 => some .short
  | 4 => some .boolean
  | 5 => some .long
  | _ => none) = some ty) : zft k = ty := by
  unfold zft
  rw [h]
  split at ht <;> first | (cases ht; rfl) | cases ht
/-- an object's field is written -/
theorem zt_put {q : Nat × Nat} {v : zV} {M' : zM} {i d g nest : Nat} (cx : zCx p s mi args meth c R mm) (ev : zEv Z D cy H0 L s) (hF : zFok (zcm mm) (i, q.1, d, g, nest)) (h13 : q.1 ≤ 13) (hng : nest = 0 ∨ g ≤ 2) (hini : zfin q.1 d = true → meth.name = "<init>")
    (hdg : decode (zby mm) pc = .ok (.putfield i, 3)) (h : zT p l e R s mi args below meth c Q Z D cy H0 bl L n0 mm M' al st (pc + 3)) (hnx : znx M' = znx M) (hsc : zsc M' = zsc M) (hVM : zVM bl M → zvv M v → zVM bl M') (hoth : ∀ k' i', (k', i') ≠ (q.1, q.2) → zen Z cy bl M' k' i' = zen Z cy bl M k' i')
    (hfs : ∀ s', s' < zNf (q.1 - 1) → zfs Z bl M' q.1 q.2 s' = if s' = d then zcv Z v else zfs Z bl M q.1 q.2 s') (hn : ∀ ty, (zTy.getD (q.1 - 1) (fun _ => .int)) d = ty → narrow ty (zcv Z v) = zcv Z v ∧ fits ty (zcv Z v) = true) : zT p l e R s mi args below meth c Q Z D cy H0 bl L n0 mm M al (v :: zp q :: st) pc := by
  intro H locs cells slots ls hI
  obtain ⟨i1, i2, i3, i4, ⟨i5a, i5b, i5⟩, i6, i7, i8, i9⟩ := hI
  obtain ⟨C, T, N, hq, hk1, hk13, hd, hcls, hl, hty, hfin⟩ := zF_cl hF (by omega)
  have hNf := zNf_of hq
  obtain ⟨g1, g2, g3⟩ := zvr_obj (p := q) i5b (by omega) (by omega)
  have hat := zW_at i1 g1 g2 g3
  rw [zen_ob h13] at hat
  obtain ⟨r, h1, cell, q1, q2, q3, q4⟩ := hat
  have hr : r = (C, T, N) := Option.some.inj (h1.symm.trans hq)
  subst hr
  obtain ⟨hS, hfc, kC, hkC, hkind⟩ := ev.2.2.1.1 _ _ hq
  obtain ⟨cf, kf, fi, f, hi, hsl⟩ := hS d hd
  have hts := cx.2.2.2.2.1
  have hin := zwl _ _ hq
  have hlay := hts _ (hin _ (u_in_lay hd))
  have hst := (u_facts hfc hkC (u_lays hts hin hd) hi).1
  obtain ⟨t1, t2⟩ := zty_ok _ _ hq
  have hdty := t1 d hd
  obtain ⟨n1, n2⟩ := hn _ rfl
  have hap := va_apart (own := C) hts hin _ t1 t2 ev.2.2.1 hq
  have hi' : s.fieldFound? C (T d).2.1 (T d).2.2.1 = some (cf, kf, fi, f) := by rw [← hcls]; exact hi
  have hV' := hVM i2 i5a
  have done : ∀ H1 : Heap, H1[zad Z q.1 q.2]? = some (cell.setSlot f.slot (zcv Z v)) → H1.size = H.size → (∀ x : Nat, x ≠ zad Z q.1 q.2 → H1[x]? = H[x]?) → W p l e R s mi args below meth c H1 (locs ++ [⟨zad Z q.1 q.2, f.slot⟩]) cells slots Q (F0 mi (pc + 3) ls (st.map (zcv Z))) := by
    intro H1 e1 e2 e3
    refine h H1 _ cells slots ls ⟨zW_upd i1 i2.2.1 hnx g1 g2 g3 ?_ hoth e2 e3, hV', i3, zsv_le (Nat.le_of_eq hnx.symm) i4, zsv_le (Nat.le_of_eq hnx.symm) i5, ?_, by rw [hnx]; exact i7, by rw [hnx]; exact i8, by rw [hsc]; exact i9⟩
    · rw [zen_ob h13]
      rw [hsl] at e1
      refine ⟨_, hq, t_OB.to (V := updV (vp_V ((List.range (zNf (q.1 - 1))).map (zfs Z bl M q.1 q.2))) d (zcv Z v)) ⟨_, e1, q2, q3, t_set q4 hap hd (zcv Z v)⟩ (fun j hj => ?_)⟩
      have hj' : j < zNf (q.1 - 1) := by rw [hNf]; exact hj
      rw [zV_map _ hj', hfs j hj']
      unfold updV
      rw [zV_map _ hj']
    · intro x hx
      rcases List.mem_append.mp hx with hx | hx
      · exact i6 x hx
      · rw [List.mem_singleton.mp hx]
        show Z.1 ≤ zad Z q.1 q.2
        rw [zad_in Z (by omega)]
        omega
  show W p l e R s mi args below meth c H locs cells slots Q (F0 mi pc ls (zcv Z v :: zcv Z (zp q) :: st.map (zcv Z)))
  rw [zcv_ref Z (by omega)]
  cases hfn : (T d).2.2.2 with
  | false =>
    unfold u_lay at hlay
    rw [if_neg (by rw [hfn]; decide)] at hlay
    have h6 := u_store hfc hkC hkind hlay hi hdty n1 n2
    rcases hl with ⟨-, hl⟩ | ⟨-, hl⟩
    · exact W.putK cx.1 cx.2.1 (f := f) ⟨cx.2.2.2.1, hts _ hl, ⟨_, _, _, hi'⟩, hst⟩ (by rw [q2]; exact h6) q1 q3 (by rw [hsl]; exact k2_hasslot (q4 d hd)) rfl rfl hdg done
    · exact va_WputK cx.1 cx.2.1 (f := f) cx.2.2.2.1 (va_Nw.use rfl (ev.1 _ hl rfl)) hi' hst (by rw [q2]; exact h6) q1 q3 (by rw [hsl]; exact k2_hasslot (q4 d hd)) rfl rfl hdg done
  | true =>
    unfold u_lay at hlay
    rw [if_pos hfn] at hlay
    have h6 := u_fits hfc hkC hkind (Or.inr hlay) hi hdty n1 n2
    obtain ⟨hn0, hown⟩ : nest = 0 ∧ zcs1 (zcm mm) = C := by
      rcases hfin hfn with z | z
      · exact z
      · omega
    have hl' : Cond.fieldLink (zcs1 (zcm mm)) i C (T d).2.1 (T d).2.2.1 ∈ zTs := by
      rcases hl with ⟨-, hl⟩ | ⟨z, -⟩
      · exact hl
      · omega
    have hcf : mi.cls = cf := by
      obtain ⟨_, _, c', _, _, _, -, -, hf', -, -, -, hown2, -⟩ := Cond.laysFinal_spec hlay
      have e1 : c' = cf := by have := hi.symm.trans hf'; simp at this; exact this.1.symm
      rw [hcls, ← hown] at hown2
      rw [← e1]; exact Option.some.inj (cx.2.2.2.1.symm.trans hown2)
    have hin2 : meth.name = "<init>" := hini (by unfold zfin; rw [hq]; exact hfn)
    exact W.putFinK cx.1 cx.2.1 cx.2.2.2.1 (hts _ hl') hi' hst hcf hin2 (by rw [q2]; exact h6) q1 q3 (by rw [hsl]; exact k2_hasslot (q4 d hd)) rfl rfl hdg done
/-- an object's field is read -/
theorem zt_get {q : Nat × Nat} {v : zV} {i d g nest : Nat} (cx : zCx p s mi args meth c R mm) (ev : zEv Z D cy H0 L s) (hF : zFok (zcm mm) (i, q.1, d, g, nest)) (h14 : q.1 ≠ 14) (hdg : decode (zby mm) pc = .ok (.getfield i, 3)) (h : zT p l e R s mi args below meth c Q Z D cy H0 bl L n0 mm M al (v :: st) (pc + 3))
    (hv : v = if g = 3 then zp (zgF bl M q.1 q.2 d) else zi (zgI M q.1 q.2 d)) : zT p l e R s mi args below meth c Q Z D cy H0 bl L n0 mm M al (zp q :: st) pc := by
  intro H locs cells slots ls hI
  obtain ⟨i1, i2, i3, i4, ⟨i5b, i5⟩, i6⟩ := hI
  obtain ⟨C, T, N, hq, hk1, hk13, hd, hcls, hl, hty, hfin⟩ := zF_cl hF h14
  have hNf := zNf_of hq
  obtain ⟨g1, g2, g3⟩ := zvr_obj (p := q) i5b (by omega) (by omega)
  have hat := zW_at i1 g1 g2 g3
  rw [zen_ob hk13, hNf] at hat
  have hP := zP1 hat
  have hval : ((List.range N).map (zfs Z bl M q.1 q.2))[d]? = some (zcv Z v) := by
    rw [zmap_get _ hd, hv]
    unfold zfs
    rcases hty with ⟨rfl, z⟩ | ⟨rfl, z⟩ | ⟨rfl, z⟩
    · rw [show zfr (q.1 - 1) d = false by unfold zfr; rw [z]]
      rfl
    · rw [show zfr (q.1 - 1) d = false by unfold zfr; rw [z]]
      rfl
    · rw [z]
      rfl
  have hvv : zvv M v := by
    rw [hv]
    split
    · refine zgF_ok (s := d) i2 g1 g2 ?_ (fun _ => by rw [hNf]; exact hd) (fun z => by omega)
      have := zNf_le q.1 (by omega)
      omega
    · exact trivial
  have hk := h H locs cells slots ls ⟨i1, i2, i3, i4, ⟨hvv, i5⟩, i6⟩
  show W p l e R s mi args below meth c H locs cells slots Q (F0 mi pc ls (zcv Z (zp q) :: st.map (zcv Z)))
  rw [zcv_ref Z (by omega)]
  have hts := cx.2.2.2.2.1
  rcases hl with ⟨-, hl⟩ | ⟨-, hl⟩
  · exact va_get cx.1 cx.2.1 hts (zwl _ _ hq) cx.2.2.2.1 ev.2.2.1 hP 0 rfl hq d hd (ref := C) (hts _ hl) (fun x hx => by rw [hcls] at hx; exact hx) hval hdg hk
  · exact va_getN cx.1 cx.2.1 hts (zwl _ _ hq) cx.2.2.2.1 ev.2.2.1 hP 0 rfl hq d hd (ref := C) (va_Nw.use rfl (ev.1 _ hl rfl)) (fun x hx => by rw [hcls] at hx; exact hx) hval hdg hk
theorem zH0_at (ev : zEv Z D cy H0 L s) {H : Heap} (hW : zW Z D cy H0 bl M H) : ∀ x : Nat, x < H0.size → ¬ (Z.1 ≤ x) → H[x]? = H0[x]? := fun x hx _ => hW.2.2 x (by rw [← ev.2.2.2.2.2.2.2.2]; exact hx)
/-- the constant text's fields -/
theorem zt_getS {v : zV} {i j d g nest : Nat} (cx : zCx p s mi args meth c R mm) (ev : zEv Z D cy H0 L s) (hF : zFok (zcm mm) (i, 14, d, g, nest)) (hdg : decode (zby mm) pc = .ok (.getfield i, 3)) (h : zT p l e R s mi args below meth c Q Z D cy H0 bl L n0 mm M al (v :: st) (pc + 3))
    (hv : v = if g = 3 then zr 15 0 else zi 0) : zT p l e R s mi args below meth c Q Z D cy H0 bl L n0 mm M al (zp (14, j) :: st) pc := by
  intro H locs cells slots ls hI
  obtain ⟨i1, i2, i3, i4, ⟨i5b, i5⟩, i6⟩ := hI
  have hvv : zvv M v := by
    rw [hv]
    split
    · exact Or.inr (Or.inl ⟨by decide, by decide, rfl⟩)
    · exact trivial
  have hk := h H locs cells slots ls ⟨i1, i2, i3, i4, ⟨hvv, i5⟩, i6⟩
  have hts := cx.2.2.2.2.1
  obtain ⟨-, s2, s3, -⟩ := ev.2.2.2.2.2.1.1 0 (by decide)
  have hF' : (d = 0 ∧ g = 3 ∧ Cond.fieldLink (zcs1 (zcm mm)) i "java/lang/String" "value" "[B" ∈ zTs) ∨ (d = 1 ∧ g = 0 ∧ Cond.fieldLink (zcs1 (zcm mm)) i "java/lang/String" "coder" "B" ∈ zTs) := hF
  rcases hF' with ⟨-, rfl, hl⟩ | ⟨-, rfl, hl⟩
  · rw [if_pos rfl] at hv
    subst hv
    obtain ⟨cf, k, fi, f, cell, h1, h2, h3, h4, h5, h6⟩ := s3.kept (zH0_at ev i1)
    exact W.getf cx.1 cx.2.1 cx.2.2.2.1 (hts _ hl) h1 h2 h3 h4 (v := .ref Z.2.2.2) h5 rfl rfl hdg hk
  · rw [if_neg (by decide)] at hv
    subst hv
    obtain ⟨cf, k, fi, f, cell, h1, h2, h3, h4, h5, h6⟩ := s2.kept (zH0_at ev i1)
    exact W.getf cx.1 cx.2.1 cx.2.2.2.1 (hts _ hl) h1 h2 h3 h4 (v := .int 0) h5 rfl rfl hdg hk
/-- an array is written -/
theorem zt_arr {q : Nat × Nat} {M' : zM} (h : zT p l e R s mi args below meth c Q Z D cy H0 bl L n0 mm M' al st pc') (h17 : 17 ≤ q.1) (hr : zsv M st' → zvr M q) (hnx : znx M' = znx M) (hsc : zsc M' = zsc M) (hVM : zVM bl M → zsv M st' → zVM bl M') (hoth : ∀ k' i', (k', i') ≠ (q.1, q.2) → zen Z cy bl M' k' i' = zen Z cy bl M k' i') (hv : zsv M st' → zsv M st) (k : ∀ (H : Heap) (locs : List Loc) (cells slots : Nat) (ls : Array Slot), zW Z D cy H0 bl M H → zsv M st' → (∀ (H1 : Heap) (ad sl : Nat), ad = zad Z q.1 q.2 → H1[zad Z q.1 q.2]? = some (vp_cell (cy (zak q.1)) ((zka q.1).2.1, zco Z bl M' q.1 q.2)) → H1.size = H.size → (∀ x : Nat, x ≠ zad Z q.1 q.2 → H1[x]? = H[x]?) → W p l e R s mi args below meth c H1 (locs ++ [⟨ad, sl⟩]) cells slots Q (F0 mi pc' ls (st.map (zcv Z)))) → W p l e R s mi args below meth c H locs cells slots Q (F0 mi pc ls (st'.map (zcv Z)))) : zT p l e R s mi args below meth c Q Z D cy H0 bl L n0 mm M al st' pc := by
  intro H locs cells slots ls hI
  obtain ⟨i1, i2, i3, i4, i5, i6, i7, i8, i9⟩ := hI
  obtain ⟨g1, g2, g3, g4⟩ := zarr_at i1 (hr i5) h17
  refine k H locs cells slots ls i1 i5 fun H1 ad sl e0 e1 e2 e3 => h H1 _ cells slots ls ⟨zW_upd i1 i2.2.1 hnx g1 g2 g3 ?_ hoth e2 e3, hVM i2 i5, i3, zsv_le (Nat.le_of_eq hnx.symm) i4, zsv_le (Nat.le_of_eq hnx.symm) (hv i5), ?_, by rw [hnx]; exact i7, by rw [hnx]; exact i8, by rw [hsc]; exact i9⟩
  · rw [zen_ar h17]
    exact e1
  · intro x hx
    rcases List.mem_append.mp hx with hx | hx
    · exact i6 x hx
    · rw [List.mem_singleton.mp hx]
      show Z.1 ≤ ad
      rw [e0, zad_in Z (by omega)]
      omega
variable {kN : Nat → List zV → List zV → zM → Option (Option zV × zM)} {kR : Option zV → zM → Option (Option zV × zM)} {kC : Nat → List zV → Nat → List zV → List zV → zM → Option (Option zV × zM)} {res : Option zV × zM}
variable {n a d g : Nat} {z : Int32} {w : Int64} {sw : List (Int32 × Nat)} {cut : Bool}
theorem z1_lookup {df : Int} {ps : Array (Int × Int)} (cx : zCx p s mi args meth c R mm) (ev : zEv Z D cy H0 L s) (hz : zins mm pc = some ((.lookupswitch df ps, n, (a, d, g), z, w, sw), cut)) (hX : zX kN kR kC bl pc al st M (.lookupswitch df ps, n, (a, d, g), z, w, sw) = some res) (hN : ∀ (pc1 : Nat) (al1 st1 : List zV) (M1 : zM), kN pc1 al1 st1 M1 = some res → zT p l e R s mi args below meth c Q Z D cy H0 bl L n0 mm M1 al1 st1 pc1) : zT p l e R s mi args below meth c Q Z D cy H0 bl L n0 mm M al st pc := by
  obtain ⟨hdg, -, -, hc⟩ := zfact cx.2.2.2.2.2.2.2.2.2.2 hz
  have hc : (decide ((pc : Int) + df = (a : Int)) && (decide (sw = ps.toList.map (fun q => (Int32.ofInt q.1, ((pc : Int) + q.2).toNat))) && (ps.toList.all (fun q => decide (0 ≤ (pc : Int) + q.2) && zi32 q.1) && (ps.toList.zip (ps.toList.drop 1)).all (fun (a, next) => a.1 < next.1)))) = true := hc
  simp only [Bool.and_eq_true] at hc
  obtain ⟨c1, c2, c3, c4⟩ := hc
  have c1 := of_decide_eq_true c1
  have c2 := of_decide_eq_true c2
  obtain _ | ⟨x | x | x | x, st⟩ := st
  · cases hX
  · skip
    have hk : zsw (fun t => kN t al st M) x a sw = some res := hX
    rw [c2] at hk
    obtain ⟨t, t1, t2⟩ := zsw_look (fun t => kN t al st M) x pc a df c1 ps.toList (fun q hq => by have := List.all_eq_true.mp c3 q hq; simpa using this)
    rw [t1] at hk
    exact zt_st (hN _ _ _ _ hk) (fun _ q => q.2) (fun _ _ _ _ _ hL k => lv_lookup cx.1 cx.2.1 hdg c4 rfl t2 k)
  · cases hX
  · cases hX
  · cases hX
theorem z1_table {df lo hi : Int} {offs : Array Int} (cx : zCx p s mi args meth c R mm) (ev : zEv Z D cy H0 L s) (hz : zins mm pc = some ((.tableswitch df lo hi offs, n, (a, d, g), z, w, sw), cut)) (hX : zX kN kR kC bl pc al st M (.tableswitch df lo hi offs, n, (a, d, g), z, w, sw) = some res) (hN : ∀ (pc1 : Nat) (al1 st1 : List zV) (M1 : zM), kN pc1 al1 st1 M1 = some res → zT p l e R s mi args below meth c Q Z D cy H0 bl L n0 mm M1 al1 st1 pc1) : zT p l e R s mi args below meth c Q Z D cy H0 bl L n0 mm M al st pc := by
  obtain ⟨hdg, -, -, hc⟩ := zfact cx.2.2.2.2.2.2.2.2.2.2 hz
  have hc : (decide ((pc : Int) + df = (a : Int)) && (decide (sw = (List.range offs.size).map (fun (i : Nat) => (Int32.ofInt (lo + (i : Int)), ((pc : Int) + offs.getD i 0).toNat))) && ((List.range offs.size).all (fun (i : Nat) => decide (0 ≤ (pc : Int) + offs.getD i 0)) && (decide (hi + 1 = lo + offs.size) && (zi32 lo && zi32 hi))))) = true := hc
  simp only [Bool.and_eq_true] at hc
  obtain ⟨c1, c2, c3, c4, c5, c6⟩ := hc
  have c1 := of_decide_eq_true c1
  have c2 := of_decide_eq_true c2
  have c4 := of_decide_eq_true c4
  unfold zi32 at c5 c6
  simp only [Bool.and_eq_true, decide_eq_true_eq] at c5 c6
  obtain _ | ⟨x | x | x | x, st⟩ := st
  · cases hX
  · skip
    have hk : zsw (fun t => kN t al st M) x a sw = some res := hX
    rw [c2] at hk
    have key : ∀ j : Nat, j < offs.size → (Int32.ofInt (lo + (j : Int))).toInt = lo + j := fun j hj => Int32.toInt_ofInt_of_le (by omega) (by omega)
    by_cases h1 : x.toInt < lo ∨ hi < x.toInt
    · rw [zsw_miss _ _ _ _ (fun q hq => by
        obtain ⟨j, hj, rfl⟩ := List.mem_map.mp hq
        have hj := List.mem_range.mp hj
        intro e
        have e2 := congrArg Int32.toInt e
        have e3 := key j hj
        have e2 : x.toInt = (Int32.ofInt (lo + (j : Int))).toInt := e2
        omega)] at hk
      exact zt_st (hN _ _ _ _ hk) (fun _ q => q.2) (fun _ _ _ _ _ hL k => lv_tableOut cx.1 cx.2.1 hdg h1 c1 k)
    · have hj : (x.toInt - lo).toNat < offs.size := by omega
      have hg := zmap_get (fun (i : Nat) => (Int32.ofInt (lo + (i : Int)), ((pc : Int) + offs.getD i 0).toNat)) hj
      have e3 := key _ hj
      rw [zsw_hit _ x a _ _ _ hg (Int32.toInt_inj.mp (by show x.toInt = (Int32.ofInt (lo + (((x.toInt - lo).toNat : Nat) : Int))).toInt; omega)) (fun j q1 h2 h3 e => by
        rw [zmap_get _ (by omega)] at h3
        cases h3
        have e2 := congrArg Int32.toInt e
        have e4 := key j (by omega)
        have e2 : x.toInt = (Int32.ofInt (lo + (j : Int))).toInt := e2
        omega)] at hk
      have c3 := of_decide_eq_true (List.all_eq_true.mp c3 _ (List.mem_range.mpr hj))
      refine zt_st (hN _ _ _ _ hk) (fun _ q => q.2) (fun _ _ _ _ _ hL k => lv_tableIn cx.1 cx.2.1 hdg (fun q => h1 (Or.inl q)) (fun q => h1 (Or.inr q)) (off := offs.getD (x.toInt - lo).toNat 0) ?_ ?_ k)
      · rw [Array.getD_eq_getD_getElem?, Array.getElem?_eq_getElem hj]
        rfl
      · omega
  · cases hX
  · cases hX
  · cases hX
theorem z1_getfield {i : Nat} (cx : zCx p s mi args meth c R mm) (ev : zEv Z D cy H0 L s) (hz : zins mm pc = some ((.getfield i, n, (a, d, g), z, w, sw), cut)) (hX : zX kN kR kC bl pc al st M (.getfield i, n, (a, d, g), z, w, sw) = some res) (hN : ∀ (pc1 : Nat) (al1 st1 : List zV) (M1 : zM), kN pc1 al1 st1 M1 = some res → zT p l e R s mi args below meth c Q Z D cy H0 bl L n0 mm M1 al1 st1 pc1) : zT p l e R s mi args below meth c Q Z D cy H0 bl L n0 mm M al st pc := by
  obtain ⟨hdg, rfl, hc⟩ := zfact2 cx.2.2.2.2.2.2.2.2.2.2 hz rfl
  obtain ⟨nest, hF⟩ := zF_any hc
  obtain _ | ⟨q | q | q | q, st⟩ := st
  · cases hX
  · cases hX
  · cases hX
  · skip
    have hk : (bif Nat.beq q.1 a then (match g with | 2 => kN (pc + 3) al (zl (zgL M a q.2 d) :: st) M | 3 => kN (pc + 3) al (zp (bif Nat.beq a 14 then (15, 0) else zgF bl M a q.2 d) :: st) M | _ => kN (pc + 3) al (zi (zgFI M a q.2 d) :: st) M) else none) = some res := hX
    cases ha : Nat.beq q.1 a with
    | false => rw [ha] at hk; cases hk
    | true =>
      rw [ha] at hk
      have ha := zb_eq ha
      subst ha
      by_cases h14 : q.1 = 14
      · obtain ⟨q1, q2⟩ := q
        have h14 : q1 = 14 := h14
        subst h14
        have hF' : (d = 0 ∧ g = 3 ∧ Cond.fieldLink (zcs1 (zcm mm)) i "java/lang/String" "value" "[B" ∈ zTs) ∨ (d = 1 ∧ g = 0 ∧ Cond.fieldLink (zcs1 (zcm mm)) i "java/lang/String" "coder" "B" ∈ zTs) := hF
        rcases hF' with ⟨rfl, rfl, -⟩ | ⟨rfl, rfl, -⟩
        · exact zt_getS cx ev hF hdg (hN _ _ _ _ hk) rfl
        · exact zt_getS cx ev hF hdg (hN _ _ _ _ hk) rfl
      · have hb : Nat.beq q.1 14 = false := zb_ne h14
        obtain ⟨C, T, N, -, -, -, -, -, -, hty, -⟩ := zF_cl hF h14
        have hgI : zgFI M q.1 q.2 d = zgI M q.1 q.2 d := by unfold zgFI; rw [hb]; rfl
        rcases hty with ⟨rfl, -⟩ | ⟨rfl, -⟩ | ⟨rfl, -⟩
        · exact zt_get cx ev hF h14 hdg (hN _ _ _ _ hk) (by rw [if_neg (by decide)]; show zi (zgFI M q.1 q.2 d) = _; rw [hgI])
        · exact zt_get cx ev hF h14 hdg (hN _ _ _ _ hk) (by rw [if_neg (by decide)]; show zi (zgFI M q.1 q.2 d) = _; rw [hgI])
        · exact zt_get cx ev hF h14 hdg (hN _ _ _ _ hk) (by rw [if_pos rfl]; show zp (bif Nat.beq q.1 14 then (15, 0) else zgF bl M q.1 q.2 d) = _; rw [hb]; rfl)
  · cases hX
theorem zfs_sI {k i d : Nat} {x : Int32} {s' : Nat} (h : zfr (k - 1) d = false) : zfs Z bl (zsI M k i d x) k i s' = if s' = d then .int x else zfs Z bl M k i s' := by
  rw [zfs_I]
  unfold zfs
  by_cases hs : s' = d
  · subst hs
    rw [if_pos rfl, h, if_pos ⟨rfl, rfl, rfl⟩]
    rfl
  · rw [if_neg hs, if_neg (fun q => hs q.2.2)]
theorem zfs_sR {k i d : Nat} {x : Nat × Nat} {s' : Nat} (h : zfr (k - 1) d = true) (hb : (bl || zmut k d) = true) : zfs Z bl (zsR M k i d x) k i s' = if s' = d then zcv Z (zp x) else zfs Z bl M k i s' := by
  have e : zgR (zsR M k i d x) k i s' = if s' = d then x else zgR M k i s' := by
    show (if k = k ∧ i = i ∧ s' = d then x else M.2.2.1 k i s') = _
    by_cases hs : s' = d
    · rw [if_pos ⟨rfl, rfl, hs⟩, if_pos hs]
    · rw [if_neg (fun q => hs q.2.2), if_neg hs]
      rfl
  unfold zfs zgF
  rw [e]
  by_cases hs : s' = d
  · subst hs
    rw [if_pos rfl, if_pos rfl, h, hb]
    rfl
  · rw [if_neg hs, if_neg hs]
    rfl
theorem znar_b {x : Int32} (h : zib x = true) : narrow .boolean (.int x) = .int x := by
  rcases zib_or h with rfl | rfl <;> decide +kernel
def ztk : FieldType → Bool
  | .int => true
  | .boolean => true
  | .object _ => true
  | .array _ => true
  | _ => false
theorem ztk_ok : ∀ k, k < 13 → ∀ d, d < 95 → ztk ((zTy.getD k (fun _ => .int)) d) = true := by decide +kernel
theorem znar_r {k d : Nat} {ty : FieldType} (hk : k < 13) (hd : d < 95) (hr : zfr k d = true) (h : (zTy.getD k (fun _ => .int)) d = ty) (x : Nat × Nat) : narrow ty (zcv Z (zp x)) = zcv Z (zp x) ∧ fits ty (zcv Z (zp x)) = true := by
  have ht := ztk_ok k hk d hd
  unfold zfr at hr
  rw [h] at hr ht
  have hx : zcv Z (zp x) = .null ∨ ∃ a, zcv Z (zp x) = .ref a := by
    by_cases h0 : x.1 = 0
    · exact Or.inl (zcv_null Z h0)
    · exact Or.inr ⟨_, zcv_ref Z h0⟩
  rcases hx with hx | ⟨a, hx⟩ <;> rw [hx] <;> cases ty <;> first | (cases hr; done) | (cases ht; done) | exact ⟨rfl, rfl⟩
theorem z1_putfield {i : Nat} (cx : zCx p s mi args meth c R mm) (ev : zEv Z D cy H0 L s) (hz : zins mm pc = some ((.putfield i, n, (a, d, g), z, w, sw), cut)) (hX : zX kN kR kC bl pc al st M (.putfield i, n, (a, d, g), z, w, sw) = some res) (hN : ∀ (pc1 : Nat) (al1 st1 : List zV) (M1 : zM), kN pc1 al1 st1 M1 = some res → zT p l e R s mi args below meth c Q Z D cy H0 bl L n0 mm M1 al1 st1 pc1) : zT p l e R s mi args below meth c Q Z D cy H0 bl L n0 mm M al st pc := by
  have hini : zfin a d = true → meth.name = "<init>" := fun h => cx.2.2.2.2.2.2.2.1 (zfq_ok hz h)
  obtain ⟨hdg, rfl, hc⟩ := zfact2 cx.2.2.2.2.2.2.2.2.2.2 hz rfl
  have hc : (Nat.ble a 13 && (zat2 [] (zcm mm) zFc).any (fun e => Nat.beq e.1 i && (Nat.beq e.2.1 a && (Nat.beq e.2.2.1 d && (Nat.beq e.2.2.2.1 g && (Nat.beq e.2.2.2.2 0 || Nat.ble g 2)))))) = true := hc
  obtain ⟨h13, hc⟩ := Bool.and_eq_true_iff.mp hc
  have h13 := Nat.le_of_ble_eq_true h13
  obtain ⟨nest, hF, hng⟩ := zF_any2 hc
  obtain _ | ⟨v, st⟩ := st
  · cases hX
  obtain _ | ⟨q | q | q | q, st⟩ := st
  · cases hX
  · cases hX
  · cases hX
  · have hk : (bif Nat.beq q.1 a then (match g with
        | 0 => zfI v (fun x => kN (pc + 3) al st (zsI M a q.2 d x))
        | 1 => zfI v (fun x => bif zib x then kN (pc + 3) al st (zsI M a q.2 d x) else none)
        | 3 => zfR v (fun y => bif bl || zmut a d then kN (pc + 3) al st (zsR M a q.2 d y) else none)
        | _ => none) else none) = some res := hX
    cases ha : Nat.beq q.1 a with
    | false => rw [ha] at hk; cases hk
    | true =>
      rw [ha] at hk
      have ha := zb_eq ha
      subst ha
      obtain ⟨C, T, N, hqq, hk1, hk13, hd, -, -, hty, -⟩ := zF_cl hF (by omega)
      have hd95 : d < 95 := by have := zNf_of hqq; have := zNf_le q.1 (by omega); omega
      rcases hty with ⟨rfl, ht⟩ | ⟨rfl, ht⟩ | ⟨rfl, ht⟩
      · obtain ⟨x, rfl, hk⟩ := zx_nI (v := v) (f := fun x => kN (pc + 3) al st (zsI M q.1 q.2 d x)) hk
        exact zt_put cx ev hF h13 hng hini hdg (hN _ _ _ _ hk) rfl rfl (fun h _ => zVM_sI h _ _ _ _) (fun k1 i1 h => zen_sI h) (fun s1 h1 => zfs_sI (by unfold zfr; rw [ht])) (fun ty h => by rw [ht] at h; subst h; exact ⟨rfl, rfl⟩)
      · obtain ⟨x, rfl, hk2⟩ := zx_nI (v := v) (f := fun x => bif zib x then kN (pc + 3) al st (zsI M q.1 q.2 d x) else none) hk
        cases hx : zib x with
        | false => rw [hx] at hk2; cases hk2
        | true =>
          rw [hx] at hk2
          exact zt_put cx ev hF h13 hng hini hdg (hN _ _ _ _ hk2) rfl rfl (fun h _ => zVM_sI h _ _ _ _) (fun k1 i1 h => zen_sI h) (fun s1 h1 => zfs_sI (by unfold zfr; rw [ht])) (fun ty h => by rw [ht] at h; subst h; exact ⟨znar_b hx, by rcases zib_or hx with rfl | rfl; exact (show fits .boolean (.int 0) = true by decide +kernel); exact (show fits .boolean (.int 1) = true by decide +kernel)⟩)
      · obtain ⟨x, rfl, hk2⟩ := zx_nR (v := v) (f := fun y => bif bl || zmut q.1 d then kN (pc + 3) al st (zsR M q.1 q.2 d y) else none) hk
        cases hx : (bl || zmut q.1 d) with
        | false => rw [hx] at hk2; cases hk2
        | true =>
          rw [hx] at hk2
          exact zt_put cx ev hF h13 hng hini hdg (hN _ _ _ _ hk2) rfl rfl (fun h h2 => zVM_sR h _ _ _ h2) (fun k1 i1 h => zen_sR h) (fun s1 h1 => zfs_sR ht hx) (fun ty h => znar_r (by omega) hd95 ht h x)
  · cases hX
theorem z1_iaload (cx : zCx p s mi args meth c R mm) (ev : zEv Z D cy H0 L s) (hz : zins mm pc = some ((.iaload, n, (a, d, g), z, w, sw), cut)) (hX : zX kN kR kC bl pc al st M (.iaload, n, (a, d, g), z, w, sw) = some res) (hN : ∀ (pc1 : Nat) (al1 st1 : List zV) (M1 : zM), kN pc1 al1 st1 M1 = some res → zT p l e R s mi args below meth c Q Z D cy H0 bl L n0 mm M1 al1 st1 pc1) : zT p l e R s mi args below meth c Q Z D cy H0 bl L n0 mm M al st pc := by
  obtain ⟨hdg, rfl, hc⟩ := zfact2 cx.2.2.2.2.2.2.2.2.2.2 hz rfl
  obtain _ | ⟨j | j | j | j, st⟩ := st
  · cases hX
  · skip
    obtain _ | ⟨q | q | q | q, st⟩ := st
    · cases hX
    · cases hX
    · cases hX
    · skip
      have hk : (bif Nat.beq (zat q.1) 1 then (if zin j (zlen M q.1) = true then kN (pc + 1) al (zi (zld M q.1 q.2 j.toNatClampNeg) :: st) M else none) else none) = some res := hX
      cases ha : (Nat.beq (zat q.1) 1) with
      | false => rw [ha] at hk; cases hk
      | true =>
        rw [ha] at hk
        by_cases hj : zin j (zlen M q.1) = true
        · have hk : (if zin j (zlen M q.1) = true then kN (pc + 1) al (zi (zld M q.1 q.2 j.toNatClampNeg) :: st) M else none) = some res := hk
          rw [if_pos hj] at hk
          have hin := zin_in hj
          have ha := zb_eq ha
          intro H locs cells slots ls hI
          obtain ⟨i1, i2, i3, i4, ⟨i5a, i5b, i5⟩, i6⟩ := hI
          have hk := hN _ _ _ _ hk H locs cells slots ls ⟨i1, i2, i3, i4, ⟨trivial, i5⟩, i6⟩
          rcases i5b with z | ⟨z1, z2, z3⟩ | z
          · exfalso; rw [z] at ha; exact absurd ha (by decide)
          · have h16 : q.1 = 16 := by
              have q14 : q.1 ≠ 14 := fun e => by rw [e] at ha; exact absurd ha (by decide)
              have q15 : q.1 ≠ 15 := fun e => by rw [e] at ha; exact absurd ha (by decide)
              omega
            obtain ⟨q1, q2⟩ := q
            have h16 : q1 = 16 := h16
            subst h16
            obtain ⟨scr, x1, x2, x3, x4, x5⟩ := ev.2.2.2.2.1
            have hlt : Z.2.1 < Z.1 := by rw [← ev.2.2.2.2.2.2.2.2]; exact (Array.getElem?_eq_some_iff.mp x1).1
            have hsc := i6.2.2.2
            have hin : vp_in j L.1 := by rw [← hsc]; exact hin
            have hlt2 : j.toNatClampNeg < L.1 := Nat.not_le.mp fun z => hin (Or.inr z)
            rw [← hsc] at x5
            refine W.iald (v := .int ((zsc M).2 j.toNatClampNeg)) cx.1 cx.2.1 (by show H[Z.2.1]? = _; rw [i1.2.2 _ hlt]; exact x1) x2 x3 (by rw [x4]; exact hin) (x5 _ (by rw [hsc]; exact hlt2)) rfl rfl hdg hk
          · have h17 : 17 ≤ q.1 := by
              have := (zat_fix q.1 z.1).2.2.2.2.1 ha
              have := (zkt_zpo1 q.1 z.1 q.2 z.2.1).2.2.2
              omega
            have i5b : zvr M q := Or.inr (Or.inr z)
            obtain ⟨g1, g2, g3, g4⟩ := zarr_at i1 i5b h17
            rw [zco_i (by omega) (by omega)] at g4
            rw [zlen_of h17] at hin
            have hlt : j.toNatClampNeg < (zka q.1).2.1 := Nat.not_le.mp fun z => hin (Or.inr z)
            have hA := (ev.2.2.2.1 q.1 h17 (by omega) (by omega)).1
            rw [zft_of ha rfl] at hA
            show W p l e R s mi args below meth c H locs cells slots Q (F0 mi pc ls (.int j :: zcv Z (zp q) :: st.map (zcv Z)))
            rw [zcv_ref Z (q := q) (by omega)]
            rw [zld_of h17] at hk
            exact W.iald (v := .int (zgI M q.1 q.2 j.toNatClampNeg)) cx.1 cx.2.1 g4 (hA _ (fun j => .int (zgI M q.1 q.2 j))) (fun z => by cases z) (by show ¬ (j < 0 ∨ (arrV _ _ _).slots.size ≤ _); rw [arrV_size]; exact hin) (by show (arrV _ _ _).slots[_]? = _; rw [arrV_read _ _ hlt]) rfl rfl hdg hk
        · have hk : (if zin j (zlen M q.1) = true then kN (pc + 1) al (zi (zld M q.1 q.2 j.toNatClampNeg) :: st) M else none) = some res := hk
          rw [if_neg hj] at hk
          cases hk
    · cases hX
  · cases hX
  · cases hX
  · cases hX
theorem z1_saload (cx : zCx p s mi args meth c R mm) (ev : zEv Z D cy H0 L s) (hz : zins mm pc = some ((.saload, n, (a, d, g), z, w, sw), cut)) (hX : zX kN kR kC bl pc al st M (.saload, n, (a, d, g), z, w, sw) = some res) (hN : ∀ (pc1 : Nat) (al1 st1 : List zV) (M1 : zM), kN pc1 al1 st1 M1 = some res → zT p l e R s mi args below meth c Q Z D cy H0 bl L n0 mm M1 al1 st1 pc1) : zT p l e R s mi args below meth c Q Z D cy H0 bl L n0 mm M al st pc := by
  obtain ⟨hdg, rfl, hc⟩ := zfact2 cx.2.2.2.2.2.2.2.2.2.2 hz rfl
  obtain _ | ⟨j | j | j | j, st⟩ := st
  · cases hX
  · skip
    obtain _ | ⟨q | q | q | q, st⟩ := st
    · cases hX
    · cases hX
    · cases hX
    · skip
      have hk : (bif Nat.beq (zat q.1) 3 then (if zin j (zlen M q.1) = true then kN (pc + 1) al (zi (zld M q.1 q.2 j.toNatClampNeg) :: st) M else none) else none) = some res := hX
      cases ha : (Nat.beq (zat q.1) 3) with
      | false => rw [ha] at hk; cases hk
      | true =>
        rw [ha] at hk
        by_cases hj : zin j (zlen M q.1) = true
        · have hk : (if zin j (zlen M q.1) = true then kN (pc + 1) al (zi (zld M q.1 q.2 j.toNatClampNeg) :: st) M else none) = some res := hk
          rw [if_pos hj] at hk
          have hin := zin_in hj
          have ha := zb_eq ha
          intro H locs cells slots ls hI
          obtain ⟨i1, i2, i3, i4, ⟨i5a, i5b, i5⟩, i6⟩ := hI
          have h117 : q.1 < 117 ∧ q.2 < zcn q.1 := by
            rcases i5b with z | ⟨z1, z2, z3⟩ | z
            · exfalso; rw [z] at ha; exact absurd ha (by decide)
            · exfalso
              have q14 : q.1 ≠ 14 := fun e => by rw [e] at ha; exact absurd ha (by decide)
              have q15 : q.1 ≠ 15 := fun e => by rw [e] at ha; exact absurd ha (by decide)
              have q16 : q.1 ≠ 16 := fun e => by rw [e] at ha; exact absurd ha (by decide)
              omega
            · exact ⟨z.1, z.2.1⟩
          have h17 : 17 ≤ q.1 := (zat_fix q.1 h117.1).2.1 ha
          obtain ⟨g1, g2, g3, g4⟩ := zarr_at i1 i5b h17
          rw [zco_i (by omega) (by omega)] at g4
          rw [zlen_of h17] at hin
          have hlt : j.toNatClampNeg < (zka q.1).2.1 := Nat.not_le.mp fun z => hin (Or.inr z)
          have hA := (ev.2.2.2.1 q.1 h17 (by omega) (by omega)).1
          rw [zft_of ha rfl] at hA
          show W p l e R s mi args below meth c H locs cells slots Q (F0 mi pc ls (.int j :: zcv Z (zp q) :: st.map (zcv Z)))
          rw [zcv_ref Z (q := q) (by omega)]
          have hk := hN _ _ _ _ hk H locs cells slots ls ⟨i1, i2, i3, i4, ⟨trivial, i5⟩, i6⟩
          rw [zld_of h17] at hk
          exact W.sald (v := .int (zgI M q.1 q.2 j.toNatClampNeg)) cx.1 cx.2.1 g4 (hA _ (fun j => .int (zgI M q.1 q.2 j))) (fun z => by cases z) (by show ¬ (j < 0 ∨ (arrV _ _ _).slots.size ≤ _); rw [arrV_size]; exact hin) (by show (arrV _ _ _).slots[_]? = _; rw [arrV_read _ _ hlt]) rfl rfl hdg hk
        · have hk : (if zin j (zlen M q.1) = true then kN (pc + 1) al (zi (zld M q.1 q.2 j.toNatClampNeg) :: st) M else none) = some res := hk
          rw [if_neg hj] at hk
          cases hk
    · cases hX
  · cases hX
  · cases hX
  · cases hX
theorem z1_laload (cx : zCx p s mi args meth c R mm) (ev : zEv Z D cy H0 L s) (hz : zins mm pc = some ((.laload, n, (a, d, g), z, w, sw), cut)) (hX : zX kN kR kC bl pc al st M (.laload, n, (a, d, g), z, w, sw) = some res) (hN : ∀ (pc1 : Nat) (al1 st1 : List zV) (M1 : zM), kN pc1 al1 st1 M1 = some res → zT p l e R s mi args below meth c Q Z D cy H0 bl L n0 mm M1 al1 st1 pc1) : zT p l e R s mi args below meth c Q Z D cy H0 bl L n0 mm M al st pc := by
  obtain ⟨hdg, rfl, hc⟩ := zfact2 cx.2.2.2.2.2.2.2.2.2.2 hz rfl
  obtain _ | ⟨j | j | j | j, st⟩ := st
  · cases hX
  · skip
    obtain _ | ⟨q | q | q | q, st⟩ := st
    · cases hX
    · cases hX
    · cases hX
    · skip
      have hk : (bif Nat.beq (zat q.1) 5 then (if zin j (zlen M q.1) = true then kN (pc + 1) al (zl (zgL M q.1 q.2 j.toNatClampNeg) :: st) M else none) else none) = some res := hX
      cases ha : (Nat.beq (zat q.1) 5) with
      | false => rw [ha] at hk; cases hk
      | true =>
        rw [ha] at hk
        by_cases hj : zin j (zlen M q.1) = true
        · have hk : (if zin j (zlen M q.1) = true then kN (pc + 1) al (zl (zgL M q.1 q.2 j.toNatClampNeg) :: st) M else none) = some res := hk
          rw [if_pos hj] at hk
          have hin := zin_in hj
          have ha := zb_eq ha
          intro H locs cells slots ls hI
          obtain ⟨i1, i2, i3, i4, ⟨i5a, i5b, i5⟩, i6⟩ := hI
          have h117 : q.1 < 117 ∧ q.2 < zcn q.1 := by
            rcases i5b with z | ⟨z1, z2, z3⟩ | z
            · exfalso; rw [z] at ha; exact absurd ha (by decide)
            · exfalso
              have q14 : q.1 ≠ 14 := fun e => by rw [e] at ha; exact absurd ha (by decide)
              have q15 : q.1 ≠ 15 := fun e => by rw [e] at ha; exact absurd ha (by decide)
              have q16 : q.1 ≠ 16 := fun e => by rw [e] at ha; exact absurd ha (by decide)
              omega
            · exact ⟨z.1, z.2.1⟩
          have h17 : 17 ≤ q.1 := (zat_fix q.1 h117.1).2.2.1 ha
          obtain ⟨g1, g2, g3, g4⟩ := zarr_at i1 i5b h17
          rw [zco_l ha] at g4
          rw [zlen_of h17] at hin
          have hlt : j.toNatClampNeg < (zka q.1).2.1 := Nat.not_le.mp fun z => hin (Or.inr z)
          have hA := (ev.2.2.2.1 q.1 h17 (by omega) (by omega)).1
          rw [zft_of ha rfl] at hA
          show W p l e R s mi args below meth c H locs cells slots Q (F0 mi pc ls (.int j :: zcv Z (zp q) :: st.map (zcv Z)))
          rw [zcv_ref Z (q := q) (by omega)]
          have hk := hN _ _ _ _ hk H locs cells slots ls ⟨i1, i2, i3, i4, ⟨trivial, i5⟩, i6⟩
          exact W.lald (v := .long (zgL M q.1 q.2 j.toNatClampNeg)) cx.1 cx.2.1 g4 (hA _ (fun j => .long (zgL M q.1 q.2 j))) (fun z => by cases z) (by show ¬ (j < 0 ∨ (arrV _ _ _).slots.size ≤ _); rw [arrV_size]; exact hin) (by show (arrV _ _ _).slots[_]? = _; rw [arrV_read _ _ hlt]) rfl rfl hdg hk
        · have hk : (if zin j (zlen M q.1) = true then kN (pc + 1) al (zl (zgL M q.1 q.2 j.toNatClampNeg) :: st) M else none) = some res := hk
          rw [if_neg hj] at hk
          cases hk
    · cases hX
  · cases hX
  · cases hX
  · cases hX
theorem z1_aaload (cx : zCx p s mi args meth c R mm) (ev : zEv Z D cy H0 L s) (hz : zins mm pc = some ((.aaload, n, (a, d, g), z, w, sw), cut)) (hX : zX kN kR kC bl pc al st M (.aaload, n, (a, d, g), z, w, sw) = some res) (hN : ∀ (pc1 : Nat) (al1 st1 : List zV) (M1 : zM), kN pc1 al1 st1 M1 = some res → zT p l e R s mi args below meth c Q Z D cy H0 bl L n0 mm M1 al1 st1 pc1) : zT p l e R s mi args below meth c Q Z D cy H0 bl L n0 mm M al st pc := by
  obtain ⟨hdg, rfl, hc⟩ := zfact2 cx.2.2.2.2.2.2.2.2.2.2 hz rfl
  obtain _ | ⟨j | j | j | j, st⟩ := st
  · cases hX
  · skip
    obtain _ | ⟨q | q | q | q, st⟩ := st
    · cases hX
    · cases hX
    · cases hX
    · skip
      have hk : (bif Nat.beq (zat q.1) 6 then (if zin j (zlen M q.1) = true then kN (pc + 1) al (zp (zgF bl M q.1 q.2 j.toNatClampNeg) :: st) M else none) else none) = some res := hX
      cases ha : (Nat.beq (zat q.1) 6) with
      | false => rw [ha] at hk; cases hk
      | true =>
        rw [ha] at hk
        by_cases hj : zin j (zlen M q.1) = true
        · have hk : (if zin j (zlen M q.1) = true then kN (pc + 1) al (zp (zgF bl M q.1 q.2 j.toNatClampNeg) :: st) M else none) = some res := hk
          rw [if_pos hj] at hk
          have hin := zin_in hj
          have ha := zb_eq ha
          intro H locs cells slots ls hI
          obtain ⟨i1, i2, i3, i4, ⟨i5a, i5b, i5⟩, i6⟩ := hI
          have h117 : q.1 < 117 ∧ q.2 < zcn q.1 := by
            rcases i5b with z | ⟨z1, z2, z3⟩ | z
            · exfalso; rw [z] at ha; exact absurd ha (by decide)
            · exfalso
              have q14 : q.1 ≠ 14 := fun e => by rw [e] at ha; exact absurd ha (by decide)
              have q15 : q.1 ≠ 15 := fun e => by rw [e] at ha; exact absurd ha (by decide)
              have q16 : q.1 ≠ 16 := fun e => by rw [e] at ha; exact absurd ha (by decide)
              omega
            · exact ⟨z.1, z.2.1⟩
          have h17 : 17 ≤ q.1 := (zat_fix q.1 h117.1).2.2.2.1 ha |>.1
          obtain ⟨g1, g2, g3, g4⟩ := zarr_at i1 i5b h17
          rw [zco_r ha] at g4
          rw [zlen_of h17] at hin
          have hlt : j.toNatClampNeg < (zka q.1).2.1 := Nat.not_le.mp fun z => hin (Or.inr z)
          have hA := (ev.2.2.2.1 q.1 h17 (by omega) (by omega)).1
          rw [zft_r ha] at hA
          show W p l e R s mi args below meth c H locs cells slots Q (F0 mi pc ls (.int j :: zcv Z (zp q) :: st.map (zcv Z)))
          rw [zcv_ref Z (q := q) (by omega)]
          have hk := hN _ _ _ _ hk H locs cells slots ls ⟨i1, i2, i3, i4, ⟨zgF_ok i2 g1 g2 (by have := (zat_fix q.1 h117.1).2.2.2.2.2.2.2.2.2 ha; omega) (fun z => by omega) (fun _ => hlt), i5⟩, i6⟩
          exact W.aald (v := va_rf (zrf Z (zgF bl M q.1 q.2 j.toNatClampNeg))) (ty := .object (zCn (zek q.1))) cx.1 cx.2.1 g4 (hA _ (fun j => va_rf (zrf Z (zgF bl M q.1 q.2 j)))) rfl (fun z => by cases z) (by show ¬ (j < 0 ∨ (arrV _ _ _).slots.size ≤ _); rw [arrV_size]; exact hin) (by show (arrV _ _ _).slots[_]? = _; rw [arrV_read _ _ hlt]) rfl rfl hdg hk
        · have hk : (if zin j (zlen M q.1) = true then kN (pc + 1) al (zp (zgF bl M q.1 q.2 j.toNatClampNeg) :: st) M else none) = some res := hk
          rw [if_neg hj] at hk
          cases hk
    · cases hX
  · cases hX
  · cases hX
  · cases hX
theorem z1_baload (cx : zCx p s mi args meth c R mm) (ev : zEv Z D cy H0 L s) (hz : zins mm pc = some ((.baload, n, (a, d, g), z, w, sw), cut)) (hX : zX kN kR kC bl pc al st M (.baload, n, (a, d, g), z, w, sw) = some res) (hN : ∀ (pc1 : Nat) (al1 st1 : List zV) (M1 : zM), kN pc1 al1 st1 M1 = some res → zT p l e R s mi args below meth c Q Z D cy H0 bl L n0 mm M1 al1 st1 pc1) : zT p l e R s mi args below meth c Q Z D cy H0 bl L n0 mm M al st pc := by
  obtain ⟨hdg, rfl, hc⟩ := zfact2 cx.2.2.2.2.2.2.2.2.2.2 hz rfl
  obtain _ | ⟨j | j | j | j, st⟩ := st
  · cases hX
  · skip
    obtain _ | ⟨q | q | q | q, st⟩ := st
    · cases hX
    · cases hX
    · cases hX
    · skip
      have hk : (bif (Nat.beq (zat q.1) 2 || Nat.beq (zat q.1) 4) then (if zin j (zlen M q.1) = true then kN (pc + 1) al (zi (zld M q.1 q.2 j.toNatClampNeg) :: st) M else none) else none) = some res := hX
      cases ha : ((Nat.beq (zat q.1) 2 || Nat.beq (zat q.1) 4)) with
      | false => rw [ha] at hk; cases hk
      | true =>
        rw [ha] at hk
        by_cases hj : zin j (zlen M q.1) = true
        · have hk : (if zin j (zlen M q.1) = true then kN (pc + 1) al (zi (zld M q.1 q.2 j.toNatClampNeg) :: st) M else none) = some res := hk
          rw [if_pos hj] at hk
          have hin := zin_in hj
          have ha' : zat q.1 = 2 ∨ zat q.1 = 4 := by
            simp only [Bool.or_eq_true] at ha
            exact ha.imp (fun z => zb_eq z) (fun z => zb_eq z)
          intro H locs cells slots ls hI
          obtain ⟨i1, i2, i3, i4, ⟨i5a, i5b, i5⟩, i6⟩ := hI
          have hk := hN _ _ _ _ hk H locs cells slots ls ⟨i1, i2, i3, i4, ⟨trivial, i5⟩, i6⟩
          rcases i5b with z | ⟨z1, z2, z3⟩ | z
          · exfalso; rw [z] at ha'; exact absurd ha' (by decide)
          · have h15 : q.1 = 15 := by
              have q14 : q.1 ≠ 14 := fun e => by rw [e] at ha'; exact absurd ha' (by decide)
              have q16 : q.1 ≠ 16 := fun e => by rw [e] at ha'; exact absurd ha' (by decide)
              omega
            obtain ⟨q1, q2⟩ := q
            have h15 : q1 = 15 := h15
            subst h15
            obtain ⟨-, -, -, s4⟩ := ev.2.2.2.2.2.1.1 0 (by decide)
            obtain ⟨cell, x1, x2, x3, x4, x5, x6, x7⟩ := s4.kept (zH0_at ev i1)
            have hin : vp_in j 12 := hin
            have hlt2 : j.toNatClampNeg < 12 := Nat.not_le.mp fun z => hin (Or.inr z)
            have x4 : 12 ≤ cell.slots.size := x4
            refine W.bald (v := .int (zsb j.toNatClampNeg)) cx.1 cx.2.1 x1 x2 x3 (fun z => by rcases z with z | z; exact hin (Or.inl z); omega) (x6 _ hlt2) rfl rfl hdg hk
          · have h117 := z
            have h17 : 17 ≤ q.1 := by
              have := (zkt_zpo1 q.1 z.1 q.2 z.2.1).2.2.2
              rcases ha' with e | e
              · have := (zat_fix q.1 z.1).2.2.2.2.2.1 e
                omega
              · have := (zat_fix q.1 z.1).1 e
                omega
            have i5b : zvr M q := Or.inr (Or.inr z)
            obtain ⟨g1, g2, g3, g4⟩ := zarr_at i1 i5b h17
            rw [zco_i (by omega) (by omega)] at g4
            rw [zlen_of h17] at hin
            have hlt : j.toNatClampNeg < (zka q.1).2.1 := Nat.not_le.mp fun z => hin (Or.inr z)
            have hA := (ev.2.2.2.1 q.1 h17 (by omega) (by omega)).1
            rw [zld_of h17] at hk
            show W p l e R s mi args below meth c H locs cells slots Q (F0 mi pc ls (.int j :: zcv Z (zp q) :: st.map (zcv Z)))
            rw [zcv_ref Z (q := q) (by omega)]
            rcases ha' with e | e
            · rw [zft_of e rfl] at hA
              exact W.bald (v := .int (zgI M q.1 q.2 j.toNatClampNeg)) cx.1 cx.2.1 g4 (hA _ (fun j => .int (zgI M q.1 q.2 j))) (fun z => by cases z) (by show ¬ (j < 0 ∨ (arrV _ _ _).slots.size ≤ _); rw [arrV_size]; exact hin) (by show (arrV _ _ _).slots[_]? = _; rw [arrV_read _ _ hlt]) rfl rfl hdg hk
            · rw [zft_of e rfl] at hA
              exact W.zald (v := .int (zgI M q.1 q.2 j.toNatClampNeg)) cx.1 cx.2.1 g4 (hA _ (fun j => .int (zgI M q.1 q.2 j))) (fun z => by cases z) (by show ¬ (j < 0 ∨ (arrV _ _ _).slots.size ≤ _); rw [arrV_size]; exact hin) (by show (arrV _ _ _).slots[_]? = _; rw [arrV_read _ _ hlt]) rfl rfl hdg hk
        · have hk : (if zin j (zlen M q.1) = true then kN (pc + 1) al (zi (zld M q.1 q.2 j.toNatClampNeg) :: st) M else none) = some res := hk
          rw [if_neg hj] at hk
          cases hk
    · cases hX
  · cases hX
  · cases hX
  · cases hX
end ZSIM
