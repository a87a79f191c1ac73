/-! ===== the world's laws: what a cell is, what a store does ===== -/
def zsv (M : zM) : List zV → Prop
  | [] => True
  | v :: r => zvv M v ∧ zsv M r
theorem zsv_mem {M : zM} : ∀ {l : List zV}, (zsv M l ↔ ∀ v ∈ l, zvv M v)
  | [] => by simp [zsv]
  | v :: r => by simp [zsv, zsv_mem (l := r)]
def zsz (k : Nat) : Nat := bif Nat.ble k 13 then zNf (k - 1) else (zka k).2.1
def zsl : Nat → Nat
  | 0 => 0
  | n + 1 => zsl n + zsz (zkt n).1
theorem zsl_le {a b : Nat} (h : a ≤ b) : zsl a ≤ zsl b := by
  induction h with
  | refl => exact Nat.le_refl _
  | step _ ih => exact Nat.le_trans ih (Nat.le_add_right _ _)
theorem zvr_obj {M : zM} {p : Nat × Nat} (h : zvr M p) (h0 : p.1 ≠ 0) (h1 : ¬ (14 ≤ p.1 ∧ p.1 ≤ 16)) : p.1 < 117 ∧ p.2 < zcn p.1 ∧ zpo p.1 p.2 < znx M := by
  rcases h with h | h | h
  · exact absurd h h0
  · exact absurd ⟨h.1, h.2.1⟩ h1
  · exact h
theorem zvr_le {M M' : zM} (hn : znx M ≤ znx M') {p : Nat × Nat} (h : zvr M p) : zvr M' p := by
  rcases h with h | h | h
  · exact Or.inl h
  · exact Or.inr (Or.inl h)
  · exact Or.inr (Or.inr ⟨h.1, h.2.1, Nat.lt_of_lt_of_le h.2.2 hn⟩)
theorem zvv_le {M M' : zM} (hn : znx M ≤ znx M') {v : zV} (h : zvv M v) : zvv M' v := by
  match v, h with
  | .inl _, _ => exact trivial
  | .inr (.inl _), _ => exact trivial
  | .inr (.inr (.inl p)), h => exact zvr_le (p := p) hn h
  | .inr (.inr (.inr _)), _ => exact trivial
theorem zsv_le {M M' : zM} (hn : znx M ≤ znx M') {l : List zV} (h : zsv M l) : zsv M' l := zsv_mem.mpr fun v hv => zvv_le hn (zsv_mem.mp h v hv)
theorem zb_ne {a b : Nat} (h : a ≠ b) : Nat.beq a b = false := by
  cases q : Nat.beq a b with
  | false => rfl
  | true => exact absurd (Nat.eq_of_beq_eq_true q) h
theorem zb_eq {a b : Nat} (h : Nat.beq a b = true) : a = b := Nat.eq_of_beq_eq_true h
theorem zad_in (Z : zZ) {k i : Nat} (h : ¬ (14 ≤ k ∧ k ≤ 16)) : zad Z k i = Z.1 + zpo k i := by
  unfold zad
  rw [zb_ne (by omega), zb_ne (by omega), zb_ne (by omega)]
  rfl
theorem zrf_ref (Z : zZ) {p : Nat × Nat} (h : p.1 ≠ 0) : zrf Z p = some (zad Z p.1 p.2) := by
  unfold zrf
  rw [zb_ne h]
  rfl
theorem zgF_ok {bl : Bool} {M : zM} (hV : zVM bl M) {k i s : Nat} (h1 : k < 117) (h2 : i < zcn k) (h3 : s < 100) (h4 : k ≤ 13 → s < zNf (k - 1)) (h5 : 14 ≤ k → s < (zka k).2.1) : zvr M (zgF bl M k i s) := by
  unfold zgF
  cases hb : (bl || zmut k s) with
  | true => exact hV.1 k i s
  | false =>
    have hbl : bl = false := by
      cases bl with
      | false => rfl
      | true => simp at hb
    show zvr M (zrt k i s)
    rcases zrt_ok h1 h2 h3 h4 h5 with h | ⟨g1, g2⟩
    · exact Or.inl h
    · refine Or.inr (Or.inr ⟨g1, g2, ?_⟩)
      rw [hV.2.2 hbl]
      exact (zkt_zpo1 _ g1 _ g2).2.1
theorem zW_at {Z : zZ} {D : va_G} {cy : Nat → ClassId} {H0 : Heap} {bl : Bool} {M : zM} {H : Heap} (hW : zW Z D cy H0 bl M H) {k i : Nat} (h1 : k < 117) (h2 : i < zcn k) (h3 : zpo k i < znx M) : va_at D zCl (zad Z k i, zen Z cy bl M k i) H := by
  obtain ⟨e1, -, -, e2⟩ := zkt_zpo1 k h1 i h2
  have h := hW.1 (zpo k i) h3
  rw [e1] at h
  rw [zad_in Z e2]
  exact h
/-- one cell is written: the others picture what they did -/
theorem zW_upd {Z : zZ} {D : va_G} {cy : Nat → ClassId} {H0 : Heap} {bl : Bool} {M M' : zM} {H H1 : Heap} (hW : zW Z D cy H0 bl M H) (hV : znx M ≤ 453) (hn : znx M' = znx M) {k i : Nat} (h1 : k < 117) (h2 : i < zcn k) (h3 : zpo k i < znx M)
    (hat : va_at D zCl (zad Z k i, zen Z cy bl M' k i) H1) (ho : ∀ k' i', (k', i') ≠ (k, i) → zen Z cy bl M' k' i' = zen Z cy bl M k' i') (hz : H1.size = H.size) (oq : ∀ q : Nat, q ≠ zad Z k i → H1[q]? = H[q]?) : zW Z D cy H0 bl M' H1 := by
  obtain ⟨e1, -, -, e2⟩ := zkt_zpo1 k h1 i h2
  rw [zad_in Z e2] at hat oq
  refine ⟨fun n hn' => ?_, by rw [hz, hn]; exact hW.2.1, fun q hq => by rw [oq q (by omega)]; exact hW.2.2 q hq⟩
  rw [hn] at hn'
  by_cases hne : n = zpo k i
  · subst hne
    rw [e1]
    exact hat
  · obtain ⟨f1, f2, f3⟩ := zpo_zkt n (by omega)
    have hk : ((zkt n).1, (zkt n).2) ≠ (k, i) := by
      intro h
      injection h with q1 q2
      exact hne (by rw [← f1, q1, q2])
    rw [ho _ _ hk]
    exact (hW.1 n hn').kept (oq _ (by show Z.1 + n ≠ _; omega))
theorem zfs_I {Z : zZ} {bl : Bool} {M : zM} {k i d : Nat} {x : Int32} {k' i' s : Nat} : zfs Z bl (zsI M k i d x) k' i' s = bif zfr (k' - 1) s then va_rf (zrf Z (zgF bl M k' i' s)) else .int (if k' = k ∧ i' = i ∧ s = d then x else zgI M k' i' s) := rfl
theorem zen_sI {Z : zZ} {cy : Nat → ClassId} {bl : Bool} {M : zM} {k i d : Nat} {x : Int32} {k' i' : Nat} (h : (k', i') ≠ (k, i)) : zen Z cy bl (zsI M k i d x) k' i' = zen Z cy bl M k' i' := by
  have e : ∀ s, zgI (zsI M k i d x) k' i' s = zgI M k' i' s := by
    intro s
    show (if k' = k ∧ i' = i ∧ s = d then x else M.1 k' i' s) = _
    rw [if_neg (fun q => h (by rw [q.1, q.2.1]))]
    rfl
  have e1 : (fun j => zgI (zsI M k i d x) k' i' j) = fun j => zgI M k' i' j := funext e
  have e2 : zfs Z bl (zsI M k i d x) k' i' = zfs Z bl M k' i' := by
    funext s
    unfold zfs
    rw [e]
    rfl
  unfold zen zco
  rw [e1, e2]
  rfl
theorem zen_sL {Z : zZ} {cy : Nat → ClassId} {bl : Bool} {M : zM} {k i d : Nat} {x : Int64} {k' i' : Nat} (h : (k', i') ≠ (k, i)) : zen Z cy bl (zsL M k i d x) k' i' = zen Z cy bl M k' i' := by
  have e : ∀ s, zgL (zsL M k i d x) k' i' s = zgL M k' i' s := by
    intro s
    show (if k' = k ∧ i' = i ∧ s = d then x else M.2.1 k' i' s) = _
    rw [if_neg (fun q => h (by rw [q.1, q.2.1]))]
    rfl
  have e1 : (fun j => zgL (zsL M k i d x) k' i' j) = fun j => zgL M k' i' j := funext e
  have e2 : zfs Z bl (zsL M k i d x) k' i' = zfs Z bl M k' i' := rfl
  unfold zen zco
  rw [e1, e2]
  rfl
theorem zen_sR {Z : zZ} {cy : Nat → ClassId} {bl : Bool} {M : zM} {k i d : Nat} {x : Nat × Nat} {k' i' : Nat} (h : (k', i') ≠ (k, i)) : zen Z cy bl (zsR M k i d x) k' i' = zen Z cy bl M k' i' := by
  have e : ∀ s, zgF bl (zsR M k i d x) k' i' s = zgF bl M k' i' s := by
    intro s
    have q : zgR (zsR M k i d x) k' i' s = zgR M k' i' s := by
      show (if k' = k ∧ i' = i ∧ s = d then x else M.2.2.1 k' i' s) = _
      rw [if_neg (fun q => h (by rw [q.1, q.2.1]))]
      rfl
    unfold zgF
    rw [q]
  have e1 : (fun j => zrf Z (zgF bl (zsR M k i d x) k' i' j)) = fun j => zrf Z (zgF bl M k' i' j) := funext fun s => by rw [e]
  have e2 : zfs Z bl (zsR M k i d x) k' i' = zfs Z bl M k' i' := by
    funext s
    unfold zfs
    rw [e]
    rfl
  unfold zen zco
  rw [e1, e2]
  rfl
theorem zen_new {Z : zZ} {cy : Nat → ClassId} {bl : Bool} {M : zM} {k i : Nat} {k' i' : Nat} (h : (k', i') ≠ (k, i)) : zen Z cy bl (znew M k i) k' i' = zen Z cy bl M k' i' := by
  have hn : ¬ (k' = k ∧ i' = i) := fun q => h (by rw [q.1, q.2])
  have eI : ∀ s, zgI (znew M k i) k' i' s = zgI M k' i' s := fun s => by
    show (if k' = k ∧ i' = i then 0 else M.1 k' i' s) = _
    rw [if_neg hn]; rfl
  have eL : ∀ s, zgL (znew M k i) k' i' s = zgL M k' i' s := fun s => by
    show (if k' = k ∧ i' = i then 0 else M.2.1 k' i' s) = _
    rw [if_neg hn]; rfl
  have eR : ∀ s, zgR (znew M k i) k' i' s = zgR M k' i' s := fun s => by
    show (if k' = k ∧ i' = i then (0, 0) else M.2.2.1 k' i' s) = _
    rw [if_neg hn]; rfl
  have eF : ∀ s, zgF bl (znew M k i) k' i' s = zgF bl M k' i' s := fun s => by unfold zgF; rw [eR]
  have e2 : zfs Z bl (znew M k i) k' i' = zfs Z bl M k' i' := by
    funext s
    unfold zfs
    rw [eF, eI]
  unfold zen zco
  rw [e2, show (fun j => zgI (znew M k i) k' i' j) = fun j => zgI M k' i' j from funext eI, show (fun j => zgL (znew M k i) k' i' j) = fun j => zgL M k' i' j from funext eL, show (fun j => zrf Z (zgF bl (znew M k i) k' i' j)) = fun j => zrf Z (zgF bl M k' i' j) from funext fun s => by rw [eF]]
/-- a new cell behind the others -/
theorem zW_new {Z : zZ} {D : va_G} {cy : Nat → ClassId} {H0 : Heap} {bl : Bool} {M : zM} {H H1 : Heap} (hW : zW Z D cy H0 bl M H) (hn : znx M < 453) (hat : va_at D zCl (Z.1 + znx M, zen Z cy bl (znew M (zkt (znx M)).1 (zkt (znx M)).2) (zkt (znx M)).1 (zkt (znx M)).2) H1) (hz : H1.size = H.size + 1) (oq : ∀ q : Nat, q < H.size → H1[q]? = H[q]?) : zW Z D cy H0 bl (znew M (zkt (znx M)).1 (zkt (znx M)).2) H1 := by
  have hsz := hW.2.1
  refine ⟨fun n hn' => ?_, by rw [hz, hsz]; rfl, fun q hq => by rw [oq q (by omega)]; exact hW.2.2 q hq⟩
  have hn2 : n < znx M + 1 := hn'
  by_cases hne : n = znx M
  · subst hne
    exact hat
  · have hlt : n < znx M := by omega
    have hk : ((zkt n).1, (zkt n).2) ≠ ((zkt (znx M)).1, (zkt (znx M)).2) := by
      intro h
      injection h with q1 q2
      have f1 := (zpo_zkt n (by omega)).1
      have f2 := (zpo_zkt (znx M) hn).1
      rw [q1, q2, f2] at f1
      exact hne f1.symm
    rw [zen_new hk]
    exact (hW.1 n hlt).kept (oq _ (by show Z.1 + n < _; omega))
theorem zVM_sI {bl : Bool} {M : zM} (h : zVM bl M) (k i d : Nat) (x : Int32) : zVM bl (zsI M k i d x) := h
theorem zVM_sL {bl : Bool} {M : zM} (h : zVM bl M) (k i d : Nat) (x : Int64) : zVM bl (zsL M k i d x) := h
theorem zVM_sR {bl : Bool} {M : zM} (h : zVM bl M) (k i d : Nat) {x : Nat × Nat} (hx : zvr M x) : zVM bl (zsR M k i d x) := by
  refine ⟨fun k' i' s => ?_, h.2⟩
  show zvr M (if k' = k ∧ i' = i ∧ s = d then x else M.2.2.1 k' i' s)
  split
  · exact hx
  · exact h.1 k' i' s
theorem zVM_new {bl : Bool} {M : zM} (h : zVM bl M) (hb : bl = true) (hn : znx M < 453) (k i : Nat) : zVM bl (znew M k i) := by
  refine ⟨fun k' i' s => ?_, hn, fun q => by rw [hb] at q; cases q⟩
  show zvr (znew M k i) (if k' = k ∧ i' = i then (0, 0) else M.2.2.1 k' i' s)
  split
  · exact Or.inl rfl
  · exact zvr_le (Nat.le_succ _) (h.1 k' i' s)
/-- the locals -/
def zLR (Z : zZ) (ls : Array Slot) (n : Nat) (al : List zV) : Prop := ls.size = n ∧ lv_wf ls ∧ al.length = n ∧ ∀ (j : Nat) (v : zV), al[j]? = some v → v ≠ zu → ls[j]? = some (.val (zcv Z v))
theorem znth_get : ∀ (a : Nat) (al : List zV) (v : zV), znth a al = v → v ≠ zu → al[a]? = some v
  | 0, [], v, h, hv => absurd h.symm hv
  | _ + 1, [], v, h, hv => absurd h.symm hv
  | 0, x :: _, v, h, _ => by simp only [znth] at h; rw [h]; rfl
  | a + 1, _ :: r, v, h, hv => by
    rw [List.getElem?_cons_succ]
    exact znth_get a r v h hv
theorem zLR_at {Z : zZ} {ls : Array Slot} {n : Nat} {al : List zV} (h : zLR Z ls n al) {a : Nat} {v : zV} (hv : znth a al = v) (hu : v ≠ zu) : ls[a]? = some (.val (zcv Z v)) := h.2.2.2 a v (znth_get a al v hv hu) hu
theorem zsv_nth {M : zM} {al : List zV} (h : zsv M al) {a : Nat} {v : zV} (hv : znth a al = v) (hu : v ≠ zu) : zvv M v := zsv_mem.mp h v (List.mem_of_getElem? (znth_get a al v hv hu))
def zlo (Z : zZ) : Nat → List zV → List (Nat × Value)
  | _, [] => []
  | i, .inr (.inr (.inr _)) :: r => zlo Z (i + 1) r
  | i, v :: r => (i, zcv Z v) :: zlo Z (i + 1) r
theorem zlo_mem (Z : zZ) : ∀ (al : List zV) (i : Nat) (q : Nat × Value), q ∈ zlo Z i al ↔ ∃ (j : Nat) (v : zV), al[j]? = some v ∧ v ≠ zu ∧ q = (i + j, zcv Z v)
  | [], i, q => by simp [zlo]
  | x :: r, i, q => by
    have ih := zlo_mem Z r (i + 1) q
    have step : (∃ (j : Nat) (v : zV), (x :: r)[j]? = some v ∧ v ≠ zu ∧ q = (i + j, zcv Z v)) ↔ (x ≠ zu ∧ q = (i, zcv Z x)) ∨ ∃ (j : Nat) (v : zV), r[j]? = some v ∧ v ≠ zu ∧ q = (i + 1 + j, zcv Z v) := by
      constructor
      · rintro ⟨j, v, h1, h2, h3⟩
        cases j with
        | zero => rw [List.getElem?_cons_zero] at h1; cases h1; exact Or.inl ⟨h2, h3⟩
        | succ j => rw [List.getElem?_cons_succ] at h1; exact Or.inr ⟨j, v, h1, h2, by rw [h3]; congr 1; omega⟩
      · rintro (⟨h2, h3⟩ | ⟨j, v, h1, h2, h3⟩)
        · exact ⟨0, x, rfl, h2, h3⟩
        · exact ⟨j + 1, v, by rw [List.getElem?_cons_succ]; exact h1, h2, by rw [h3]; congr 1; omega⟩
    rw [step, ← ih]
    match x with
    | .inl y => simp [zlo]
    | .inr (.inl y) => simp [zlo]
    | .inr (.inr (.inl y)) => simp [zlo]
    | .inr (.inr (.inr u)) => simp [zlo]
theorem zLR_has {Z : zZ} {ls : Array Slot} {n : Nat} {al : List zV} (h : zLR Z ls n al) : lv_has ls n (zlo Z 0 al) := by
  refine ⟨h.1, h.2.1, fun q hq => ?_⟩
  obtain ⟨j, v, h1, h2, rfl⟩ := (zlo_mem Z al 0 q).mp hq
  rw [Nat.zero_add]
  exact h.2.2.2 j v h1 h2
theorem zst_len : ∀ (a : Nat) (v : zV) (al : List zV), (zst a v al).length = al.length
  | 0, v, [] => rfl
  | 0, v, _ :: r => rfl
  | 1, v, [] => rfl
  | 1, v, [x] => rfl
  | 1, v, x :: y :: r => rfl
  | a + 2, v, [] => rfl
  | a + 2, v, x :: r => by
    show (x :: zst (a + 1) v r).length = _
    rw [List.length_cons, List.length_cons, zst_len (a + 1) v r]
theorem zst_get : ∀ (a : Nat) (v : zV) (al : List zV) (j : Nat) (w : zV), (zst a v al)[j]? = some w → (j = a ∧ w = v) ∨ (j ≠ a ∧ j + 1 = a ∧ ∃ x, al[j]? = some x ∧ (w = zkl x ∨ w = x ∧ zst a v al = al)) ∨ (j ≠ a ∧ j + 1 ≠ a ∧ al[j]? = some w)
  | 0, v, [], j, w, h => by simp [zst] at h
  | 0, v, x :: r, j, w, h => by
    cases j with
    | zero => left; simp [zst] at h; exact ⟨rfl, h.symm⟩
    | succ j => right; right; exact ⟨by omega, by omega, by simpa [zst] using h⟩
  | 1, v, [], j, w, h => by simp [zst] at h
  | 1, v, [x], j, w, h => by
    have e : zst 1 v [x] = [x] := rfl
    rw [e] at h
    cases j with
    | zero => right; left; simp at h; exact ⟨by omega, rfl, x, rfl, Or.inr ⟨h.symm, e⟩⟩
    | succ j => simp at h
  | 1, v, x :: y :: r, j, w, h => by
    have e : zst 1 v (x :: y :: r) = zkl x :: v :: r := rfl
    rw [e] at h
    cases j with
    | zero => right; left; simp at h; exact ⟨by omega, rfl, x, rfl, Or.inl h.symm⟩
    | succ j =>
      cases j with
      | zero => left; simp at h; exact ⟨rfl, h.symm⟩
      | succ j => right; right; exact ⟨by omega, by omega, by simpa using h⟩
  | a + 2, v, [], j, w, h => by simp [zst] at h
  | a + 2, v, x :: r, j, w, h => by
    have e : zst (a + 2) v (x :: r) = x :: zst (a + 1) v r := rfl
    rw [e] at h
    cases j with
    | zero => right; right; exact ⟨by omega, by omega, by simpa using h⟩
    | succ j =>
      rw [List.getElem?_cons_succ] at h
      rcases zst_get (a + 1) v r j w h with ⟨h1, h2⟩ | ⟨h1, h2, y, h3, h4⟩ | ⟨h1, h2, h3⟩
      · exact Or.inl ⟨by omega, h2⟩
      · refine Or.inr (Or.inl ⟨by omega, by omega, y, h3, ?_⟩)
        rcases h4 with h4 | ⟨h4, h5⟩
        · exact Or.inl h4
        · exact Or.inr ⟨h4, by rw [e, h5]⟩
      · exact Or.inr (Or.inr ⟨by omega, by omega, h3⟩)
theorem zst_full : ∀ (a : Nat) (v : zV) (al : List zV), a < al.length → ∀ (j : Nat) (w : zV), (zst a v al)[j]? = some w → (j = a ∧ w = v) ∨ (j ≠ a ∧ j + 1 = a ∧ ∃ x, al[j]? = some x ∧ w = zkl x) ∨ (j ≠ a ∧ j + 1 ≠ a ∧ al[j]? = some w)
  | 0, v, x :: r, _, j, w, h => by
    rcases zst_get 0 v (x :: r) j w h with q | ⟨_, q, _⟩ | q
    · exact Or.inl q
    · omega
    · exact Or.inr (Or.inr q)
  | 1, v, [x], hl, j, w, h => by simp at hl
  | 1, v, x :: y :: r, hl, j, w, h => by
    rcases zst_get 1 v (x :: y :: r) j w h with q | ⟨q1, q2, z, q3, q4⟩ | q
    · exact Or.inl q
    · refine Or.inr (Or.inl ⟨q1, q2, z, q3, ?_⟩)
      rcases q4 with q4 | ⟨q4, q5⟩
      · exact q4
      · have hj : j = 0 := by omega
        subst hj
        have e : zst 1 v (x :: y :: r) = zkl x :: v :: r := rfl
        rw [e] at h
        simp at h q3
        rw [← q3, h]
    · exact Or.inr (Or.inr q)
  | a + 2, v, x :: r, hl, j, w, h => by
    have e : zst (a + 2) v (x :: r) = x :: zst (a + 1) v r := rfl
    rw [e] at h
    cases j with
    | zero => right; right; exact ⟨by omega, by omega, by simpa using h⟩
    | succ j =>
      rw [List.getElem?_cons_succ] at h
      rcases zst_full (a + 1) v r (by simp at hl; omega) j w h with ⟨h1, h2⟩ | ⟨h1, h2, y, h3, h4⟩ | ⟨h1, h2, h3⟩
      · exact Or.inl ⟨by omega, h2⟩
      · exact Or.inr (Or.inl ⟨by omega, by omega, y, h3, h4⟩)
      · exact Or.inr (Or.inr ⟨by omega, by omega, h3⟩)
theorem zkl_ne {x w : zV} (h : w = zkl x) (hw : w ≠ zu) : w = x ∧ ∀ Z, (zcv Z x).category ≠ 2 := by
  match x with
  | .inl y => exact ⟨h, fun Z q => by cases q⟩
  | .inr (.inl y) => exact absurd h hw
  | .inr (.inr (.inl p)) => exact ⟨h, fun Z q => by
      simp only [zcv, zrf] at q
      cases hb : Nat.beq p.1 0 <;> rw [hb] at q <;> cases q⟩
  | .inr (.inr (.inr u)) => exact ⟨h, fun Z q => by cases q⟩
theorem zLR_st {Z : zZ} {ls ls' : Array Slot} {n a : Nat} {al : List zV} {v : zV} (h : zLR Z ls n al) (ha : a < n) (hk : lv_has ls' n ((a, zcv Z v) :: (zlo Z 0 al).filter (fun q => !(q.1 == a) && !(q.1 + 1 == a && q.2.category == 2)))) : zLR Z ls' n (zst a v al) := by
  refine ⟨hk.1, hk.2.1, by rw [zst_len]; exact h.2.2.1, fun j w hj hw => ?_⟩
  rcases zst_full a v al (by rw [h.2.2.1]; exact ha) j w hj with ⟨rfl, rfl⟩ | ⟨h1, h2, x, h3, h4⟩ | ⟨h1, h2, h3⟩
  · exact hk.2.2 (j, zcv Z w) List.mem_cons_self
  · obtain ⟨rfl, hc⟩ := zkl_ne h4 hw
    refine hk.2.2 (j, zcv Z w) (List.mem_cons_of_mem _ (List.mem_filter.mpr ⟨(zlo_mem Z al 0 _).mpr ⟨j, w, h3, hw, by rw [Nat.zero_add]⟩, ?_⟩))
    simp [h1, hc Z]
  · refine hk.2.2 (j, zcv Z w) (List.mem_cons_of_mem _ (List.mem_filter.mpr ⟨(zlo_mem Z al 0 _).mpr ⟨j, w, h3, hw, by rw [Nat.zero_add]⟩, ?_⟩))
    simp [h1, h2]
theorem zsetn_len : ∀ (a : Nat) (v : zV) (al : List zV), (zsetn a v al).length = al.length
  | 0, v, [] => rfl
  | 0, v, _ :: r => rfl
  | a + 1, v, [] => rfl
  | a + 1, v, x :: r => by show (x :: zsetn a v r).length = _; rw [List.length_cons, List.length_cons, zsetn_len a v r]
theorem zsetn_get : ∀ (a : Nat) (v : zV) (al : List zV) (j : Nat) (w : zV), (zsetn a v al)[j]? = some w → (j = a ∧ w = v) ∨ (j ≠ a ∧ al[j]? = some w)
  | 0, v, [], j, w, h => by simp [zsetn] at h
  | 0, v, x :: r, j, w, h => by
    cases j with
    | zero => left; simp [zsetn] at h; exact ⟨rfl, h.symm⟩
    | succ j => right; exact ⟨by omega, by simpa [zsetn] using h⟩
  | a + 1, v, [], j, w, h => by simp [zsetn] at h
  | a + 1, v, x :: r, j, w, h => by
    have e : zsetn (a + 1) v (x :: r) = x :: zsetn a v r := rfl
    rw [e] at h
    cases j with
    | zero => right; exact ⟨by omega, by simpa using h⟩
    | succ j =>
      rw [List.getElem?_cons_succ] at h
      rcases zsetn_get a v r j w h with ⟨h1, h2⟩ | ⟨h1, h2⟩
      · exact Or.inl ⟨by omega, h2⟩
      · exact Or.inr ⟨by omega, h2⟩
theorem zLR_st2 {Z : zZ} {ls ls' : Array Slot} {n a : Nat} {al : List zV} {v : zV} (h : zLR Z ls n al) (ha : a + 1 < n) (hk : lv_has ls' n ((a, zcv Z v) :: (zlo Z 0 al).filter (fun q => !(q.1 == a) && (!(q.1 == a + 1) && !(q.1 + 1 == a && q.2.category == 2))))) : zLR Z ls' n (zst2 a v al) := by
  refine ⟨hk.1, hk.2.1, by unfold zst2; rw [zsetn_len, zst_len]; exact h.2.2.1, fun j w hj hw => ?_⟩
  unfold zst2 at hj
  rcases zsetn_get (a + 1) zu (zst a v al) j w hj with ⟨-, rfl⟩ | ⟨h0, hj⟩
  · exact absurd rfl hw
  rcases zst_full a v al (by rw [h.2.2.1]; omega) j w hj with ⟨rfl, rfl⟩ | ⟨h1, h2, x, h3, h4⟩ | ⟨h1, h2, h3⟩
  · exact hk.2.2 (j, zcv Z w) List.mem_cons_self
  · obtain ⟨rfl, hc⟩ := zkl_ne h4 hw
    refine hk.2.2 (j, zcv Z w) (List.mem_cons_of_mem _ (List.mem_filter.mpr ⟨(zlo_mem Z al 0 _).mpr ⟨j, w, h3, hw, by rw [Nat.zero_add]⟩, ?_⟩))
    simp [h0, h1, hc Z]
  · refine hk.2.2 (j, zcv Z w) (List.mem_cons_of_mem _ (List.mem_filter.mpr ⟨(zlo_mem Z al 0 _).mpr ⟨j, w, h3, hw, by rw [Nat.zero_add]⟩, ?_⟩))
    simp [h0, h1, h2]
theorem zsv_st {M : zM} {a : Nat} {v : zV} {al : List zV} (h : zsv M al) (hv : zvv M v) : zsv M (zst a v al) := by
  refine zsv_mem.mpr fun w hw => ?_
  obtain ⟨j, hj⟩ := List.getElem?_of_mem hw
  rcases zst_get a v al j w hj with ⟨-, rfl⟩ | ⟨-, -, x, h3, h4⟩ | ⟨-, -, h3⟩
  · exact hv
  · rcases h4 with h4 | ⟨h4, -⟩
    · have hx := zsv_mem.mp h x (List.mem_of_getElem? h3)
      rw [h4]
      match x, hx with
      | .inl _, _ => exact trivial
      | .inr (.inl _), _ => exact trivial
      | .inr (.inr (.inl p)), hx => exact hx
      | .inr (.inr (.inr _)), _ => exact trivial
    · rw [h4]; exact zsv_mem.mp h x (List.mem_of_getElem? h3)
  · exact zsv_mem.mp h w (List.mem_of_getElem? h3)
theorem zsv_st2 {M : zM} {a : Nat} {v : zV} {al : List zV} (h : zsv M al) (hv : zvv M v) : zsv M (zst2 a v al) := by
  refine zsv_mem.mpr fun w hw => ?_
  obtain ⟨j, hj⟩ := List.getElem?_of_mem hw
  unfold zst2 at hj
  rcases zsetn_get (a + 1) zu (zst a v al) j w hj with ⟨-, rfl⟩ | ⟨-, hj⟩
  · exact trivial
  · exact zsv_mem.mp (zsv_st (a := a) h hv) w (List.mem_of_getElem? hj)
