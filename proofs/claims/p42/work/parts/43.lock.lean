/-! ===== two runs side by side: the class's, and the model's ===== -/
def zpKc (q : Nat × Nat) : Prop := zneu q.1 = true ∨ zcl q.1 = true
def zpKm (q : Nat × Nat) : Prop := zneu q.1 = true ∨ zmd q.1 = true
theorem zbif_ind {α : Type} {P : α → Prop} {c : Bool} {x y : α} (hx : c = true → P x) (hy : c = false → P y) : P (bif c then x else y) := by
  cases c with
  | true => exact hx rfl
  | false => exact hy rfl
set_option maxRecDepth 100000 in
set_option maxHeartbeats 4000000 in
theorem zJc_cl : zJc zcl := by
  intro k i s hk
  show zpKc (zrt k i s)
  unfold zrt
  repeat' (first | exact Or.inl rfl | exact Or.inr rfl | (exact absurd hk (by decide)) | (refine zbif_ind (P := zpKc) (fun h => ?_) (fun h => ?_) <;> first | (have h' := zb_eq h; subst h') | skip))
set_option maxRecDepth 100000 in
set_option maxHeartbeats 4000000 in
theorem zJc_md : zJc zmd := by
  intro k i s hk
  show zpKm (zrt k i s)
  unfold zrt
  repeat' (first | exact Or.inl rfl | exact Or.inr rfl | (exact absurd hk (by decide)) | (refine zbif_ind (P := zpKm) (fun h => ?_) (fun h => ?_) <;> first | (have h' := zb_eq h; subst h') | skip))
theorem zJm_md (M : zM) : zJm zmd M := by
  intro k i s hk hm
  unfold zmut at hm
  rw [Bool.and_eq_true] at hm
  rw [zb_eq hm.1] at hk
  cases hk
theorem zcl_md {k : Nat} (h : zmd k = true) : zcl k = false := by
  cases hc : zcl k with
  | false => rfl
  | true =>
    exfalso
    unfold zcl at hc
    unfold zmd at h
    rw [Bool.and_eq_true, Bool.and_eq_true] at hc
    rw [Bool.or_eq_true] at h
    rcases h with h | h
    · rw [h] at hc; cases hc.2
    · rw [hc.1.2] at h; cases h
theorem zmg_self (K : Nat → Bool) (M : zM) : zmg K M M = M := by
  refine Prod.ext ?_ (Prod.ext ?_ (Prod.ext ?_ rfl)) <;> (funext k i s; exact ite_self _)
/-- two runs that end, and what holds then -/
def zRR (o1 o2 : Option (Option zV × zM)) (Q : Option zV → zM → Option zV → zM → Prop) : Prop := ∃ a b, o1 = some a ∧ o2 = some b ∧ Q a.1 a.2 b.1 b.2
/-- one run that ends -/
def zwp (o : Option (Option zV × zM)) (Q : Option zV → zM → Prop) : Prop := ∃ a, o = some a ∧ Q a.1 a.2
theorem zRR_ret {v w : Option zV} {A B : zM} {Q : Option zV → zM → Option zV → zM → Prop} (h : Q v A w B) : zRR (some (v, A)) (some (w, B)) Q := ⟨_, _, rfl, rfl, h⟩
theorem zRR_mono {o1 o2 : Option (Option zV × zM)} {Q Q' : Option zV → zM → Option zV → zM → Prop} (h : zRR o1 o2 Q) (hq : ∀ v A w B, Q v A w B → Q' v A w B) : zRR o1 o2 Q' := by
  obtain ⟨a, b, e1, e2, q⟩ := h
  exact ⟨a, b, e1, e2, hq _ _ _ _ q⟩
theorem zRR_l {o1 o2 : Option (Option zV × zM)} {a : Option zV × zM} {f : Option zV × zM → Option (Option zV × zM)} {Q : Option zV → zM → Option zV → zM → Prop} (h : o1 = some a) (hr : zRR (f a) o2 Q) : zRR (o1.bind f) o2 Q := by
  rw [h]; exact hr
theorem zRR_r {o1 o2 : Option (Option zV × zM)} {a : Option zV × zM} {f : Option zV × zM → Option (Option zV × zM)} {Q : Option zV → zM → Option zV → zM → Prop} (h : o2 = some a) (hr : zRR o1 (f a) Q) : zRR o1 (o2.bind f) Q := by
  rw [h]; exact hr
theorem zRR_bind {o1 o2 : Option (Option zV × zM)} {f g : Option zV × zM → Option (Option zV × zM)} {Q' Q : Option zV → zM → Option zV → zM → Prop} (h : zRR o1 o2 Q') (hq : ∀ v A w B, Q' v A w B → zRR (f (v, A)) (g (w, B)) Q) : zRR (o1.bind f) (o2.bind g) Q := by
  obtain ⟨a, b, e1, e2, q⟩ := h
  rw [e1, e2]
  exact hq _ _ _ _ q
theorem zRR_wl {o1 o2 : Option (Option zV × zM)} {f : Option zV × zM → Option (Option zV × zM)} {Q' : Option zV → zM → Prop} {Q : Option zV → zM → Option zV → zM → Prop} (h : zwp o1 Q') (hq : ∀ v A, Q' v A → zRR (f (v, A)) o2 Q) : zRR (o1.bind f) o2 Q := by
  obtain ⟨a, e1, q⟩ := h
  rw [e1]
  exact hq _ _ q
theorem zRR_wr {o1 o2 : Option (Option zV × zM)} {f : Option zV × zM → Option (Option zV × zM)} {Q' : Option zV → zM → Prop} {Q : Option zV → zM → Option zV → zM → Prop} (h : zwp o2 Q') (hq : ∀ v A, Q' v A → zRR o1 (f (v, A)) Q) : zRR o1 (o2.bind f) Q := by
  obtain ⟨a, e1, q⟩ := h
  rw [e1]
  exact hq _ _ q
theorem zRR_of {o1 o2 : Option (Option zV × zM)} {P1 P2 : Option zV → zM → Prop} {Q : Option zV → zM → Option zV → zM → Prop} (h1 : zwp o1 P1) (h2 : zwp o2 P2) (hq : ∀ v A w B, P1 v A → P2 w B → Q v A w B) : zRR o1 o2 Q := by
  obtain ⟨a, e1, q1⟩ := h1
  obtain ⟨b, e2, q2⟩ := h2
  exact ⟨a, b, e1, e2, hq _ _ _ _ q1 q2⟩
theorem zwp_ret {v : Option zV} {A : zM} {Q : Option zV → zM → Prop} (h : Q v A) : zwp (some (v, A)) Q := ⟨_, rfl, h⟩
theorem zwp_eq {o : Option (Option zV × zM)} {v : Option zV} {A : zM} {Q : Option zV → zM → Prop} (e : o = some (v, A)) (h : Q v A) : zwp o Q := ⟨_, e, h⟩
theorem zwp_mono {o : Option (Option zV × zM)} {Q Q' : Option zV → zM → Prop} (h : zwp o Q) (hq : ∀ v A, Q v A → Q' v A) : zwp o Q' := by
  obtain ⟨a, e, q⟩ := h
  exact ⟨a, e, hq _ _ q⟩
theorem zwp_bind {o : Option (Option zV × zM)} {f : Option zV × zM → Option (Option zV × zM)} {Q' Q : Option zV → zM → Prop} (h : zwp o Q') (hq : ∀ v A, Q' v A → zwp (f (v, A)) Q) : zwp (o.bind f) Q := by
  obtain ⟨a, e, q⟩ := h
  rw [e]
  exact hq _ _ q
theorem zwp_l {o : Option (Option zV × zM)} {a : Option zV × zM} {f : Option zV × zM → Option (Option zV × zM)} {Q : Option zV → zM → Prop} (h : o = some a) (hr : zwp (f a) Q) : zwp (o.bind f) Q := by
  rw [h]; exact hr
/-- side by side from one memory: so one after the other -/
theorem zRR_seq {D mc mm : Nat} {as bs : List zV} {M : zM} {Q : Option zV → zM → Option zV → zM → Prop} (ha : zJl zcl as) (hb : zJl zmd bs) (hM : zJm zcl M) (h : zRR (zgo false D mc 0 as [] M) (zgo false D mm 0 bs [] M) Q) : ∃ v A w B, zgo false D mc 0 as [] M = some (v, A) ∧ zgo false D mm 0 bs [] A = some (w, zmg zmd B A) ∧ Q v A w B ∧ zJm zcl (zmg zmd B A) := by
  obtain ⟨⟨v, A⟩, ⟨w, B⟩, e1, e2, q⟩ := h
  obtain ⟨n, r1⟩ := zgo_iff.mp e1
  obtain ⟨r2, -, r3⟩ := zrun_ind zJc_cl M _ _ _ _ _ _ _ _ ha (zJl_nil _) hM r1
  rw [zmg_self, r1] at r2
  have hA : A = zmg zcl A M := congrArg Prod.snd (Option.some.inj r2)
  have hk := zgo_keep e1
  have hA2 : zmg zmd M A = A := by
    refine Prod.ext ?_ (Prod.ext ?_ (Prod.ext ?_ ?_))
    · funext k i s
      show (if zmd k = true then M.1 k i s else A.1 k i s) = A.1 k i s
      by_cases hz : zmd k = true
      · rw [if_pos hz, hA]
        show _ = (if zcl k = true then A.1 k i s else M.1 k i s)
        rw [zcl_md hz, if_neg (by decide)]
      · rw [if_neg hz]
    · funext k i s
      show (if zmd k = true then M.2.1 k i s else A.2.1 k i s) = A.2.1 k i s
      by_cases hz : zmd k = true
      · rw [if_pos hz, hA]
        show _ = (if zcl k = true then A.2.1 k i s else M.2.1 k i s)
        rw [zcl_md hz, if_neg (by decide)]
      · rw [if_neg hz]
    · funext k i s
      show (if zmd k = true then M.2.2.1 k i s else A.2.2.1 k i s) = A.2.2.1 k i s
      by_cases hz : zmd k = true
      · rw [if_pos hz, hA]
        show _ = (if zcl k = true then A.2.2.1 k i s else M.2.2.1 k i s)
        rw [zcl_md hz, if_neg (by decide)]
      · rw [if_neg hz]
    · have h1 : zsc A = zsc M := hk.1
      have h2 : znx A = znx M := hk.2
      exact Prod.ext h2.symm h1.symm
  have r4 := zgo_ind zJc_md A hb (zJl_nil _) (zJm_md M) e2
  rw [hA2] at r4
  refine ⟨v, A, w, B, e1, r4, q, fun k i s h1 h2 => ?_⟩
  have hz : zmd k = false := by
    cases hz : zmd k with
    | false => rfl
    | true => rw [zcl_md hz] at h1; cases h1
  have h3 := r3 k i s h1 h2
  show zJ1 zcl (zp (if zmd k = true then zgR B k i s else zgR A k i s))
  rw [hz, if_neg (by decide)]
  exact h3
