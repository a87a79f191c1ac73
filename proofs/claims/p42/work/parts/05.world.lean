/-! ===== THE WORLD that the memory pictures ===== -/
abbrev zCl : List vw_C := [(RX0, TX0, 4), (RX1, TX1, 6), (RX2, TX2, 5), (RX3, TX3, 20), (RX4, TX4, 16), (RX5, TX5, 2), (RX6, TX6, 11), (RX7, TX7, 5), (RX8, TX8, 5), (RX9, TX9, 10), (RX10, TX10, 4), (RX11, TX11, 16)]
def zTy : List (Nat → FieldType) := [tyX0, tyX1, tyX2, tyX3, tyX4, tyX5, tyX6, tyX7, tyX8, tyX9, tyX10, tyX11]
theorem zwl0 : ∀ w ∈ u_ws RX0 TX0 4, w ∈ tables_1 := by
  have h : u_ws RX0 TX0 4 = [394, 396, 398, 400].filterMap (fun j => tables_1[j]?) := by decide +kernel
  intro w hw
  rw [h] at hw
  obtain ⟨j, -, hj⟩ := List.mem_filterMap.mp hw
  exact List.mem_of_getElem? hj
theorem zwl1 : ∀ w ∈ u_ws RX1 TX1 6, w ∈ tables_1 := by
  have h : u_ws RX1 TX1 6 = [164, 166, 168, 170, 172, 174].filterMap (fun j => tables_1[j]?) := by decide +kernel
  intro w hw
  rw [h] at hw
  obtain ⟨j, -, hj⟩ := List.mem_filterMap.mp hw
  exact List.mem_of_getElem? hj
theorem zwl2 : ∀ w ∈ u_ws RX2 TX2 5, w ∈ tables_1 := by
  have h : u_ws RX2 TX2 5 = [362, 364, 366, 368, 370].filterMap (fun j => tables_1[j]?) := by decide +kernel
  intro w hw
  rw [h] at hw
  obtain ⟨j, -, hj⟩ := List.mem_filterMap.mp hw
  exact List.mem_of_getElem? hj
theorem zwl3 : ∀ w ∈ u_ws RX3 TX3 20, w ∈ tables_1 := by
  have h : u_ws RX3 TX3 20 = [222, 224, 226, 228, 230, 232, 234, 236, 238, 240, 242, 244, 246, 248, 250, 252, 254, 256, 258, 260].filterMap (fun j => tables_1[j]?) := by decide +kernel
  intro w hw
  rw [h] at hw
  obtain ⟨j, -, hj⟩ := List.mem_filterMap.mp hw
  exact List.mem_of_getElem? hj
theorem zwl4 : ∀ w ∈ u_ws RX4 TX4 16, w ∈ tables_1 := by
  have h : u_ws RX4 TX4 16 = [283, 285, 287, 289, 291, 293, 295, 297, 299, 301, 303, 305, 307, 309, 311, 313].filterMap (fun j => tables_1[j]?) := by decide +kernel
  intro w hw
  rw [h] at hw
  obtain ⟨j, -, hj⟩ := List.mem_filterMap.mp hw
  exact List.mem_of_getElem? hj
theorem zwl5 : ∀ w ∈ u_ws RX5 TX5 2, w ∈ tables_1 := by
  have h : u_ws RX5 TX5 2 = [381, 383].filterMap (fun j => tables_1[j]?) := by decide +kernel
  intro w hw
  rw [h] at hw
  obtain ⟨j, -, hj⟩ := List.mem_filterMap.mp hw
  exact List.mem_of_getElem? hj
theorem zwl6 : ∀ w ∈ u_ws RX6 TX6 11, w ∈ tables_1 := by
  have h : u_ws RX6 TX6 11 = [120, 122, 124, 126, 128, 130, 132, 134, 136, 138, 140].filterMap (fun j => tables_1[j]?) := by decide +kernel
  intro w hw
  rw [h] at hw
  obtain ⟨j, -, hj⟩ := List.mem_filterMap.mp hw
  exact List.mem_of_getElem? hj
theorem zwl7 : ∀ w ∈ u_ws RX7 TX7 5, w ∈ tables_1 := by
  have h : u_ws RX7 TX7 5 = [333, 335, 337, 339, 341].filterMap (fun j => tables_1[j]?) := by decide +kernel
  intro w hw
  rw [h] at hw
  obtain ⟨j, -, hj⟩ := List.mem_filterMap.mp hw
  exact List.mem_of_getElem? hj
theorem zwl8 : ∀ w ∈ u_ws RX8 TX8 5, w ∈ tables_1 := by
  have h : u_ws RX8 TX8 5 = [413, 415, 417, 419, 421].filterMap (fun j => tables_1[j]?) := by decide +kernel
  intro w hw
  rw [h] at hw
  obtain ⟨j, -, hj⟩ := List.mem_filterMap.mp hw
  exact List.mem_of_getElem? hj
theorem zwl9 : ∀ w ∈ u_ws RX9 TX9 10, w ∈ tables_1 := by
  have h : u_ws RX9 TX9 10 = [46, 48, 50, 52, 54, 56, 58, 60, 62, 64].filterMap (fun j => tables_1[j]?) := by decide +kernel
  intro w hw
  rw [h] at hw
  obtain ⟨j, -, hj⟩ := List.mem_filterMap.mp hw
  exact List.mem_of_getElem? hj
theorem zwl10 : ∀ w ∈ u_ws RX10 TX10 4, w ∈ tables_1 := by
  have h : u_ws RX10 TX10 4 = [85, 87, 89, 91].filterMap (fun j => tables_1[j]?) := by decide +kernel
  intro w hw
  rw [h] at hw
  obtain ⟨j, -, hj⟩ := List.mem_filterMap.mp hw
  exact List.mem_of_getElem? hj
theorem zwl11 : ∀ w ∈ u_ws RX11 TX11 16, w ∈ tables_1 := by
  have h : u_ws RX11 TX11 16 = [441, 443, 445, 447, 449, 451, 453, 455, 457, 459, 461, 463, 465, 467, 469, 471].filterMap (fun j => tables_1[j]?) := by decide +kernel
  intro w hw
  rw [h] at hw
  obtain ⟨j, -, hj⟩ := List.mem_filterMap.mp hw
  exact List.mem_of_getElem? hj
/-- the words that a method needs from its start on: those of the tables that a warmer state keeps -/
def zTs : List Cond := lw_tbl.filter goodWord
theorem zTs_mem {w : Cond} (h : w ∈ tables_1) (hg : goodWord w = true) : w ∈ zTs := List.mem_filter.mpr ⟨List.mem_append_right _ h, hg⟩
theorem zTs_sel {w : Cond} (h : w ∈ k2_sels lw_privs) (hg : goodWord w = true) : w ∈ zTs := List.mem_filter.mpr ⟨List.mem_append_left _ h, hg⟩
theorem zwl (c : Nat) (q : vw_C) (h : zCl[c]? = some q) : ∀ w ∈ u_ws q.1 q.2.1 q.2.2, w ∈ zTs := by
  have g : ∀ (C : String) (T : u_T) (N : Nat), ∀ w ∈ u_ws C T N, goodWord w = true := by
    intro C T N w hw
    obtain ⟨k, -, rfl⟩ := List.mem_map.mp hw
    unfold u_lay
    split <;> rfl
  match c, h with
  | 0, h => cases h; exact fun w hw => zTs_mem (zwl0 w hw) (g _ _ _ w hw)
  | 1, h => cases h; exact fun w hw => zTs_mem (zwl1 w hw) (g _ _ _ w hw)
  | 2, h => cases h; exact fun w hw => zTs_mem (zwl2 w hw) (g _ _ _ w hw)
  | 3, h => cases h; exact fun w hw => zTs_mem (zwl3 w hw) (g _ _ _ w hw)
  | 4, h => cases h; exact fun w hw => zTs_mem (zwl4 w hw) (g _ _ _ w hw)
  | 5, h => cases h; exact fun w hw => zTs_mem (zwl5 w hw) (g _ _ _ w hw)
  | 6, h => cases h; exact fun w hw => zTs_mem (zwl6 w hw) (g _ _ _ w hw)
  | 7, h => cases h; exact fun w hw => zTs_mem (zwl7 w hw) (g _ _ _ w hw)
  | 8, h => cases h; exact fun w hw => zTs_mem (zwl8 w hw) (g _ _ _ w hw)
  | 9, h => cases h; exact fun w hw => zTs_mem (zwl9 w hw) (g _ _ _ w hw)
  | 10, h => cases h; exact fun w hw => zTs_mem (zwl10 w hw) (g _ _ _ w hw)
  | 11, h => cases h; exact fun w hw => zTs_mem (zwl11 w hw) (g _ _ _ w hw)
  | c + 12, h => simp [zCl] at h
theorem zty_ok (c : Nat) (q : vw_C) (h : zCl[c]? = some q) : (∀ k, k < q.2.2 → parseFieldDescriptor (q.2.1 k).2.2.1 = some ((zTy.getD c (fun _ => .int)) k)) ∧ (∀ a, a < q.2.2 → ∀ b, b < q.2.2 → a ≠ b → (q.2.1 a).2.1 ≠ (q.2.1 b).2.1) := by
  match c, h with
  | 0, h => cases h; exact ⟨tyX0_ok, nmX0⟩
  | 1, h => cases h; exact ⟨tyX1_ok, nmX1⟩
  | 2, h => cases h; exact ⟨tyX2_ok, nmX2⟩
  | 3, h => cases h; exact ⟨tyX3_ok, nmX3⟩
  | 4, h => cases h; exact ⟨tyX4_ok, nmX4⟩
  | 5, h => cases h; exact ⟨tyX5_ok, nmX5⟩
  | 6, h => cases h; exact ⟨tyX6_ok, nmX6⟩
  | 7, h => cases h; exact ⟨tyX7_ok, nmX7⟩
  | 8, h => cases h; exact ⟨tyX8_ok, nmX8⟩
  | 9, h => cases h; exact ⟨tyX9_ok, nmX9⟩
  | 10, h => cases h; exact ⟨tyX10_ok, nmX10⟩
  | 11, h => cases h; exact ⟨tyX11_ok, nmX11⟩
  | c + 12, h => simp [zCl] at h
/-- whether a field's slot holds a reference -/
def zfr (c s : Nat) : Bool := match (zTy.getD c (fun _ => .int)) s with
  | .int => false
  | .boolean => false
  | _ => true
def zNf (c : Nat) : Nat := ((zCl[c]?).map fun q => q.2.2).getD 0
def zCn (k : Nat) : String := ((zCl[k - 1]?).map fun q => q.1).getD ""
/-- where all starts, the script, the constant text and its bytes -/
abbrev zZ : Type := Nat × Nat × Nat × Nat
def zad (Z : zZ) (k i : Nat) : Nat := bif Nat.beq k 14 then Z.2.2.1 else bif Nat.beq k 15 then Z.2.2.2 else bif Nat.beq k 16 then Z.2.1 else Z.1 + zpo k i
def zrf (Z : zZ) (p : Nat × Nat) : Option Nat := bif Nat.beq p.1 0 then none else some (zad Z p.1 p.2)
def zcv (Z : zZ) : zV → Value
  | .inl x => .int x
  | .inr (.inl x) => .long x
  | .inr (.inr (.inl p)) => va_rf (zrf Z p)
  | .inr (.inr (.inr _)) => .null
def zfs (Z : zZ) (bl : Bool) (M : zM) (k i s : Nat) : Value := bif zfr (k - 1) s then va_rf (zrf Z (zgF bl M k i s)) else .int (zgI M k i s)
def zak (k : Nat) : Nat := bif Nat.beq (zat k) 6 then 6 + zek k else zat k
def zft (k : Nat) : FieldType := match zat k with
  | 1 => .int
  | 2 => .byte
  | 3 => .short
  | 4 => .boolean
  | 5 => .long
  | _ => .object (zCn (zek k))
def zco (Z : zZ) (bl : Bool) (M : zM) (k i : Nat) : (Nat → Int32) ⊕ (Nat → Int64) ⊕ (Nat → UInt32) ⊕ (Nat → UInt64) ⊕ (Nat → Option Nat) := match zat k with
  | 5 => .inr (.inl (fun j => zgL M k i j))
  | 6 => .inr (.inr (.inr (.inr (fun j => zrf Z (zgF bl M k i j)))))
  | _ => .inl (fun j => zgI M k i j)
def zen (Z : zZ) (cy : Nat → ClassId) (bl : Bool) (M : zM) (k i : Nat) : va_E := bif Nat.ble k 13 then .inr (k - 1, (List.range (zNf (k - 1))).map (zfs Z bl M k i)) else .inl (cy (zak k), (zka k).2.1, zco Z bl M k i)
/-- the heap: the cells that are made, one behind the other; what was there before is as it was -/
def zW (Z : zZ) (D : va_G) (cy : Nat → ClassId) (H0 : Heap) (bl : Bool) (M : zM) (H : Heap) : Prop :=
  (∀ n, n < znx M → va_at D zCl (Z.1 + n, zen Z cy bl M (zkt n).1 (zkt n).2) H) ∧ H.size = Z.1 + znx M ∧ ∀ q : Nat, q < Z.1 → H[q]? = H0[q]?
def zvr (M : zM) (p : Nat × Nat) : Prop := p.1 = 0 ∨ (14 ≤ p.1 ∧ p.1 ≤ 16 ∧ p.2 = 0) ∨ (p.1 < 117 ∧ p.2 < zcn p.1 ∧ zpo p.1 p.2 < znx M)
def zvv (M : zM) : zV → Prop
  | .inr (.inr (.inl p)) => zvr M p
  | _ => True
def zVM (bl : Bool) (M : zM) : Prop := (∀ k i s, zvr M (zgR M k i s)) ∧ znx M ≤ 453 ∧ (bl = false → znx M = 453)
set_option maxRecDepth 100000 in
theorem zkt_zpo1 : ∀ k, k < 117 → ∀ i, i < zcn k → zkt (zpo k i) = (k, i) ∧ zpo k i < 453 ∧ k ≠ 0 ∧ ¬ (14 ≤ k ∧ k ≤ 16) := by decide +kernel
set_option maxRecDepth 100000 in
theorem zpo_zkt : ∀ n, n < 453 → zpo (zkt n).1 (zkt n).2 = n ∧ (zkt n).1 < 117 ∧ (zkt n).2 < zcn (zkt n).1 := by decide +kernel
def zrtb (k i s : Nat) : Bool := (decide (k ≤ 13) && decide (zNf (k - 1) ≤ s)) || ((decide (14 ≤ k) && decide ((zka k).2.1 ≤ s)) || (decide ((zrt k i s).1 = 0) || (decide ((zrt k i s).1 < 117) && decide ((zrt k i s).2 < zcn (zrt k i s).1))))
set_option maxRecDepth 100000 in
theorem zrt_ok1 : ∀ k, k < 117 → ∀ i, i < zcn k → ∀ s, s < 100 → zrtb k i s = true := by decide +kernel
theorem zrt_ok {k i s : Nat} (h1 : k < 117) (h2 : i < zcn k) (h3 : s < 100) (h4 : k ≤ 13 → s < zNf (k - 1)) (h5 : 14 ≤ k → s < (zka k).2.1) : (zrt k i s).1 = 0 ∨ ((zrt k i s).1 < 117 ∧ (zrt k i s).2 < zcn (zrt k i s).1) := by
  have h := zrt_ok1 k h1 i h2 s h3
  simp only [zrtb, Bool.or_eq_true, Bool.and_eq_true, decide_eq_true_eq] at h
  omega
theorem zkt_out {n : Nat} (h : ¬ n < 453) : zkt n = (0, 0) := by
  have : Nat.blt n 453 = false := by
    cases hb : Nat.blt n 453 with
    | false => rfl
    | true => exact absurd (Nat.lt_of_succ_le (Nat.le_of_ble_eq_true hb)) h
  unfold zkt
  rw [this]
  rfl

