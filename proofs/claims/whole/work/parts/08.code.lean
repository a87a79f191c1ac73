/-! ===== every instruction of the tables is what its bytes say ===== -/
def zln : Instr → Nat
  | .iconst _ | .lconst _ | .aconst_null | .iload_n _ | .lload_n _ | .aload_n _ | .istore_n _ | .lstore_n _ | .astore_n _ => 1
  | .bipush _ | .ldc _ | .iload _ | .lload _ | .aload _ | .istore _ | .lstore _ | .astore _ | .newarray _ => 2
  | .sipush _ | .ldc_w _ | .ldc2_w _ | .getstatic _ | .iinc _ _ | .ifCond _ _ | .if_icmp _ _ | .goto _ | .ifnull _ | .ifnonnull _ | .getfield _ | .putfield _ | .invokevirtual _ | .invokestatic _ | .invokespecial _ | .new _ | .anewarray _ => 3
  | _ => 1
def zac : ArrayType → Nat
  | .int => 1
  | .byte => 2
  | .short => 3
  | .boolean => 4
  | .long => 5
  | _ => 0
/-- a number of an int's width -/
def zi32 (v : Int) : Bool := decide (-2147483648 ≤ v) && decide (v < 2147483648)
noncomputable def zchk (c ml : Nat) (ret : Option FieldType) (pc : Nat) (E : zE) : Bool :=
  match E with
  | (I, nx, (a, d, g), z, w, sw) =>
  match I with
  | .iconst v => decide (Int32.ofInt v = z)
  | .bipush v => decide ((Int8.ofInt v).toInt32 = z)
  | .sipush v => decide ((Int16.ofInt v).toInt32 = z)
  | .ldc i => (Nat.beq a 1 && (Nat.beq c 7 && Nat.beq i 63)) || (Nat.beq a 0 && decide ((c, i, z) ∈ zKi))
  | .ldc_w i => decide ((c, i, z) ∈ zKi)
  | .getstatic i => decide ((c, i) ∈ zGl) && decide (z = 1)
  | .lconst k => decide (Int64.ofNat (k : Nat) = w)
  | .ldc2_w i => decide ((c, i, w) ∈ zKl)
  | .iload i | .lload i | .aload i => Nat.beq i a
  | .iload_n i | .lload_n i | .aload_n i => Nat.beq i.val a
  | .istore i | .astore i => Nat.beq i a && decide (a < ml)
  | .istore_n i | .astore_n i => Nat.beq i.val a && decide (a < ml)
  | .lstore i => Nat.beq i a && decide (a + 1 < ml)
  | .lstore_n i => Nat.beq i.val a && decide (a + 1 < ml)
  | .iinc i v => Nat.beq i a && (decide (Int32.ofInt v = z) && decide (a < ml))
  | .ifCond _ off | .if_icmp _ off | .goto off | .ifnull off | .ifnonnull off => decide ((pc : Int) + off = (a : Int))
  | .tableswitch df lo hi offs => decide ((pc : Int) + df = (a : Int)) && (decide (sw = (List.range offs.size).map (fun (i : Nat) => (Int32.ofInt (lo + (i : Int)), ((pc : Int) + offs.getD i 0).toNat))) && ((List.range offs.size).all (fun (i : Nat) => decide (0 ≤ (pc : Int) + offs.getD i 0)) && (decide (hi + 1 = lo + offs.size) && (zi32 lo && zi32 hi))))
  | .lookupswitch df ps => decide ((pc : Int) + df = (a : Int)) && (decide (sw = ps.toList.map (fun q => (Int32.ofInt q.1, ((pc : Int) + q.2).toNat))) && (ps.toList.all (fun q => decide (0 ≤ (pc : Int) + q.2) && zi32 q.1) && (ps.toList.zip (ps.toList.drop 1)).all (fun (a, next) => a.1 < next.1)))
  | .getfield i => (zat2 [] c zFc).any (fun e => Nat.beq e.1 i && (Nat.beq e.2.1 a && (Nat.beq e.2.2.1 d && Nat.beq e.2.2.2.1 g)))
  | .putfield i => Nat.ble a 13 && (zat2 [] c zFc).any (fun e => Nat.beq e.1 i && (Nat.beq e.2.1 a && (Nat.beq e.2.2.1 d && (Nat.beq e.2.2.2.1 g && (Nat.beq e.2.2.2.2 0 || Nat.ble g 2)))))
  | .ireturn => (Nat.beq g 0 && decide (ret = some .int)) || ((Nat.beq g 1 && decide (ret = some .boolean)) || (Nat.beq g 2 && decide (ret = some .byte)))
  | .lreturn => decide (ret = some .long)
  | .areturn => (match ret with
    | some (.object _) => true
    | _ => false)
  | .return_ => decide (ret = none)
  | .invokevirtual i => decide (a ≠ 0) && (decide (g ≠ 0) && (Nat.beq d (znp a + 1) && (decide ((zyn a).name ≠ "<init>") && (zat2 [] c zLc).any (fun e => Nat.beq e.1 i && (Nat.beq e.2.1 a && Nat.beq e.2.2.1 g)))))
  | .invokestatic i => (Nat.beq a 0 && decide ((c, i, d) ∈ zXl)) || (decide (a ≠ 0) && (Nat.beq g 0 && (Nat.beq d (znp a) && (zat2 [] c zLc).any (fun e => Nat.beq e.1 i && (Nat.beq e.2.1 a && Nat.beq e.2.2.1 g)))))
  | .invokespecial i => (Nat.beq a 0 && decide ((c, i) ∈ zOl)) || (decide (a ≠ 0) && (decide (g ≠ 0) && (Nat.beq d (znp a + 1) && (decide ((zyn a).name = "<init>") && (decide (zre1 a = none) && (zat2 [] c zLc).any (fun e => Nat.beq e.1 i && (Nat.beq e.2.1 a && Nat.beq e.2.2.1 g)))))))
  | .new i => decide ((c, i, a) ∈ zNl)
  | .newarray t => Nat.beq (zac t) a && decide (a ≠ 0)
  | .anewarray i => decide ((c, i, a) ∈ zNl)
  | _ => true
def zsws : Instr → Bool
  | .tableswitch _ _ _ _ => true
  | .lookupswitch _ _ => true
  | _ => false
noncomputable def zdk (m pc : Nat) (E : zE) : Bool := decide (decode (zby m) pc = .ok (E.1, E.2.1 - pc)) && (decide (pc ≤ E.2.1) && ((zsws E.1 || Nat.beq (E.2.1 - pc) (zln E.1)) && zchk (zcm m) (zml m) (zre1 m) pc E))
noncomputable def zda (m pc : Nat) : Bool := match zins m pc with
  | none => true
  | some E => zdk m pc E.1
def zPm (m : Nat) : Prop := ∀ pc, zda m pc = true
theorem zPm_of {m n : Nat} (h1 : (zat2 [] (m % 18) (zat2 [] (m / 18) zcs)).length = n) (h2 : (List.range (24 * n)).all (fun pc => zda m pc) = true) : zPm m := by
  intro pc
  by_cases h : pc < 24 * n
  · exact List.all_eq_true.mp h2 pc (List.mem_range.mpr h)
  · unfold zda zins
    rw [zat2_ge [] (zat2 [] (m % 18) (zat2 [] (m / 18) zcs)) (pc / 24) (by rw [h1]; omega)]
    cases pc % 24 <;> rfl
theorem zPm_of2 {m n : Nat} (h1 : (zat2 [] (m % 18) (zat2 [] (m / 18) zcs)).length = n) (h2 : ∀ pc, pc < 24 * n → zda m pc = true) : zPm m := by
  refine zPm_of h1 (List.all_eq_true.mpr fun pc h => h2 pc (List.mem_range.mp h))
theorem zrg {m : Nat} (a k : Nat) (h : (List.range k).all (fun i => zda m (a + i)) = true) {b : Nat} (hb : ∀ pc, pc < a → zda m pc = true) (e : a + k = b) : ∀ pc, pc < b → zda m pc = true := by
  intro pc hp
  by_cases q : pc < a
  · exact hb pc q
  · have := List.all_eq_true.mp h (pc - a) (List.mem_range.mpr (by omega))
    rwa [show a + (pc - a) = pc by omega] at this
theorem zstep {P : Nat → Prop} {n : Nat} (h : ∀ m, m < n → P m) (h1 : P n) : ∀ m, m < n + 1 → P m := by
  intro m hm
  rcases Nat.lt_or_eq_of_le (Nat.le_of_lt_succ hm) with q | q
  · exact h m q
  · rw [q]; exact h1
set_option maxRecDepth 100000 in
theorem zK1 : zPm 1 := zPm_of (n := 1) (by decide +kernel) (by decide +kernel)
set_option maxRecDepth 100000 in
theorem zK2 : zPm 2 := zPm_of (n := 2) (by decide +kernel) (by decide +kernel)
set_option maxRecDepth 100000 in
theorem zK3 : zPm 3 := zPm_of (n := 15) (by decide +kernel) (by decide +kernel)
set_option maxRecDepth 100000 in
theorem zK4 : zPm 4 := zPm_of (n := 2) (by decide +kernel) (by decide +kernel)
set_option maxRecDepth 100000 in
theorem zK5 : zPm 5 := zPm_of (n := 1) (by decide +kernel) (by decide +kernel)
set_option maxRecDepth 100000 in
theorem zK6 : zPm 6 := zPm_of (n := 1) (by decide +kernel) (by decide +kernel)
set_option maxRecDepth 100000 in
theorem zK7 : zPm 7 := zPm_of (n := 2) (by decide +kernel) (by decide +kernel)
set_option maxRecDepth 100000 in
theorem zK8 : zPm 8 := zPm_of (n := 8) (by decide +kernel) (by decide +kernel)
set_option maxRecDepth 100000 in
theorem zK9 : zPm 9 := zPm_of (n := 1) (by decide +kernel) (by decide +kernel)
set_option maxRecDepth 100000 in
theorem zK10 : zPm 10 := zPm_of (n := 1) (by decide +kernel) (by decide +kernel)
set_option maxRecDepth 100000 in
theorem zK11 : zPm 11 := zPm_of (n := 1) (by decide +kernel) (by decide +kernel)
set_option maxRecDepth 100000 in
theorem zK12 : zPm 12 := zPm_of (n := 2) (by decide +kernel) (by decide +kernel)
set_option maxRecDepth 100000 in
theorem zK13 : zPm 13 := zPm_of (n := 3) (by decide +kernel) (by decide +kernel)
set_option maxRecDepth 100000 in
theorem zK14 : zPm 14 := zPm_of (n := 2) (by decide +kernel) (by decide +kernel)
set_option maxRecDepth 100000 in
theorem zK15 : zPm 15 := zPm_of (n := 3) (by decide +kernel) (by decide +kernel)
set_option maxRecDepth 100000 in
theorem zK16 : zPm 16 := zPm_of (n := 1) (by decide +kernel) (by decide +kernel)
set_option maxRecDepth 100000 in
theorem zK17 : zPm 17 := zPm_of (n := 1) (by decide +kernel) (by decide +kernel)
set_option maxRecDepth 100000 in
theorem zK18 : zPm 18 := zPm_of (n := 1) (by decide +kernel) (by decide +kernel)
set_option maxRecDepth 100000 in
theorem zK19 : zPm 19 := zPm_of (n := 4) (by decide +kernel) (by decide +kernel)
set_option maxRecDepth 100000 in
theorem zK20 : zPm 20 := zPm_of (n := 2) (by decide +kernel) (by decide +kernel)
set_option maxRecDepth 100000 in
theorem zK21 : zPm 21 := zPm_of (n := 4) (by decide +kernel) (by decide +kernel)
set_option maxRecDepth 100000 in
theorem zK22 : zPm 22 := zPm_of (n := 2) (by decide +kernel) (by decide +kernel)
set_option maxRecDepth 100000 in
theorem zK23 : zPm 23 := zPm_of (n := 2) (by decide +kernel) (by decide +kernel)
set_option maxRecDepth 100000 in
theorem zK24 : zPm 24 := zPm_of (n := 2) (by decide +kernel) (by decide +kernel)
set_option maxRecDepth 100000 in
theorem zK25 : zPm 25 := zPm_of (n := 2) (by decide +kernel) (by decide +kernel)
set_option maxRecDepth 100000 in
theorem zK26 : zPm 26 := zPm_of (n := 2) (by decide +kernel) (by decide +kernel)
set_option maxRecDepth 100000 in
theorem zK27 : zPm 27 := zPm_of (n := 1) (by decide +kernel) (by decide +kernel)
set_option maxRecDepth 100000 in
theorem zK28 : zPm 28 := zPm_of (n := 6) (by decide +kernel) (by decide +kernel)
set_option maxRecDepth 100000 in
theorem zK29 : zPm 29 := zPm_of (n := 5) (by decide +kernel) (by decide +kernel)
set_option maxRecDepth 100000 in
theorem zK30 : zPm 30 := zPm_of (n := 4) (by decide +kernel) (by decide +kernel)
set_option maxRecDepth 100000 in
theorem zK31 : zPm 31 := zPm_of (n := 7) (by decide +kernel) (by decide +kernel)
set_option maxRecDepth 100000 in
theorem zK32 : zPm 32 := zPm_of (n := 3) (by decide +kernel) (by decide +kernel)
set_option maxRecDepth 100000 in
theorem zK33 : zPm 33 := zPm_of (n := 3) (by decide +kernel) (by decide +kernel)
set_option maxRecDepth 100000 in
theorem zK34 : zPm 34 := zPm_of (n := 9) (by decide +kernel) (by decide +kernel)
set_option maxRecDepth 100000 in
theorem zK35 : zPm 35 := zPm_of (n := 4) (by decide +kernel) (by decide +kernel)
set_option maxRecDepth 100000 in
theorem zK36 : zPm 36 := zPm_of (n := 1) (by decide +kernel) (by decide +kernel)
set_option maxRecDepth 100000 in
theorem zK37 : zPm 37 := zPm_of (n := 1) (by decide +kernel) (by decide +kernel)
set_option maxRecDepth 100000 in
theorem zK38 : zPm 38 := zPm_of (n := 3) (by decide +kernel) (by decide +kernel)
set_option maxRecDepth 100000 in
theorem zK39 : zPm 39 := zPm_of (n := 2) (by decide +kernel) (by decide +kernel)
set_option maxRecDepth 100000 in
theorem zK40 : zPm 40 := zPm_of (n := 2) (by decide +kernel) (by decide +kernel)
set_option maxRecDepth 100000 in
theorem zK41 : zPm 41 := zPm_of (n := 2) (by decide +kernel) (by decide +kernel)
set_option maxRecDepth 100000 in
theorem zK42 : zPm 42 := zPm_of (n := 6) (by decide +kernel) (by decide +kernel)
set_option maxRecDepth 100000 in
theorem zK43 : zPm 43 := zPm_of (n := 3) (by decide +kernel) (by decide +kernel)
set_option maxRecDepth 100000 in
theorem zK44 : zPm 44 := zPm_of (n := 4) (by decide +kernel) (by decide +kernel)
set_option maxRecDepth 100000 in
theorem zK45 : zPm 45 := zPm_of (n := 6) (by decide +kernel) (by decide +kernel)
set_option maxRecDepth 100000 in
theorem zK46 : zPm 46 := zPm_of (n := 3) (by decide +kernel) (by decide +kernel)
set_option maxRecDepth 100000 in
theorem zK47 : zPm 47 := zPm_of (n := 3) (by decide +kernel) (by decide +kernel)
set_option maxRecDepth 100000 in
theorem zK48 : zPm 48 := zPm_of (n := 3) (by decide +kernel) (by decide +kernel)
set_option maxRecDepth 100000 in
theorem zK49 : zPm 49 := zPm_of (n := 4) (by decide +kernel) (by decide +kernel)
set_option maxRecDepth 100000 in
theorem zK50 : zPm 50 := zPm_of (n := 6) (by decide +kernel) (by decide +kernel)
set_option maxRecDepth 100000 in
theorem zK51 : zPm 51 := zPm_of (n := 4) (by decide +kernel) (by decide +kernel)
set_option maxRecDepth 100000 in
theorem zK52 : zPm 52 := zPm_of (n := 1) (by decide +kernel) (by decide +kernel)
set_option maxRecDepth 100000 in
theorem zK53 : zPm 53 := zPm_of (n := 2) (by decide +kernel) (by decide +kernel)
set_option maxRecDepth 100000 in
theorem zK54 : zPm 54 := zPm_of (n := 3) (by decide +kernel) (by decide +kernel)
set_option maxRecDepth 100000 in
theorem zK55 : zPm 55 := zPm_of (n := 3) (by decide +kernel) (by decide +kernel)
set_option maxRecDepth 100000 in
theorem zK56 : zPm 56 := zPm_of (n := 3) (by decide +kernel) (by decide +kernel)
set_option maxRecDepth 100000 in
theorem zK57 : zPm 57 := zPm_of (n := 1) (by decide +kernel) (by decide +kernel)
set_option maxRecDepth 100000 in
theorem zK58 : zPm 58 := zPm_of (n := 8) (by decide +kernel) (by decide +kernel)
set_option maxRecDepth 100000 in
theorem zK59 : zPm 59 := zPm_of (n := 2) (by decide +kernel) (by decide +kernel)
set_option maxRecDepth 100000 in
theorem zK60 : zPm 60 := zPm_of (n := 5) (by decide +kernel) (by decide +kernel)
set_option maxRecDepth 100000 in
theorem zK61 : zPm 61 := zPm_of (n := 7) (by decide +kernel) (by decide +kernel)
set_option maxRecDepth 100000 in
theorem zK62 : zPm 62 := zPm_of (n := 1) (by decide +kernel) (by decide +kernel)
set_option maxRecDepth 100000 in
theorem zK63 : zPm 63 := zPm_of (n := 2) (by decide +kernel) (by decide +kernel)
set_option maxRecDepth 100000 in
theorem zK64 : zPm 64 := zPm_of (n := 4) (by decide +kernel) (by decide +kernel)
set_option maxRecDepth 100000 in
theorem zK65 : zPm 65 := zPm_of (n := 4) (by decide +kernel) (by decide +kernel)
set_option maxRecDepth 100000 in
theorem zK66 : zPm 66 := zPm_of (n := 3) (by decide +kernel) (by decide +kernel)
set_option maxRecDepth 100000 in
theorem zK67 : zPm 67 := zPm_of (n := 3) (by decide +kernel) (by decide +kernel)
set_option maxRecDepth 100000 in
theorem zK68 : zPm 68 := zPm_of (n := 2) (by decide +kernel) (by decide +kernel)
set_option maxRecDepth 100000 in
theorem zK69 : zPm 69 := zPm_of (n := 3) (by decide +kernel) (by decide +kernel)
set_option maxRecDepth 100000 in
theorem zK70 : zPm 70 := zPm_of (n := 3) (by decide +kernel) (by decide +kernel)
set_option maxRecDepth 100000 in
theorem zK71 : zPm 71 := zPm_of (n := 2) (by decide +kernel) (by decide +kernel)
set_option maxRecDepth 100000 in
theorem zK72 : zPm 72 := zPm_of (n := 1) (by decide +kernel) (by decide +kernel)
set_option maxRecDepth 100000 in
theorem zK73 : zPm 73 := zPm_of (n := 1) (by decide +kernel) (by decide +kernel)
set_option maxRecDepth 100000 in
theorem zK74 : zPm 74 := zPm_of (n := 2) (by decide +kernel) (by decide +kernel)
set_option maxRecDepth 100000 in
theorem zK75 : zPm 75 := zPm_of (n := 4) (by decide +kernel) (by decide +kernel)
set_option maxRecDepth 100000 in
theorem zK76 : zPm 76 := zPm_of (n := 3) (by decide +kernel) (by decide +kernel)
set_option maxRecDepth 100000 in
theorem zK77 : zPm 77 := zPm_of (n := 5) (by decide +kernel) (by decide +kernel)
set_option maxRecDepth 100000 in
theorem zK78 : zPm 78 := zPm_of (n := 3) (by decide +kernel) (by decide +kernel)
set_option maxRecDepth 100000 in
theorem zK79 : zPm 79 := zPm_of (n := 4) (by decide +kernel) (by decide +kernel)
set_option maxRecDepth 100000 in
theorem zK80 : zPm 80 := zPm_of (n := 3) (by decide +kernel) (by decide +kernel)
set_option maxRecDepth 100000 in
theorem zK81 : zPm 81 := zPm_of (n := 1) (by decide +kernel) (by decide +kernel)
set_option maxRecDepth 100000 in
theorem zK82 : zPm 82 := zPm_of (n := 3) (by decide +kernel) (by decide +kernel)
set_option maxRecDepth 100000 in
theorem zK83 : zPm 83 := zPm_of (n := 3) (by decide +kernel) (by decide +kernel)
set_option maxRecDepth 100000 in
theorem zK84 : zPm 84 := zPm_of (n := 3) (by decide +kernel) (by decide +kernel)
set_option maxRecDepth 100000 in
theorem zK85 : zPm 85 := zPm_of (n := 5) (by decide +kernel) (by decide +kernel)
set_option maxRecDepth 100000 in
theorem zK86 : zPm 86 := zPm_of (n := 6) (by decide +kernel) (by decide +kernel)
set_option maxRecDepth 100000 in
theorem zK87 : zPm 87 := zPm_of (n := 2) (by decide +kernel) (by decide +kernel)
set_option maxRecDepth 100000 in
theorem zK88 : zPm 88 := zPm_of (n := 3) (by decide +kernel) (by decide +kernel)
set_option maxRecDepth 100000 in
theorem zK89 : zPm 89 := zPm_of (n := 2) (by decide +kernel) (by decide +kernel)
set_option maxRecDepth 100000 in
theorem zK90 : zPm 90 := zPm_of (n := 1) (by decide +kernel) (by decide +kernel)
set_option maxRecDepth 100000 in
theorem zK91 : zPm 91 := zPm_of (n := 6) (by decide +kernel) (by decide +kernel)
set_option maxRecDepth 100000 in
theorem zK92 : zPm 92 := zPm_of (n := 1) (by decide +kernel) (by decide +kernel)
set_option maxRecDepth 100000 in
theorem zK93 : zPm 93 := zPm_of (n := 1) (by decide +kernel) (by decide +kernel)
set_option maxRecDepth 100000 in
theorem zK94 : zPm 94 := zPm_of (n := 1) (by decide +kernel) (by decide +kernel)
set_option maxRecDepth 100000 in
theorem zK95 : zPm 95 := zPm_of (n := 1) (by decide +kernel) (by decide +kernel)
set_option maxRecDepth 100000 in
theorem zK96 : zPm 96 := zPm_of (n := 1) (by decide +kernel) (by decide +kernel)
set_option maxRecDepth 100000 in
theorem zK97 : zPm 97 := zPm_of (n := 1) (by decide +kernel) (by decide +kernel)
set_option maxRecDepth 100000 in
theorem zK98 : zPm 98 := zPm_of (n := 1) (by decide +kernel) (by decide +kernel)
set_option maxRecDepth 100000 in
theorem zK99 : zPm 99 := zPm_of (n := 2) (by decide +kernel) (by decide +kernel)
set_option maxRecDepth 100000 in
theorem zK100 : zPm 100 := zPm_of (n := 2) (by decide +kernel) (by decide +kernel)
set_option maxRecDepth 100000 in
theorem zK101 : zPm 101 := zPm_of (n := 1) (by decide +kernel) (by decide +kernel)
set_option maxRecDepth 100000 in
theorem zK102 : zPm 102 := zPm_of (n := 2) (by decide +kernel) (by decide +kernel)
set_option maxRecDepth 100000 in
theorem zK103 : zPm 103 := zPm_of (n := 2) (by decide +kernel) (by decide +kernel)
set_option maxRecDepth 100000 in
theorem zK104 : zPm 104 := zPm_of (n := 2) (by decide +kernel) (by decide +kernel)
set_option maxRecDepth 100000 in
theorem zK105 : zPm 105 := zPm_of (n := 4) (by decide +kernel) (by decide +kernel)
set_option maxRecDepth 100000 in
theorem zK106 : zPm 106 := zPm_of (n := 3) (by decide +kernel) (by decide +kernel)
set_option maxRecDepth 100000 in
theorem zK107 : zPm 107 := zPm_of (n := 2) (by decide +kernel) (by decide +kernel)
set_option maxRecDepth 100000 in
theorem zK108 : zPm 108 := zPm_of (n := 1) (by decide +kernel) (by decide +kernel)
set_option maxRecDepth 100000 in
theorem zK109 : zPm 109 := zPm_of (n := 1) (by decide +kernel) (by decide +kernel)
set_option maxRecDepth 100000 in
theorem zK110 : zPm 110 := zPm_of (n := 2) (by decide +kernel) (by decide +kernel)
set_option maxRecDepth 100000 in
theorem zK111 : zPm 111 := zPm_of (n := 1) (by decide +kernel) (by decide +kernel)
set_option maxRecDepth 100000 in
theorem zK112 : zPm 112 := zPm_of (n := 2) (by decide +kernel) (by decide +kernel)
set_option maxRecDepth 100000 in
theorem zK113 : zPm 113 := zPm_of (n := 2) (by decide +kernel) (by decide +kernel)
set_option maxRecDepth 100000 in
theorem zK114 : zPm 114 := zPm_of (n := 2) (by decide +kernel) (by decide +kernel)
set_option maxRecDepth 100000 in
theorem zK115 : zPm 115 := zPm_of (n := 2) (by decide +kernel) (by decide +kernel)
set_option maxRecDepth 100000 in
theorem zK116 : zPm 116 := zPm_of (n := 2) (by decide +kernel) (by decide +kernel)
set_option maxRecDepth 100000 in
theorem zK117 : zPm 117 := zPm_of (n := 2) (by decide +kernel) (by decide +kernel)
set_option maxRecDepth 100000 in
theorem zK118 : zPm 118 := zPm_of (n := 2) (by decide +kernel) (by decide +kernel)
set_option maxRecDepth 100000 in
theorem zK119 : zPm 119 := zPm_of (n := 7) (by decide +kernel) (by decide +kernel)
set_option maxRecDepth 100000 in
theorem zK120 : zPm 120 := zPm_of (n := 1) (by decide +kernel) (by decide +kernel)
set_option maxRecDepth 100000 in
theorem zK121 : zPm 121 := zPm_of (n := 1) (by decide +kernel) (by decide +kernel)
set_option maxRecDepth 100000 in
theorem zK122 : zPm 122 := zPm_of (n := 2) (by decide +kernel) (by decide +kernel)
set_option maxRecDepth 100000 in
theorem zK123 : zPm 123 := zPm_of (n := 2) (by decide +kernel) (by decide +kernel)
set_option maxRecDepth 100000 in
theorem zK124 : zPm 124 := zPm_of (n := 4) (by decide +kernel) (by decide +kernel)
set_option maxRecDepth 100000 in
theorem zK125 : zPm 125 := zPm_of (n := 5) (by decide +kernel) (by decide +kernel)
set_option maxRecDepth 100000 in
theorem zK126 : zPm 126 := zPm_of (n := 2) (by decide +kernel) (by decide +kernel)
set_option maxRecDepth 100000 in
theorem zK127 : zPm 127 := zPm_of (n := 2) (by decide +kernel) (by decide +kernel)
set_option maxRecDepth 100000 in
theorem zK128 : zPm 128 := zPm_of (n := 8) (by decide +kernel) (by decide +kernel)
set_option maxRecDepth 100000 in
theorem zK129 : zPm 129 := zPm_of (n := 10) (by decide +kernel) (by decide +kernel)
set_option maxRecDepth 100000 in
theorem zK130 : zPm 130 := zPm_of (n := 3) (by decide +kernel) (by decide +kernel)
set_option maxRecDepth 100000 in
theorem zK131 : zPm 131 := zPm_of (n := 3) (by decide +kernel) (by decide +kernel)
set_option maxRecDepth 100000 in
theorem zK132 : zPm 132 := zPm_of (n := 3) (by decide +kernel) (by decide +kernel)
set_option maxRecDepth 100000 in
theorem zK133 : zPm 133 := zPm_of (n := 2) (by decide +kernel) (by decide +kernel)
set_option maxRecDepth 100000 in
theorem zK134 : zPm 134 := zPm_of (n := 3) (by decide +kernel) (by decide +kernel)
set_option maxRecDepth 100000 in
theorem zK135 : zPm 135 := zPm_of (n := 2) (by decide +kernel) (by decide +kernel)
set_option maxRecDepth 100000 in
theorem zK136 : zPm 136 := zPm_of (n := 5) (by decide +kernel) (by decide +kernel)
set_option maxRecDepth 100000 in
theorem zK137 : zPm 137 := zPm_of (n := 5) (by decide +kernel) (by decide +kernel)
set_option maxRecDepth 100000 in
theorem zK138 : zPm 138 := zPm_of (n := 3) (by decide +kernel) (by decide +kernel)
set_option maxRecDepth 100000 in
theorem zK139 : zPm 139 := zPm_of (n := 2) (by decide +kernel) (by decide +kernel)
set_option maxRecDepth 100000 in
theorem zK140 : zPm 140 := zPm_of (n := 6) (by decide +kernel) (by decide +kernel)
set_option maxRecDepth 100000 in
theorem zK141 : zPm 141 := zPm_of (n := 2) (by decide +kernel) (by decide +kernel)
set_option maxRecDepth 100000 in
theorem zK142 : zPm 142 := zPm_of (n := 4) (by decide +kernel) (by decide +kernel)
set_option maxRecDepth 100000 in
theorem zK143 : zPm 143 := zPm_of (n := 3) (by decide +kernel) (by decide +kernel)
set_option maxRecDepth 100000 in
theorem zK144 : zPm 144 := zPm_of (n := 3) (by decide +kernel) (by decide +kernel)
set_option maxRecDepth 100000 in
theorem zK145 : zPm 145 := zPm_of (n := 4) (by decide +kernel) (by decide +kernel)
set_option maxRecDepth 100000 in
theorem zK146 : zPm 146 := zPm_of (n := 1) (by decide +kernel) (by decide +kernel)
set_option maxRecDepth 100000 in
theorem zK147 : zPm 147 := zPm_of (n := 3) (by decide +kernel) (by decide +kernel)
set_option maxRecDepth 100000 in
theorem zK148 : zPm 148 := zPm_of (n := 4) (by decide +kernel) (by decide +kernel)
set_option maxRecDepth 100000 in
theorem zK149 : zPm 149 := zPm_of (n := 6) (by decide +kernel) (by decide +kernel)
set_option maxRecDepth 100000 in
theorem zK150 : zPm 150 := zPm_of (n := 5) (by decide +kernel) (by decide +kernel)
set_option maxRecDepth 100000 in
theorem zK151 : zPm 151 := zPm_of (n := 2) (by decide +kernel) (by decide +kernel)
set_option maxRecDepth 100000 in
theorem zK152 : zPm 152 := zPm_of (n := 1) (by decide +kernel) (by decide +kernel)
set_option maxRecDepth 100000 in
theorem zK153 : zPm 153 := zPm_of (n := 2) (by decide +kernel) (by decide +kernel)
set_option maxRecDepth 100000 in
theorem zK154 : zPm 154 := zPm_of (n := 3) (by decide +kernel) (by decide +kernel)
set_option maxRecDepth 100000 in
theorem zK155 : zPm 155 := zPm_of (n := 4) (by decide +kernel) (by decide +kernel)
set_option maxRecDepth 100000 in
theorem zK156 : zPm 156 := zPm_of (n := 3) (by decide +kernel) (by decide +kernel)
set_option maxRecDepth 100000 in
theorem zK157 : zPm 157 := zPm_of (n := 2) (by decide +kernel) (by decide +kernel)
set_option maxRecDepth 100000 in
theorem zK158 : zPm 158 := zPm_of (n := 3) (by decide +kernel) (by decide +kernel)
set_option maxRecDepth 100000 in
theorem zK159 : zPm 159 := zPm_of (n := 4) (by decide +kernel) (by decide +kernel)
set_option maxRecDepth 100000 in
theorem zK160 : zPm 160 := zPm_of (n := 2) (by decide +kernel) (by decide +kernel)
set_option maxRecDepth 100000 in
theorem zK161 : zPm 161 := zPm_of (n := 2) (by decide +kernel) (by decide +kernel)
set_option maxRecDepth 100000 in
theorem zK162 : zPm 162 := zPm_of (n := 2) (by decide +kernel) (by decide +kernel)
set_option maxRecDepth 100000 in
theorem zK163 : zPm 163 := zPm_of (n := 2) (by decide +kernel) (by decide +kernel)
set_option maxRecDepth 100000 in
theorem zK164 : zPm 164 := zPm_of (n := 2) (by decide +kernel) (by decide +kernel)
set_option maxRecDepth 100000 in
theorem zK165 : zPm 165 := zPm_of (n := 2) (by decide +kernel) (by decide +kernel)
set_option maxRecDepth 100000 in
theorem zK166 : zPm 166 := zPm_of (n := 5) (by decide +kernel) (by decide +kernel)
set_option maxRecDepth 100000 in
theorem zK167 : zPm 167 := zPm_of (n := 4) (by decide +kernel) (by decide +kernel)
set_option maxRecDepth 100000 in
theorem zK168 : zPm 168 := zPm_of (n := 4) (by decide +kernel) (by decide +kernel)
set_option maxRecDepth 100000 in
theorem zK169 : zPm 169 := zPm_of (n := 1) (by decide +kernel) (by decide +kernel)
set_option maxRecDepth 100000 in
theorem zK170 : zPm 170 := zPm_of (n := 1) (by decide +kernel) (by decide +kernel)
set_option maxRecDepth 100000 in
theorem zK171 : zPm 171 := zPm_of (n := 1) (by decide +kernel) (by decide +kernel)
set_option maxRecDepth 100000 in
theorem zK172 : zPm 172 := zPm_of (n := 3) (by decide +kernel) (by decide +kernel)
set_option maxRecDepth 100000 in
theorem zK173 : zPm 173 := zPm_of (n := 1) (by decide +kernel) (by decide +kernel)
set_option maxRecDepth 100000 in
theorem zK174 : zPm 174 := zPm_of (n := 1) (by decide +kernel) (by decide +kernel)
set_option maxRecDepth 100000 in
theorem zK175 : zPm 175 := zPm_of (n := 1) (by decide +kernel) (by decide +kernel)
set_option maxRecDepth 100000 in
theorem zK176 : zPm 176 := zPm_of (n := 2) (by decide +kernel) (by decide +kernel)
set_option maxRecDepth 100000 in
theorem zK177 : zPm 177 := zPm_of (n := 3) (by decide +kernel) (by decide +kernel)
set_option maxRecDepth 100000 in
theorem zK178 : zPm 178 := zPm_of (n := 2) (by decide +kernel) (by decide +kernel)
set_option maxRecDepth 100000 in
theorem zK179 : zPm 179 := zPm_of (n := 3) (by decide +kernel) (by decide +kernel)
set_option maxRecDepth 100000 in
theorem zK180 : zPm 180 := zPm_of (n := 1) (by decide +kernel) (by decide +kernel)
set_option maxRecDepth 100000 in
theorem zK181 : zPm 181 := zPm_of (n := 2) (by decide +kernel) (by decide +kernel)
set_option maxRecDepth 100000 in
theorem zK182 : zPm 182 := zPm_of (n := 2) (by decide +kernel) (by decide +kernel)
set_option maxRecDepth 100000 in
theorem zK183 : zPm 183 := zPm_of (n := 1) (by decide +kernel) (by decide +kernel)
set_option maxRecDepth 100000 in
theorem zK184 : zPm 184 := zPm_of (n := 2) (by decide +kernel) (by decide +kernel)
set_option maxRecDepth 100000 in
theorem zK185 : zPm 185 := zPm_of (n := 3) (by decide +kernel) (by decide +kernel)
set_option maxRecDepth 100000 in
theorem zK186 : zPm 186 := zPm_of (n := 2) (by decide +kernel) (by decide +kernel)
set_option maxRecDepth 100000 in
theorem zK187 : zPm 187 := zPm_of (n := 2) (by decide +kernel) (by decide +kernel)
set_option maxRecDepth 100000 in
theorem zK188 : zPm 188 := zPm_of (n := 3) (by decide +kernel) (by decide +kernel)
set_option maxRecDepth 100000 in
theorem zK189 : zPm 189 := zPm_of (n := 2) (by decide +kernel) (by decide +kernel)
set_option maxRecDepth 100000 in
theorem zK190 : zPm 190 := zPm_of (n := 2) (by decide +kernel) (by decide +kernel)
set_option maxRecDepth 100000 in
theorem zK191 : zPm 191 := zPm_of (n := 6) (by decide +kernel) (by decide +kernel)
set_option maxRecDepth 100000 in
theorem zK192 : zPm 192 := zPm_of (n := 24) (by decide +kernel) (by decide +kernel)
set_option maxRecDepth 100000 in
theorem zK193 : zPm 193 := zPm_of (n := 1) (by decide +kernel) (by decide +kernel)
set_option maxRecDepth 100000 in
theorem zK194 : zPm 194 := zPm_of (n := 1) (by decide +kernel) (by decide +kernel)
set_option maxRecDepth 100000 in
theorem zK195 : zPm 195 := zPm_of (n := 1) (by decide +kernel) (by decide +kernel)
set_option maxRecDepth 100000 in
theorem zK196 : zPm 196 := zPm_of (n := 1) (by decide +kernel) (by decide +kernel)
set_option maxRecDepth 100000 in
theorem zK197 : zPm 197 := zPm_of (n := 2) (by decide +kernel) (by decide +kernel)
set_option maxRecDepth 100000 in
theorem zK198 : zPm 198 := zPm_of (n := 2) (by decide +kernel) (by decide +kernel)
set_option maxRecDepth 100000 in
theorem zK199 : zPm 199 := zPm_of (n := 6) (by decide +kernel) (by decide +kernel)
set_option maxRecDepth 100000 in
theorem zK200 : zPm 200 := zPm_of (n := 5) (by decide +kernel) (by decide +kernel)
set_option maxRecDepth 100000 in
theorem zK201 : zPm 201 := zPm_of (n := 2) (by decide +kernel) (by decide +kernel)
set_option maxRecDepth 100000 in
theorem zK202 : zPm 202 := zPm_of (n := 3) (by decide +kernel) (by decide +kernel)
set_option maxRecDepth 100000 in
theorem zK203 : zPm 203 := zPm_of (n := 2) (by decide +kernel) (by decide +kernel)
set_option maxRecDepth 100000 in
theorem zK204 : zPm 204 := zPm_of (n := 9) (by decide +kernel) (by decide +kernel)
set_option maxRecDepth 100000 in
theorem zK205 : zPm 205 := zPm_of (n := 3) (by decide +kernel) (by decide +kernel)
set_option maxRecDepth 100000 in
theorem zK206 : zPm 206 := zPm_of (n := 3) (by decide +kernel) (by decide +kernel)
set_option maxRecDepth 100000 in
theorem zK207 : zPm 207 := zPm_of (n := 3) (by decide +kernel) (by decide +kernel)
set_option maxRecDepth 100000 in
theorem zK208 : zPm 208 := zPm_of (n := 1) (by decide +kernel) (by decide +kernel)
set_option maxRecDepth 100000 in
theorem zK209 : zPm 209 := zPm_of (n := 1) (by decide +kernel) (by decide +kernel)
set_option maxRecDepth 100000 in
theorem zK210 : zPm 210 := zPm_of (n := 3) (by decide +kernel) (by decide +kernel)
set_option maxRecDepth 100000 in
theorem zK211 : zPm 211 := zPm_of (n := 2) (by decide +kernel) (by decide +kernel)
set_option maxRecDepth 100000 in
theorem zK212 : zPm 212 := zPm_of (n := 1) (by decide +kernel) (by decide +kernel)
set_option maxRecDepth 100000 in
theorem zK213 : zPm 213 := zPm_of (n := 2) (by decide +kernel) (by decide +kernel)
set_option maxRecDepth 100000 in
theorem zK214 : zPm 214 := zPm_of (n := 6) (by decide +kernel) (by decide +kernel)
set_option maxRecDepth 100000 in
theorem zK215 : zPm 215 := zPm_of (n := 2) (by decide +kernel) (by decide +kernel)
set_option maxRecDepth 100000 in
theorem zK216 : zPm 216 := zPm_of (n := 4) (by decide +kernel) (by decide +kernel)
set_option maxRecDepth 100000 in
theorem zK217 : zPm 217 := zPm_of (n := 7) (by decide +kernel) (by decide +kernel)
set_option maxRecDepth 100000 in
theorem zK218 : zPm 218 := zPm_of (n := 3) (by decide +kernel) (by decide +kernel)
set_option maxRecDepth 100000 in
theorem zK219 : zPm 219 := zPm_of (n := 3) (by decide +kernel) (by decide +kernel)
set_option maxRecDepth 100000 in
theorem zK220 : zPm 220 := zPm_of (n := 3) (by decide +kernel) (by decide +kernel)
set_option maxRecDepth 100000 in
theorem zK221 : zPm 221 := zPm_of (n := 2) (by decide +kernel) (by decide +kernel)
set_option maxRecDepth 100000 in
theorem zK222 : zPm 222 := zPm_of (n := 2) (by decide +kernel) (by decide +kernel)
set_option maxRecDepth 100000 in
theorem zK223 : zPm 223 := zPm_of (n := 4) (by decide +kernel) (by decide +kernel)
set_option maxRecDepth 100000 in
theorem zK224 : zPm 224 := zPm_of (n := 11) (by decide +kernel) (by decide +kernel)
set_option maxRecDepth 100000 in
theorem zK225 : zPm 225 := zPm_of (n := 10) (by decide +kernel) (by decide +kernel)
set_option maxRecDepth 100000 in
theorem zK226 : zPm 226 := zPm_of (n := 9) (by decide +kernel) (by decide +kernel)
set_option maxRecDepth 100000 in
theorem zK227 : zPm 227 := zPm_of (n := 4) (by decide +kernel) (by decide +kernel)
set_option maxRecDepth 100000 in
theorem zK228 : zPm 228 := zPm_of (n := 1) (by decide +kernel) (by decide +kernel)
set_option maxRecDepth 100000 in
theorem zK229 : zPm 229 := zPm_of (n := 2) (by decide +kernel) (by decide +kernel)
set_option maxRecDepth 100000 in
theorem zK230 : zPm 230 := zPm_of (n := 1) (by decide +kernel) (by decide +kernel)
set_option maxRecDepth 100000 in
theorem zK231 : zPm 231 := zPm_of (n := 1) (by decide +kernel) (by decide +kernel)
set_option maxRecDepth 100000 in
theorem zK232 : zPm 232 := zPm_of (n := 3) (by decide +kernel) (by decide +kernel)
set_option maxRecDepth 100000 in
theorem zK233 : zPm 233 := zPm_of (n := 1) (by decide +kernel) (by decide +kernel)
set_option maxRecDepth 100000 in
theorem zK234 : zPm 234 := zPm_of (n := 4) (by decide +kernel) (by decide +kernel)
set_option maxRecDepth 100000 in
theorem zK235 : zPm 235 := zPm_of (n := 1) (by decide +kernel) (by decide +kernel)
set_option maxRecDepth 100000 in
theorem zK236 : zPm 236 := zPm_of (n := 5) (by decide +kernel) (by decide +kernel)
set_option maxRecDepth 100000 in
theorem zK237 : zPm 237 := zPm_of (n := 2) (by decide +kernel) (by decide +kernel)
set_option maxRecDepth 100000 in
theorem zK238 : zPm 238 := zPm_of (n := 2) (by decide +kernel) (by decide +kernel)
set_option maxRecDepth 100000 in
theorem zK239 : zPm 239 := zPm_of (n := 2) (by decide +kernel) (by decide +kernel)
set_option maxRecDepth 100000 in
theorem zK240 : zPm 240 := zPm_of (n := 1) (by decide +kernel) (by decide +kernel)
set_option maxRecDepth 100000 in
theorem zK241 : zPm 241 := zPm_of (n := 1) (by decide +kernel) (by decide +kernel)
set_option maxRecDepth 100000 in
theorem zK242 : zPm 242 := zPm_of (n := 3) (by decide +kernel) (by decide +kernel)
set_option maxRecDepth 100000 in
theorem zK243 : zPm 243 := zPm_of (n := 12) (by decide +kernel) (by decide +kernel)
set_option maxRecDepth 100000 in
theorem zK244 : zPm 244 := zPm_of (n := 1) (by decide +kernel) (by decide +kernel)
set_option maxRecDepth 100000 in
theorem zK245 : zPm 245 := zPm_of (n := 10) (by decide +kernel) (by decide +kernel)
set_option maxRecDepth 100000 in
theorem zK246 : zPm 246 := zPm_of (n := 4) (by decide +kernel) (by decide +kernel)
set_option maxRecDepth 100000 in
theorem zK247 : zPm 247 := zPm_of (n := 8) (by decide +kernel) (by decide +kernel)
set_option maxRecDepth 100000 in
theorem zK248 : zPm 248 := zPm_of (n := 3) (by decide +kernel) (by decide +kernel)
set_option maxRecDepth 100000 in
theorem zK249 : zPm 249 := zPm_of (n := 2) (by decide +kernel) (by decide +kernel)
set_option maxRecDepth 100000 in
theorem zK250 : zPm 250 := zPm_of (n := 3) (by decide +kernel) (by decide +kernel)
set_option maxRecDepth 100000 in
theorem zK251 : zPm 251 := zPm_of (n := 3) (by decide +kernel) (by decide +kernel)
set_option maxRecDepth 100000 in
theorem zK252 : zPm 252 := zPm_of (n := 2) (by decide +kernel) (by decide +kernel)
set_option maxRecDepth 100000 in
theorem zK253 : zPm 253 := zPm_of (n := 1) (by decide +kernel) (by decide +kernel)
set_option maxRecDepth 100000 in
theorem zK254 : zPm 254 := zPm_of (n := 5) (by decide +kernel) (by decide +kernel)
set_option maxRecDepth 100000 in
theorem zK255 : zPm 255 := zPm_of (n := 6) (by decide +kernel) (by decide +kernel)
set_option maxRecDepth 100000 in
theorem zK256 : zPm 256 := zPm_of (n := 14) (by decide +kernel) (by decide +kernel)
set_option maxRecDepth 100000 in
theorem zK257 : zPm 257 := zPm_of (n := 1) (by decide +kernel) (by decide +kernel)
set_option maxRecDepth 100000 in
theorem zK258 : zPm 258 := zPm_of (n := 8) (by decide +kernel) (by decide +kernel)
set_option maxRecDepth 100000 in
theorem zK259 : zPm 259 := zPm_of (n := 2) (by decide +kernel) (by decide +kernel)
set_option maxRecDepth 100000 in
theorem zK260 : zPm 260 := zPm_of (n := 3) (by decide +kernel) (by decide +kernel)
set_option maxRecDepth 100000 in
theorem zK261 : zPm 261 := zPm_of (n := 7) (by decide +kernel) (by decide +kernel)
set_option maxRecDepth 100000 in
theorem zK262 : zPm 262 := zPm_of (n := 2) (by decide +kernel) (by decide +kernel)
set_option maxRecDepth 100000 in
theorem zK263 : zPm 263 := zPm_of (n := 5) (by decide +kernel) (by decide +kernel)
set_option maxRecDepth 100000 in
theorem zK264 : zPm 264 := zPm_of (n := 3) (by decide +kernel) (by decide +kernel)
set_option maxRecDepth 100000 in
theorem zK265 : zPm 265 := zPm_of (n := 4) (by decide +kernel) (by decide +kernel)
set_option maxRecDepth 100000 in
theorem zK266 : zPm 266 := zPm_of (n := 8) (by decide +kernel) (by decide +kernel)
set_option maxRecDepth 100000 in
theorem zK267 : zPm 267 := zPm_of (n := 5) (by decide +kernel) (by decide +kernel)
set_option maxRecDepth 100000 in
theorem zK268 : zPm 268 := zPm_of (n := 19) (by decide +kernel) (by decide +kernel)
set_option maxRecDepth 100000 in
theorem zK269 : zPm 269 := zPm_of (n := 5) (by decide +kernel) (by decide +kernel)
set_option maxRecDepth 100000 in
theorem zK270 : zPm 270 := zPm_of (n := 5) (by decide +kernel) (by decide +kernel)
set_option maxRecDepth 100000 in
theorem zK271 : zPm 271 := zPm_of (n := 14) (by decide +kernel) (by decide +kernel)
set_option maxRecDepth 100000 in
theorem zK272 : zPm 272 := zPm_of (n := 3) (by decide +kernel) (by decide +kernel)
set_option maxRecDepth 100000 in
theorem zK273 : zPm 273 := zPm_of (n := 2) (by decide +kernel) (by decide +kernel)
set_option maxRecDepth 100000 in
theorem zK274 : zPm 274 := zPm_of (n := 11) (by decide +kernel) (by decide +kernel)
set_option maxRecDepth 100000 in
theorem zK275 : zPm 275 := zPm_of (n := 4) (by decide +kernel) (by decide +kernel)
set_option maxRecDepth 100000 in
theorem zK276 : zPm 276 := zPm_of (n := 9) (by decide +kernel) (by decide +kernel)
set_option maxRecDepth 100000 in
theorem zK277 : zPm 277 := zPm_of (n := 2) (by decide +kernel) (by decide +kernel)
set_option maxRecDepth 100000 in
theorem zK278 : zPm 278 := zPm_of (n := 14) (by decide +kernel) (by decide +kernel)
set_option maxRecDepth 100000 in
theorem zK279 : zPm 279 := zPm_of (n := 2) (by decide +kernel) (by decide +kernel)
set_option maxRecDepth 100000 in
theorem zK280 : zPm 280 := zPm_of (n := 17) (by decide +kernel) (by decide +kernel)
set_option maxRecDepth 100000 in
theorem zK281 : zPm 281 := zPm_of (n := 3) (by decide +kernel) (by decide +kernel)
set_option maxRecDepth 100000 in
theorem zK282 : zPm 282 := zPm_of (n := 3) (by decide +kernel) (by decide +kernel)
set_option maxRecDepth 100000 in
theorem zK283 : zPm 283 := zPm_of (n := 1) (by decide +kernel) (by decide +kernel)
set_option maxRecDepth 100000 in
theorem zK284 : zPm 284 := zPm_of (n := 5) (by decide +kernel) (by decide +kernel)
set_option maxRecDepth 100000 in
theorem zK285 : zPm 285 := zPm_of (n := 7) (by decide +kernel) (by decide +kernel)
set_option maxRecDepth 100000 in
theorem zK286 : zPm 286 := zPm_of (n := 3) (by decide +kernel) (by decide +kernel)
set_option maxRecDepth 100000 in
theorem zK287 : zPm 287 := zPm_of (n := 5) (by decide +kernel) (by decide +kernel)
set_option maxRecDepth 100000 in
theorem zK288 : zPm 288 := zPm_of (n := 3) (by decide +kernel) (by decide +kernel)
set_option maxRecDepth 100000 in
theorem zK289 : zPm 289 := zPm_of (n := 4) (by decide +kernel) (by decide +kernel)
set_option maxRecDepth 100000 in
theorem zK290 : zPm 290 := zPm_of (n := 2) (by decide +kernel) (by decide +kernel)
set_option maxRecDepth 100000 in
theorem zK291 : zPm 291 := zPm_of (n := 1) (by decide +kernel) (by decide +kernel)
set_option maxRecDepth 100000 in
theorem zK292 : zPm 292 := zPm_of (n := 3) (by decide +kernel) (by decide +kernel)
set_option maxRecDepth 100000 in
theorem zK293 : zPm 293 := zPm_of (n := 1) (by decide +kernel) (by decide +kernel)
set_option maxRecDepth 100000 in
theorem zK294 : zPm 294 := zPm_of (n := 1) (by decide +kernel) (by decide +kernel)
set_option maxRecDepth 100000 in
theorem zK295 : zPm 295 := zPm_of (n := 4) (by decide +kernel) (by decide +kernel)
set_option maxRecDepth 100000 in
theorem zK296 : zPm 296 := zPm_of (n := 1) (by decide +kernel) (by decide +kernel)
set_option maxRecDepth 100000 in
theorem zK297 : zPm 297 := zPm_of (n := 1) (by decide +kernel) (by decide +kernel)
set_option maxRecDepth 100000 in
theorem zK298 : zPm 298 := zPm_of (n := 3) (by decide +kernel) (by decide +kernel)
set_option maxRecDepth 100000 in
theorem zK299 : zPm 299 := zPm_of (n := 1) (by decide +kernel) (by decide +kernel)
set_option maxRecDepth 100000 in
theorem zK300 : zPm 300 := zPm_of (n := 1) (by decide +kernel) (by decide +kernel)
set_option maxRecDepth 100000 in
theorem zK301 : zPm 301 := zPm_of (n := 3) (by decide +kernel) (by decide +kernel)
set_option maxRecDepth 100000 in
theorem zK302 : zPm 302 := zPm_of (n := 3) (by decide +kernel) (by decide +kernel)
set_option maxRecDepth 100000 in
theorem zK303 : zPm 303 := zPm_of (n := 2) (by decide +kernel) (by decide +kernel)
set_option maxRecDepth 100000 in
theorem zK304 : zPm 304 := zPm_of (n := 3) (by decide +kernel) (by decide +kernel)
set_option maxRecDepth 100000 in
theorem zK305 : zPm 305 := zPm_of (n := 1) (by decide +kernel) (by decide +kernel)
set_option maxRecDepth 100000 in
theorem zK306 : zPm 306 := zPm_of (n := 2) (by decide +kernel) (by decide +kernel)
set_option maxRecDepth 100000 in
theorem zK307 : zPm 307 := zPm_of (n := 4) (by decide +kernel) (by decide +kernel)
set_option maxRecDepth 100000 in
theorem zK308 : zPm 308 := zPm_of (n := 3) (by decide +kernel) (by decide +kernel)
set_option maxRecDepth 100000 in
theorem zK309 : zPm 309 := zPm_of (n := 5) (by decide +kernel) (by decide +kernel)
set_option maxRecDepth 100000 in
theorem zK310 : zPm 310 := zPm_of (n := 2) (by decide +kernel) (by decide +kernel)
set_option maxRecDepth 100000 in
theorem zK311 : zPm 311 := zPm_of (n := 8) (by decide +kernel) (by decide +kernel)
set_option maxRecDepth 100000 in
theorem zK312 : zPm 312 := zPm_of (n := 4) (by decide +kernel) (by decide +kernel)
set_option maxRecDepth 100000 in
theorem zKr313_0 : (List.range 96).all (fun i => zda 313 (0 + i)) = true := by decide +kernel
set_option maxRecDepth 100000 in
theorem zKr313_1 : (List.range 96).all (fun i => zda 313 (96 + i)) = true := by decide +kernel
set_option maxRecDepth 100000 in
theorem zKr313_2 : (List.range 96).all (fun i => zda 313 (192 + i)) = true := by decide +kernel
set_option maxRecDepth 100000 in
theorem zKr313_3 : (List.range 96).all (fun i => zda 313 (288 + i)) = true := by decide +kernel
set_option maxRecDepth 100000 in
theorem zKr313_4 : (List.range 96).all (fun i => zda 313 (384 + i)) = true := by decide +kernel
set_option maxRecDepth 100000 in
theorem zKr313_5 : (List.range 96).all (fun i => zda 313 (480 + i)) = true := by decide +kernel
set_option maxRecDepth 100000 in
theorem zKr313_6 : (List.range 96).all (fun i => zda 313 (576 + i)) = true := by decide +kernel
set_option maxRecDepth 100000 in
theorem zKr313_7 : (List.range 96).all (fun i => zda 313 (672 + i)) = true := by decide +kernel
set_option maxRecDepth 100000 in
theorem zKr313_8 : (List.range 96).all (fun i => zda 313 (768 + i)) = true := by decide +kernel
set_option maxRecDepth 100000 in
theorem zKr313_9 : (List.range 96).all (fun i => zda 313 (864 + i)) = true := by decide +kernel
set_option maxRecDepth 100000 in
theorem zKr313_10 : (List.range 96).all (fun i => zda 313 (960 + i)) = true := by decide +kernel
set_option maxRecDepth 100000 in
theorem zKr313_11 : (List.range 96).all (fun i => zda 313 (1056 + i)) = true := by decide +kernel
set_option maxRecDepth 100000 in
theorem zKr313_12 : (List.range 96).all (fun i => zda 313 (1152 + i)) = true := by decide +kernel
set_option maxRecDepth 100000 in
theorem zKr313_13 : (List.range 96).all (fun i => zda 313 (1248 + i)) = true := by decide +kernel
set_option maxRecDepth 100000 in
theorem zKr313_14 : (List.range 96).all (fun i => zda 313 (1344 + i)) = true := by decide +kernel
theorem zK313 : zPm 313 := zPm_of2 (n := 60) (by decide +kernel) (zrg 1344 96 zKr313_14 (zrg 1248 96 zKr313_13 (zrg 1152 96 zKr313_12 (zrg 1056 96 zKr313_11 (zrg 960 96 zKr313_10 (zrg 864 96 zKr313_9 (zrg 768 96 zKr313_8 (zrg 672 96 zKr313_7 (zrg 576 96 zKr313_6 (zrg 480 96 zKr313_5 (zrg 384 96 zKr313_4 (zrg 288 96 zKr313_3 (zrg 192 96 zKr313_2 (zrg 96 96 zKr313_1 (zrg 0 96 zKr313_0 (fun _ h => absurd h (Nat.not_lt_zero _)) (b := 96) rfl) (b := 192) rfl) (b := 288) rfl) (b := 384) rfl) (b := 480) rfl) (b := 576) rfl) (b := 672) rfl) (b := 768) rfl) (b := 864) rfl) (b := 960) rfl) (b := 1056) rfl) (b := 1152) rfl) (b := 1248) rfl) (b := 1344) rfl) (b := 1440) rfl)
set_option maxRecDepth 100000 in
theorem zK314 : zPm 314 := zPm_of (n := 1) (by decide +kernel) (by decide +kernel)
set_option maxRecDepth 100000 in
theorem zK315 : zPm 315 := zPm_of (n := 1) (by decide +kernel) (by decide +kernel)
set_option maxRecDepth 100000 in
theorem zK316 : zPm 316 := zPm_of (n := 1) (by decide +kernel) (by decide +kernel)
set_option maxRecDepth 100000 in
theorem zK317 : zPm 317 := zPm_of (n := 2) (by decide +kernel) (by decide +kernel)
set_option maxRecDepth 100000 in
theorem zK318 : zPm 318 := zPm_of (n := 1) (by decide +kernel) (by decide +kernel)
set_option maxRecDepth 100000 in
theorem zK319 : zPm 319 := zPm_of (n := 1) (by decide +kernel) (by decide +kernel)
set_option maxRecDepth 100000 in
theorem zK320 : zPm 320 := zPm_of (n := 1) (by decide +kernel) (by decide +kernel)
set_option maxRecDepth 100000 in
theorem zK321 : zPm 321 := zPm_of (n := 2) (by decide +kernel) (by decide +kernel)
set_option maxRecDepth 100000 in
theorem zK322 : zPm 322 := zPm_of (n := 2) (by decide +kernel) (by decide +kernel)
theorem zK0 : zPm 0 := zPm_of (n := 0) (by decide +kernel) (by decide +kernel)
theorem zKa0 : ∀ m, m < 1 → zPm m := zstep (fun _ h => absurd h (Nat.not_lt_zero _)) zK0
theorem zKa1 : ∀ m, m < 2 → zPm m := zstep zKa0 zK1
theorem zKa2 : ∀ m, m < 3 → zPm m := zstep zKa1 zK2
theorem zKa3 : ∀ m, m < 4 → zPm m := zstep zKa2 zK3
theorem zKa4 : ∀ m, m < 5 → zPm m := zstep zKa3 zK4
theorem zKa5 : ∀ m, m < 6 → zPm m := zstep zKa4 zK5
theorem zKa6 : ∀ m, m < 7 → zPm m := zstep zKa5 zK6
theorem zKa7 : ∀ m, m < 8 → zPm m := zstep zKa6 zK7
theorem zKa8 : ∀ m, m < 9 → zPm m := zstep zKa7 zK8
theorem zKa9 : ∀ m, m < 10 → zPm m := zstep zKa8 zK9
theorem zKa10 : ∀ m, m < 11 → zPm m := zstep zKa9 zK10
theorem zKa11 : ∀ m, m < 12 → zPm m := zstep zKa10 zK11
theorem zKa12 : ∀ m, m < 13 → zPm m := zstep zKa11 zK12
theorem zKa13 : ∀ m, m < 14 → zPm m := zstep zKa12 zK13
theorem zKa14 : ∀ m, m < 15 → zPm m := zstep zKa13 zK14
theorem zKa15 : ∀ m, m < 16 → zPm m := zstep zKa14 zK15
theorem zKa16 : ∀ m, m < 17 → zPm m := zstep zKa15 zK16
theorem zKa17 : ∀ m, m < 18 → zPm m := zstep zKa16 zK17
theorem zKa18 : ∀ m, m < 19 → zPm m := zstep zKa17 zK18
theorem zKa19 : ∀ m, m < 20 → zPm m := zstep zKa18 zK19
theorem zKa20 : ∀ m, m < 21 → zPm m := zstep zKa19 zK20
theorem zKa21 : ∀ m, m < 22 → zPm m := zstep zKa20 zK21
theorem zKa22 : ∀ m, m < 23 → zPm m := zstep zKa21 zK22
theorem zKa23 : ∀ m, m < 24 → zPm m := zstep zKa22 zK23
theorem zKa24 : ∀ m, m < 25 → zPm m := zstep zKa23 zK24
theorem zKa25 : ∀ m, m < 26 → zPm m := zstep zKa24 zK25
theorem zKa26 : ∀ m, m < 27 → zPm m := zstep zKa25 zK26
theorem zKa27 : ∀ m, m < 28 → zPm m := zstep zKa26 zK27
theorem zKa28 : ∀ m, m < 29 → zPm m := zstep zKa27 zK28
theorem zKa29 : ∀ m, m < 30 → zPm m := zstep zKa28 zK29
theorem zKa30 : ∀ m, m < 31 → zPm m := zstep zKa29 zK30
theorem zKa31 : ∀ m, m < 32 → zPm m := zstep zKa30 zK31
theorem zKa32 : ∀ m, m < 33 → zPm m := zstep zKa31 zK32
theorem zKa33 : ∀ m, m < 34 → zPm m := zstep zKa32 zK33
theorem zKa34 : ∀ m, m < 35 → zPm m := zstep zKa33 zK34
theorem zKa35 : ∀ m, m < 36 → zPm m := zstep zKa34 zK35
theorem zKa36 : ∀ m, m < 37 → zPm m := zstep zKa35 zK36
theorem zKa37 : ∀ m, m < 38 → zPm m := zstep zKa36 zK37
theorem zKa38 : ∀ m, m < 39 → zPm m := zstep zKa37 zK38
theorem zKa39 : ∀ m, m < 40 → zPm m := zstep zKa38 zK39
theorem zKa40 : ∀ m, m < 41 → zPm m := zstep zKa39 zK40
theorem zKa41 : ∀ m, m < 42 → zPm m := zstep zKa40 zK41
theorem zKa42 : ∀ m, m < 43 → zPm m := zstep zKa41 zK42
theorem zKa43 : ∀ m, m < 44 → zPm m := zstep zKa42 zK43
theorem zKa44 : ∀ m, m < 45 → zPm m := zstep zKa43 zK44
theorem zKa45 : ∀ m, m < 46 → zPm m := zstep zKa44 zK45
theorem zKa46 : ∀ m, m < 47 → zPm m := zstep zKa45 zK46
theorem zKa47 : ∀ m, m < 48 → zPm m := zstep zKa46 zK47
theorem zKa48 : ∀ m, m < 49 → zPm m := zstep zKa47 zK48
theorem zKa49 : ∀ m, m < 50 → zPm m := zstep zKa48 zK49
theorem zKa50 : ∀ m, m < 51 → zPm m := zstep zKa49 zK50
theorem zKa51 : ∀ m, m < 52 → zPm m := zstep zKa50 zK51
theorem zKa52 : ∀ m, m < 53 → zPm m := zstep zKa51 zK52
theorem zKa53 : ∀ m, m < 54 → zPm m := zstep zKa52 zK53
theorem zKa54 : ∀ m, m < 55 → zPm m := zstep zKa53 zK54
theorem zKa55 : ∀ m, m < 56 → zPm m := zstep zKa54 zK55
theorem zKa56 : ∀ m, m < 57 → zPm m := zstep zKa55 zK56
theorem zKa57 : ∀ m, m < 58 → zPm m := zstep zKa56 zK57
theorem zKa58 : ∀ m, m < 59 → zPm m := zstep zKa57 zK58
theorem zKa59 : ∀ m, m < 60 → zPm m := zstep zKa58 zK59
theorem zKa60 : ∀ m, m < 61 → zPm m := zstep zKa59 zK60
theorem zKa61 : ∀ m, m < 62 → zPm m := zstep zKa60 zK61
theorem zKa62 : ∀ m, m < 63 → zPm m := zstep zKa61 zK62
theorem zKa63 : ∀ m, m < 64 → zPm m := zstep zKa62 zK63
theorem zKa64 : ∀ m, m < 65 → zPm m := zstep zKa63 zK64
theorem zKa65 : ∀ m, m < 66 → zPm m := zstep zKa64 zK65
theorem zKa66 : ∀ m, m < 67 → zPm m := zstep zKa65 zK66
theorem zKa67 : ∀ m, m < 68 → zPm m := zstep zKa66 zK67
theorem zKa68 : ∀ m, m < 69 → zPm m := zstep zKa67 zK68
theorem zKa69 : ∀ m, m < 70 → zPm m := zstep zKa68 zK69
theorem zKa70 : ∀ m, m < 71 → zPm m := zstep zKa69 zK70
theorem zKa71 : ∀ m, m < 72 → zPm m := zstep zKa70 zK71
theorem zKa72 : ∀ m, m < 73 → zPm m := zstep zKa71 zK72
theorem zKa73 : ∀ m, m < 74 → zPm m := zstep zKa72 zK73
theorem zKa74 : ∀ m, m < 75 → zPm m := zstep zKa73 zK74
theorem zKa75 : ∀ m, m < 76 → zPm m := zstep zKa74 zK75
theorem zKa76 : ∀ m, m < 77 → zPm m := zstep zKa75 zK76
theorem zKa77 : ∀ m, m < 78 → zPm m := zstep zKa76 zK77
theorem zKa78 : ∀ m, m < 79 → zPm m := zstep zKa77 zK78
theorem zKa79 : ∀ m, m < 80 → zPm m := zstep zKa78 zK79
theorem zKa80 : ∀ m, m < 81 → zPm m := zstep zKa79 zK80
theorem zKa81 : ∀ m, m < 82 → zPm m := zstep zKa80 zK81
theorem zKa82 : ∀ m, m < 83 → zPm m := zstep zKa81 zK82
theorem zKa83 : ∀ m, m < 84 → zPm m := zstep zKa82 zK83
theorem zKa84 : ∀ m, m < 85 → zPm m := zstep zKa83 zK84
theorem zKa85 : ∀ m, m < 86 → zPm m := zstep zKa84 zK85
theorem zKa86 : ∀ m, m < 87 → zPm m := zstep zKa85 zK86
theorem zKa87 : ∀ m, m < 88 → zPm m := zstep zKa86 zK87
theorem zKa88 : ∀ m, m < 89 → zPm m := zstep zKa87 zK88
theorem zKa89 : ∀ m, m < 90 → zPm m := zstep zKa88 zK89
theorem zKa90 : ∀ m, m < 91 → zPm m := zstep zKa89 zK90
theorem zKa91 : ∀ m, m < 92 → zPm m := zstep zKa90 zK91
theorem zKa92 : ∀ m, m < 93 → zPm m := zstep zKa91 zK92
theorem zKa93 : ∀ m, m < 94 → zPm m := zstep zKa92 zK93
theorem zKa94 : ∀ m, m < 95 → zPm m := zstep zKa93 zK94
theorem zKa95 : ∀ m, m < 96 → zPm m := zstep zKa94 zK95
theorem zKa96 : ∀ m, m < 97 → zPm m := zstep zKa95 zK96
theorem zKa97 : ∀ m, m < 98 → zPm m := zstep zKa96 zK97
theorem zKa98 : ∀ m, m < 99 → zPm m := zstep zKa97 zK98
theorem zKa99 : ∀ m, m < 100 → zPm m := zstep zKa98 zK99
theorem zKa100 : ∀ m, m < 101 → zPm m := zstep zKa99 zK100
theorem zKa101 : ∀ m, m < 102 → zPm m := zstep zKa100 zK101
theorem zKa102 : ∀ m, m < 103 → zPm m := zstep zKa101 zK102
theorem zKa103 : ∀ m, m < 104 → zPm m := zstep zKa102 zK103
theorem zKa104 : ∀ m, m < 105 → zPm m := zstep zKa103 zK104
theorem zKa105 : ∀ m, m < 106 → zPm m := zstep zKa104 zK105
theorem zKa106 : ∀ m, m < 107 → zPm m := zstep zKa105 zK106
theorem zKa107 : ∀ m, m < 108 → zPm m := zstep zKa106 zK107
theorem zKa108 : ∀ m, m < 109 → zPm m := zstep zKa107 zK108
theorem zKa109 : ∀ m, m < 110 → zPm m := zstep zKa108 zK109
theorem zKa110 : ∀ m, m < 111 → zPm m := zstep zKa109 zK110
theorem zKa111 : ∀ m, m < 112 → zPm m := zstep zKa110 zK111
theorem zKa112 : ∀ m, m < 113 → zPm m := zstep zKa111 zK112
theorem zKa113 : ∀ m, m < 114 → zPm m := zstep zKa112 zK113
theorem zKa114 : ∀ m, m < 115 → zPm m := zstep zKa113 zK114
theorem zKa115 : ∀ m, m < 116 → zPm m := zstep zKa114 zK115
theorem zKa116 : ∀ m, m < 117 → zPm m := zstep zKa115 zK116
theorem zKa117 : ∀ m, m < 118 → zPm m := zstep zKa116 zK117
theorem zKa118 : ∀ m, m < 119 → zPm m := zstep zKa117 zK118
theorem zKa119 : ∀ m, m < 120 → zPm m := zstep zKa118 zK119
theorem zKa120 : ∀ m, m < 121 → zPm m := zstep zKa119 zK120
theorem zKa121 : ∀ m, m < 122 → zPm m := zstep zKa120 zK121
theorem zKa122 : ∀ m, m < 123 → zPm m := zstep zKa121 zK122
theorem zKa123 : ∀ m, m < 124 → zPm m := zstep zKa122 zK123
theorem zKa124 : ∀ m, m < 125 → zPm m := zstep zKa123 zK124
theorem zKa125 : ∀ m, m < 126 → zPm m := zstep zKa124 zK125
theorem zKa126 : ∀ m, m < 127 → zPm m := zstep zKa125 zK126
theorem zKa127 : ∀ m, m < 128 → zPm m := zstep zKa126 zK127
theorem zKa128 : ∀ m, m < 129 → zPm m := zstep zKa127 zK128
theorem zKa129 : ∀ m, m < 130 → zPm m := zstep zKa128 zK129
theorem zKa130 : ∀ m, m < 131 → zPm m := zstep zKa129 zK130
theorem zKa131 : ∀ m, m < 132 → zPm m := zstep zKa130 zK131
theorem zKa132 : ∀ m, m < 133 → zPm m := zstep zKa131 zK132
theorem zKa133 : ∀ m, m < 134 → zPm m := zstep zKa132 zK133
theorem zKa134 : ∀ m, m < 135 → zPm m := zstep zKa133 zK134
theorem zKa135 : ∀ m, m < 136 → zPm m := zstep zKa134 zK135
theorem zKa136 : ∀ m, m < 137 → zPm m := zstep zKa135 zK136
theorem zKa137 : ∀ m, m < 138 → zPm m := zstep zKa136 zK137
theorem zKa138 : ∀ m, m < 139 → zPm m := zstep zKa137 zK138
theorem zKa139 : ∀ m, m < 140 → zPm m := zstep zKa138 zK139
theorem zKa140 : ∀ m, m < 141 → zPm m := zstep zKa139 zK140
theorem zKa141 : ∀ m, m < 142 → zPm m := zstep zKa140 zK141
theorem zKa142 : ∀ m, m < 143 → zPm m := zstep zKa141 zK142
theorem zKa143 : ∀ m, m < 144 → zPm m := zstep zKa142 zK143
theorem zKa144 : ∀ m, m < 145 → zPm m := zstep zKa143 zK144
theorem zKa145 : ∀ m, m < 146 → zPm m := zstep zKa144 zK145
theorem zKa146 : ∀ m, m < 147 → zPm m := zstep zKa145 zK146
theorem zKa147 : ∀ m, m < 148 → zPm m := zstep zKa146 zK147
theorem zKa148 : ∀ m, m < 149 → zPm m := zstep zKa147 zK148
theorem zKa149 : ∀ m, m < 150 → zPm m := zstep zKa148 zK149
theorem zKa150 : ∀ m, m < 151 → zPm m := zstep zKa149 zK150
theorem zKa151 : ∀ m, m < 152 → zPm m := zstep zKa150 zK151
theorem zKa152 : ∀ m, m < 153 → zPm m := zstep zKa151 zK152
theorem zKa153 : ∀ m, m < 154 → zPm m := zstep zKa152 zK153
theorem zKa154 : ∀ m, m < 155 → zPm m := zstep zKa153 zK154
theorem zKa155 : ∀ m, m < 156 → zPm m := zstep zKa154 zK155
theorem zKa156 : ∀ m, m < 157 → zPm m := zstep zKa155 zK156
theorem zKa157 : ∀ m, m < 158 → zPm m := zstep zKa156 zK157
theorem zKa158 : ∀ m, m < 159 → zPm m := zstep zKa157 zK158
theorem zKa159 : ∀ m, m < 160 → zPm m := zstep zKa158 zK159
theorem zKa160 : ∀ m, m < 161 → zPm m := zstep zKa159 zK160
theorem zKa161 : ∀ m, m < 162 → zPm m := zstep zKa160 zK161
theorem zKa162 : ∀ m, m < 163 → zPm m := zstep zKa161 zK162
theorem zKa163 : ∀ m, m < 164 → zPm m := zstep zKa162 zK163
theorem zKa164 : ∀ m, m < 165 → zPm m := zstep zKa163 zK164
theorem zKa165 : ∀ m, m < 166 → zPm m := zstep zKa164 zK165
theorem zKa166 : ∀ m, m < 167 → zPm m := zstep zKa165 zK166
theorem zKa167 : ∀ m, m < 168 → zPm m := zstep zKa166 zK167
theorem zKa168 : ∀ m, m < 169 → zPm m := zstep zKa167 zK168
theorem zKa169 : ∀ m, m < 170 → zPm m := zstep zKa168 zK169
theorem zKa170 : ∀ m, m < 171 → zPm m := zstep zKa169 zK170
theorem zKa171 : ∀ m, m < 172 → zPm m := zstep zKa170 zK171
theorem zKa172 : ∀ m, m < 173 → zPm m := zstep zKa171 zK172
theorem zKa173 : ∀ m, m < 174 → zPm m := zstep zKa172 zK173
theorem zKa174 : ∀ m, m < 175 → zPm m := zstep zKa173 zK174
theorem zKa175 : ∀ m, m < 176 → zPm m := zstep zKa174 zK175
theorem zKa176 : ∀ m, m < 177 → zPm m := zstep zKa175 zK176
theorem zKa177 : ∀ m, m < 178 → zPm m := zstep zKa176 zK177
theorem zKa178 : ∀ m, m < 179 → zPm m := zstep zKa177 zK178
theorem zKa179 : ∀ m, m < 180 → zPm m := zstep zKa178 zK179
theorem zKa180 : ∀ m, m < 181 → zPm m := zstep zKa179 zK180
theorem zKa181 : ∀ m, m < 182 → zPm m := zstep zKa180 zK181
theorem zKa182 : ∀ m, m < 183 → zPm m := zstep zKa181 zK182
theorem zKa183 : ∀ m, m < 184 → zPm m := zstep zKa182 zK183
theorem zKa184 : ∀ m, m < 185 → zPm m := zstep zKa183 zK184
theorem zKa185 : ∀ m, m < 186 → zPm m := zstep zKa184 zK185
theorem zKa186 : ∀ m, m < 187 → zPm m := zstep zKa185 zK186
theorem zKa187 : ∀ m, m < 188 → zPm m := zstep zKa186 zK187
theorem zKa188 : ∀ m, m < 189 → zPm m := zstep zKa187 zK188
theorem zKa189 : ∀ m, m < 190 → zPm m := zstep zKa188 zK189
theorem zKa190 : ∀ m, m < 191 → zPm m := zstep zKa189 zK190
theorem zKa191 : ∀ m, m < 192 → zPm m := zstep zKa190 zK191
theorem zKa192 : ∀ m, m < 193 → zPm m := zstep zKa191 zK192
theorem zKa193 : ∀ m, m < 194 → zPm m := zstep zKa192 zK193
theorem zKa194 : ∀ m, m < 195 → zPm m := zstep zKa193 zK194
theorem zKa195 : ∀ m, m < 196 → zPm m := zstep zKa194 zK195
theorem zKa196 : ∀ m, m < 197 → zPm m := zstep zKa195 zK196
theorem zKa197 : ∀ m, m < 198 → zPm m := zstep zKa196 zK197
theorem zKa198 : ∀ m, m < 199 → zPm m := zstep zKa197 zK198
theorem zKa199 : ∀ m, m < 200 → zPm m := zstep zKa198 zK199
theorem zKa200 : ∀ m, m < 201 → zPm m := zstep zKa199 zK200
theorem zKa201 : ∀ m, m < 202 → zPm m := zstep zKa200 zK201
theorem zKa202 : ∀ m, m < 203 → zPm m := zstep zKa201 zK202
theorem zKa203 : ∀ m, m < 204 → zPm m := zstep zKa202 zK203
theorem zKa204 : ∀ m, m < 205 → zPm m := zstep zKa203 zK204
theorem zKa205 : ∀ m, m < 206 → zPm m := zstep zKa204 zK205
theorem zKa206 : ∀ m, m < 207 → zPm m := zstep zKa205 zK206
theorem zKa207 : ∀ m, m < 208 → zPm m := zstep zKa206 zK207
theorem zKa208 : ∀ m, m < 209 → zPm m := zstep zKa207 zK208
theorem zKa209 : ∀ m, m < 210 → zPm m := zstep zKa208 zK209
theorem zKa210 : ∀ m, m < 211 → zPm m := zstep zKa209 zK210
theorem zKa211 : ∀ m, m < 212 → zPm m := zstep zKa210 zK211
theorem zKa212 : ∀ m, m < 213 → zPm m := zstep zKa211 zK212
theorem zKa213 : ∀ m, m < 214 → zPm m := zstep zKa212 zK213
theorem zKa214 : ∀ m, m < 215 → zPm m := zstep zKa213 zK214
theorem zKa215 : ∀ m, m < 216 → zPm m := zstep zKa214 zK215
theorem zKa216 : ∀ m, m < 217 → zPm m := zstep zKa215 zK216
theorem zKa217 : ∀ m, m < 218 → zPm m := zstep zKa216 zK217
theorem zKa218 : ∀ m, m < 219 → zPm m := zstep zKa217 zK218
theorem zKa219 : ∀ m, m < 220 → zPm m := zstep zKa218 zK219
theorem zKa220 : ∀ m, m < 221 → zPm m := zstep zKa219 zK220
theorem zKa221 : ∀ m, m < 222 → zPm m := zstep zKa220 zK221
theorem zKa222 : ∀ m, m < 223 → zPm m := zstep zKa221 zK222
theorem zKa223 : ∀ m, m < 224 → zPm m := zstep zKa222 zK223
theorem zKa224 : ∀ m, m < 225 → zPm m := zstep zKa223 zK224
theorem zKa225 : ∀ m, m < 226 → zPm m := zstep zKa224 zK225
theorem zKa226 : ∀ m, m < 227 → zPm m := zstep zKa225 zK226
theorem zKa227 : ∀ m, m < 228 → zPm m := zstep zKa226 zK227
theorem zKa228 : ∀ m, m < 229 → zPm m := zstep zKa227 zK228
theorem zKa229 : ∀ m, m < 230 → zPm m := zstep zKa228 zK229
theorem zKa230 : ∀ m, m < 231 → zPm m := zstep zKa229 zK230
theorem zKa231 : ∀ m, m < 232 → zPm m := zstep zKa230 zK231
theorem zKa232 : ∀ m, m < 233 → zPm m := zstep zKa231 zK232
theorem zKa233 : ∀ m, m < 234 → zPm m := zstep zKa232 zK233
theorem zKa234 : ∀ m, m < 235 → zPm m := zstep zKa233 zK234
theorem zKa235 : ∀ m, m < 236 → zPm m := zstep zKa234 zK235
theorem zKa236 : ∀ m, m < 237 → zPm m := zstep zKa235 zK236
theorem zKa237 : ∀ m, m < 238 → zPm m := zstep zKa236 zK237
theorem zKa238 : ∀ m, m < 239 → zPm m := zstep zKa237 zK238
theorem zKa239 : ∀ m, m < 240 → zPm m := zstep zKa238 zK239
theorem zKa240 : ∀ m, m < 241 → zPm m := zstep zKa239 zK240
theorem zKa241 : ∀ m, m < 242 → zPm m := zstep zKa240 zK241
theorem zKa242 : ∀ m, m < 243 → zPm m := zstep zKa241 zK242
theorem zKa243 : ∀ m, m < 244 → zPm m := zstep zKa242 zK243
theorem zKa244 : ∀ m, m < 245 → zPm m := zstep zKa243 zK244
theorem zKa245 : ∀ m, m < 246 → zPm m := zstep zKa244 zK245
theorem zKa246 : ∀ m, m < 247 → zPm m := zstep zKa245 zK246
theorem zKa247 : ∀ m, m < 248 → zPm m := zstep zKa246 zK247
theorem zKa248 : ∀ m, m < 249 → zPm m := zstep zKa247 zK248
theorem zKa249 : ∀ m, m < 250 → zPm m := zstep zKa248 zK249
theorem zKa250 : ∀ m, m < 251 → zPm m := zstep zKa249 zK250
theorem zKa251 : ∀ m, m < 252 → zPm m := zstep zKa250 zK251
theorem zKa252 : ∀ m, m < 253 → zPm m := zstep zKa251 zK252
theorem zKa253 : ∀ m, m < 254 → zPm m := zstep zKa252 zK253
theorem zKa254 : ∀ m, m < 255 → zPm m := zstep zKa253 zK254
theorem zKa255 : ∀ m, m < 256 → zPm m := zstep zKa254 zK255
theorem zKa256 : ∀ m, m < 257 → zPm m := zstep zKa255 zK256
theorem zKa257 : ∀ m, m < 258 → zPm m := zstep zKa256 zK257
theorem zKa258 : ∀ m, m < 259 → zPm m := zstep zKa257 zK258
theorem zKa259 : ∀ m, m < 260 → zPm m := zstep zKa258 zK259
theorem zKa260 : ∀ m, m < 261 → zPm m := zstep zKa259 zK260
theorem zKa261 : ∀ m, m < 262 → zPm m := zstep zKa260 zK261
theorem zKa262 : ∀ m, m < 263 → zPm m := zstep zKa261 zK262
theorem zKa263 : ∀ m, m < 264 → zPm m := zstep zKa262 zK263
theorem zKa264 : ∀ m, m < 265 → zPm m := zstep zKa263 zK264
theorem zKa265 : ∀ m, m < 266 → zPm m := zstep zKa264 zK265
theorem zKa266 : ∀ m, m < 267 → zPm m := zstep zKa265 zK266
theorem zKa267 : ∀ m, m < 268 → zPm m := zstep zKa266 zK267
theorem zKa268 : ∀ m, m < 269 → zPm m := zstep zKa267 zK268
theorem zKa269 : ∀ m, m < 270 → zPm m := zstep zKa268 zK269
theorem zKa270 : ∀ m, m < 271 → zPm m := zstep zKa269 zK270
theorem zKa271 : ∀ m, m < 272 → zPm m := zstep zKa270 zK271
theorem zKa272 : ∀ m, m < 273 → zPm m := zstep zKa271 zK272
theorem zKa273 : ∀ m, m < 274 → zPm m := zstep zKa272 zK273
theorem zKa274 : ∀ m, m < 275 → zPm m := zstep zKa273 zK274
theorem zKa275 : ∀ m, m < 276 → zPm m := zstep zKa274 zK275
theorem zKa276 : ∀ m, m < 277 → zPm m := zstep zKa275 zK276
theorem zKa277 : ∀ m, m < 278 → zPm m := zstep zKa276 zK277
theorem zKa278 : ∀ m, m < 279 → zPm m := zstep zKa277 zK278
theorem zKa279 : ∀ m, m < 280 → zPm m := zstep zKa278 zK279
theorem zKa280 : ∀ m, m < 281 → zPm m := zstep zKa279 zK280
theorem zKa281 : ∀ m, m < 282 → zPm m := zstep zKa280 zK281
theorem zKa282 : ∀ m, m < 283 → zPm m := zstep zKa281 zK282
theorem zKa283 : ∀ m, m < 284 → zPm m := zstep zKa282 zK283
theorem zKa284 : ∀ m, m < 285 → zPm m := zstep zKa283 zK284
theorem zKa285 : ∀ m, m < 286 → zPm m := zstep zKa284 zK285
theorem zKa286 : ∀ m, m < 287 → zPm m := zstep zKa285 zK286
theorem zKa287 : ∀ m, m < 288 → zPm m := zstep zKa286 zK287
theorem zKa288 : ∀ m, m < 289 → zPm m := zstep zKa287 zK288
theorem zKa289 : ∀ m, m < 290 → zPm m := zstep zKa288 zK289
theorem zKa290 : ∀ m, m < 291 → zPm m := zstep zKa289 zK290
theorem zKa291 : ∀ m, m < 292 → zPm m := zstep zKa290 zK291
theorem zKa292 : ∀ m, m < 293 → zPm m := zstep zKa291 zK292
theorem zKa293 : ∀ m, m < 294 → zPm m := zstep zKa292 zK293
theorem zKa294 : ∀ m, m < 295 → zPm m := zstep zKa293 zK294
theorem zKa295 : ∀ m, m < 296 → zPm m := zstep zKa294 zK295
theorem zKa296 : ∀ m, m < 297 → zPm m := zstep zKa295 zK296
theorem zKa297 : ∀ m, m < 298 → zPm m := zstep zKa296 zK297
theorem zKa298 : ∀ m, m < 299 → zPm m := zstep zKa297 zK298
theorem zKa299 : ∀ m, m < 300 → zPm m := zstep zKa298 zK299
theorem zKa300 : ∀ m, m < 301 → zPm m := zstep zKa299 zK300
theorem zKa301 : ∀ m, m < 302 → zPm m := zstep zKa300 zK301
theorem zKa302 : ∀ m, m < 303 → zPm m := zstep zKa301 zK302
theorem zKa303 : ∀ m, m < 304 → zPm m := zstep zKa302 zK303
theorem zKa304 : ∀ m, m < 305 → zPm m := zstep zKa303 zK304
theorem zKa305 : ∀ m, m < 306 → zPm m := zstep zKa304 zK305
theorem zKa306 : ∀ m, m < 307 → zPm m := zstep zKa305 zK306
theorem zKa307 : ∀ m, m < 308 → zPm m := zstep zKa306 zK307
theorem zKa308 : ∀ m, m < 309 → zPm m := zstep zKa307 zK308
theorem zKa309 : ∀ m, m < 310 → zPm m := zstep zKa308 zK309
theorem zKa310 : ∀ m, m < 311 → zPm m := zstep zKa309 zK310
theorem zKa311 : ∀ m, m < 312 → zPm m := zstep zKa310 zK311
theorem zKa312 : ∀ m, m < 313 → zPm m := zstep zKa311 zK312
theorem zKa313 : ∀ m, m < 314 → zPm m := zstep zKa312 zK313
theorem zKa314 : ∀ m, m < 315 → zPm m := zstep zKa313 zK314
theorem zKa315 : ∀ m, m < 316 → zPm m := zstep zKa314 zK315
theorem zKa316 : ∀ m, m < 317 → zPm m := zstep zKa315 zK316
theorem zKa317 : ∀ m, m < 318 → zPm m := zstep zKa316 zK317
theorem zKa318 : ∀ m, m < 319 → zPm m := zstep zKa317 zK318
theorem zKa319 : ∀ m, m < 320 → zPm m := zstep zKa318 zK319
theorem zKa320 : ∀ m, m < 321 → zPm m := zstep zKa319 zK320
theorem zKa321 : ∀ m, m < 322 → zPm m := zstep zKa320 zK321
theorem zKa322 : ∀ m, m < 323 → zPm m := zstep zKa321 zK322
theorem zKall (m : Nat) : zPm m := by
  by_cases h : m < 323
  · exact zKa322 m h
  · have e : zat2 [] (m % 18) (zat2 [] (m / 18) zcs) = [] := by
      by_cases h2 : m < 324
      · have : m = 323 := by omega
        subst this
        rfl
      · rw [zat2_ge [] zcs (m / 18) (by show 18 ≤ m / 18; omega)]
        cases m % 18 <;> rfl
    exact zPm_of (n := 0) (by rw [e]; rfl) rfl
