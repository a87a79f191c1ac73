/-! ===== every instruction of the tables is what its bytes say ===== -/
def zln : Instr → Nat
  | .iconst _ | .lconst _ | .aconst_null | .iload_n _ | .lload_n _ | .aload_n _ | .istore_n _ | .lstore_n _ | .astore_n _ => 1
  | .bipush _ | .ldc _ | .iload _ | .lload _ | .aload _ | .istore _ | .lstore _ | .astore _ | .newarray _ => 2
  | .sipush _ | .ldc_w _ | .ldc2_w _ | .getstatic _ | .iinc _ _ | .ifCond _ _ | .if_icmp _ _ | .goto _ | .ifnull _ | .ifnonnull _ | .getfield _ | .putfield _ | .invokevirtual _ | .invokestatic _ | .invokespecial _ | .new _ | .anewarray _ => 3
  | _ => 1
def zac : ArrayType → Nat
  | .int => 1
  | .byte => 2
  | .short => 3
  | .boolean => 4
  | .long => 5
  | _ => 0
/-- a number of an int's width -/
def zi32 (v : Int) : Bool := decide (-2147483648 ≤ v) && decide (v < 2147483648)
noncomputable def zchk (c ml : Nat) (ret : Option FieldType) (pc : Nat) (E : zE) : Bool :=
  match E with
  | (I, nx, (a, d, g), z, w, sw) =>
  match I with
  | .iconst v => decide (Int32.ofInt v = z)
  | .bipush v => decide ((Int8.ofInt v).toInt32 = z)
  | .sipush v => decide ((Int16.ofInt v).toInt32 = z)
  | .ldc i => (Nat.beq a 1 && (Nat.beq c 7 && Nat.beq i 63)) || (Nat.beq a 0 && decide ((c, i, z) ∈ zKi))
  | .ldc_w i => decide ((c, i, z) ∈ zKi)
  | .getstatic i => decide ((c, i) ∈ zGl) && decide (z = 1)
  | .lconst k => decide (Int64.ofNat (k : Nat) = w)
  | .ldc2_w i => decide ((c, i, w) ∈ zKl)
  | .iload i | .lload i | .aload i => Nat.beq i a
  | .iload_n i | .lload_n i | .aload_n i => Nat.beq i.val a
  | .istore i | .astore i => Nat.beq i a && decide (a < ml)
  | .istore_n i | .astore_n i => Nat.beq i.val a && decide (a < ml)
  | .lstore i => Nat.beq i a && decide (a + 1 < ml)
  | .lstore_n i => Nat.beq i.val a && decide (a + 1 < ml)
  | .iinc i v => Nat.beq i a && (decide (Int32.ofInt v = z) && decide (a < ml))
  | .ifCond _ off | .if_icmp _ off | .goto off | .ifnull off | .ifnonnull off => decide ((pc : Int) + off = (a : Int))
  | .tableswitch df lo hi offs => decide ((pc : Int) + df = (a : Int)) && (decide (sw = (List.range offs.size).map (fun (i : Nat) => (Int32.ofInt (lo + (i : Int)), ((pc : Int) + offs.getD i 0).toNat))) && ((List.range offs.size).all (fun (i : Nat) => decide (0 ≤ (pc : Int) + offs.getD i 0)) && (decide (hi + 1 = lo + offs.size) && (zi32 lo && zi32 hi))))
  | .lookupswitch df ps => decide ((pc : Int) + df = (a : Int)) && (decide (sw = ps.toList.map (fun q => (Int32.ofInt q.1, ((pc : Int) + q.2).toNat))) && (ps.toList.all (fun q => decide (0 ≤ (pc : Int) + q.2) && zi32 q.1) && (ps.toList.zip (ps.toList.drop 1)).all (fun (a, next) => a.1 < next.1)))
  | .getfield i => (zat2 [] c zFc).any (fun e => Nat.beq e.1 i && (Nat.beq e.2.1 a && (Nat.beq e.2.2.1 d && Nat.beq e.2.2.2.1 g)))
  | .putfield i => Nat.ble a 13 && (zat2 [] c zFc).any (fun e => Nat.beq e.1 i && (Nat.beq e.2.1 a && (Nat.beq e.2.2.1 d && (Nat.beq e.2.2.2.1 g && (Nat.beq e.2.2.2.2 0 || Nat.ble g 2)))))
  | .ireturn => (Nat.beq g 0 && decide (ret = some .int)) || ((Nat.beq g 1 && decide (ret = some .boolean)) || (Nat.beq g 2 && decide (ret = some .byte)))
  | .lreturn => decide (ret = some .long)
  | .areturn => (match ret with
    | some (.object _) => true
    | _ => false)
  | .return_ => decide (ret = none)
  | .invokevirtual i => decide (a ≠ 0) && (decide (g ≠ 0) && (Nat.beq d (znp a + 1) && (decide ((zyn a).name ≠ "<init>") && (zat2 [] c zLc).any (fun e => Nat.beq e.1 i && (Nat.beq e.2.1 a && Nat.beq e.2.2.1 g)))))
  | .invokestatic i => (Nat.beq a 0 && decide ((c, i, d) ∈ zXl)) || (decide (a ≠ 0) && (Nat.beq g 0 && (Nat.beq d (znp a) && (zat2 [] c zLc).any (fun e => Nat.beq e.1 i && (Nat.beq e.2.1 a && Nat.beq e.2.2.1 g)))))
  | .invokespecial i => (Nat.beq a 0 && decide ((c, i) ∈ zOl)) || (decide (a ≠ 0) && (decide (g ≠ 0) && (Nat.beq d (znp a + 1) && (decide ((zyn a).name = "<init>") && (decide (zre1 a = none) && (zat2 [] c zLc).any (fun e => Nat.beq e.1 i && (Nat.beq e.2.1 a && Nat.beq e.2.2.1 g)))))))
  | .new i => decide ((c, i, a) ∈ zNl)
  | .newarray t => Nat.beq (zac t) a && decide (a ≠ 0)
  | .anewarray i => decide ((c, i, a) ∈ zNl)
  | _ => true
def zsws : Instr → Bool
  | .tableswitch _ _ _ _ => true
  | .lookupswitch _ _ => true
  | _ => false
noncomputable def zdk (m pc : Nat) (E : zE) : Bool := decide (decode (zby m) pc = .ok (E.1, E.2.1 - pc)) && (decide (pc ≤ E.2.1) && ((zsws E.1 || Nat.beq (E.2.1 - pc) (zln E.1)) && zchk (zcm m) (zml m) (zre1 m) pc E))
noncomputable def zda (m pc : Nat) : Bool := match zins m pc with
  | none => true
  | some E => zdk m pc E.1
def zPm (m : Nat) : Prop := ∀ pc, zda m pc = true
theorem zPm_of {m n : Nat} (h1 : (zat2 [] (m % 18) (zat2 [] (m / 18) zcs)).length = n) (h2 : (List.range (24 * n)).all (fun pc => zda m pc) = true) : zPm m := by
  intro pc
  by_cases h : pc < 24 * n
  · exact List.all_eq_true.mp h2 pc (List.mem_range.mpr h)
  · unfold zda zins
    rw [zat2_ge [] (zat2 [] (m % 18) (zat2 [] (m / 18) zcs)) (pc / 24) (by rw [h1]; omega)]
    cases pc % 24 <;> rfl
theorem zPm_of2 {m n : Nat} (h1 : (zat2 [] (m % 18) (zat2 [] (m / 18) zcs)).length = n) (h2 : ∀ pc, pc < 24 * n → zda m pc = true) : zPm m := by
  refine zPm_of h1 (List.all_eq_true.mpr fun pc h => h2 pc (List.mem_range.mp h))
theorem zrg {m : Nat} (a k : Nat) (h : (List.range k).all (fun i => zda m (a + i)) = true) {b : Nat} (hb : ∀ pc, pc < a → zda m pc = true) (e : a + k = b) : ∀ pc, pc < b → zda m pc = true := by
  intro pc hp
  by_cases q : pc < a
  · exact hb pc q
  · have := List.all_eq_true.mp h (pc - a) (List.mem_range.mpr (by omega))
    rwa [show a + (pc - a) = pc by omega] at this
theorem zstep {P : Nat → Prop} {n : Nat} (h : ∀ m, m < n → P m) (h1 : P n) : ∀ m, m < n + 1 → P m := by
  intro m hm
  rcases Nat.lt_or_eq_of_le (Nat.le_of_lt_succ hm) with q | q
  · exact h m q
  · rw [q]; exact h1
set_option maxRecDepth 100000 in
theorem zK1 : zPm 1 := zPm_of (n := 1) (by decide +kernel) (by decide +kernel)
set_option maxRecDepth 100000 in
theorem zK9 : zPm 9 := zPm_of (n := 1) (by decide +kernel) (by decide +kernel)
set_option maxRecDepth 100000 in
theorem zK10 : zPm 10 := zPm_of (n := 1) (by decide +kernel) (by decide +kernel)
set_option maxRecDepth 100000 in
theorem zK11 : zPm 11 := zPm_of (n := 1) (by decide +kernel) (by decide +kernel)
set_option maxRecDepth 100000 in
theorem zK12 : zPm 12 := zPm_of (n := 2) (by decide +kernel) (by decide +kernel)
set_option maxRecDepth 100000 in
theorem zK14 : zPm 14 := zPm_of (n := 2) (by decide +kernel) (by decide +kernel)
set_option maxRecDepth 100000 in
theorem zK15 : zPm 15 := zPm_of (n := 3) (by decide +kernel) (by decide +kernel)
set_option maxRecDepth 100000 in
theorem zK19 : zPm 19 := zPm_of (n := 4) (by decide +kernel) (by decide +kernel)
set_option maxRecDepth 100000 in
theorem zK20 : zPm 20 := zPm_of (n := 2) (by decide +kernel) (by decide +kernel)
set_option maxRecDepth 100000 in
theorem zK21 : zPm 21 := zPm_of (n := 4) (by decide +kernel) (by decide +kernel)
set_option maxRecDepth 100000 in
theorem zK22 : zPm 22 := zPm_of (n := 2) (by decide +kernel) (by decide +kernel)
set_option maxRecDepth 100000 in
theorem zK23 : zPm 23 := zPm_of (n := 2) (by decide +kernel) (by decide +kernel)
set_option maxRecDepth 100000 in
theorem zK24 : zPm 24 := zPm_of (n := 2) (by decide +kernel) (by decide +kernel)
set_option maxRecDepth 100000 in
theorem zK25 : zPm 25 := zPm_of (n := 2) (by decide +kernel) (by decide +kernel)
set_option maxRecDepth 100000 in
theorem zK26 : zPm 26 := zPm_of (n := 2) (by decide +kernel) (by decide +kernel)
set_option maxRecDepth 100000 in
theorem zK27 : zPm 27 := zPm_of (n := 1) (by decide +kernel) (by decide +kernel)
set_option maxRecDepth 100000 in
theorem zK28 : zPm 28 := zPm_of (n := 6) (by decide +kernel) (by decide +kernel)
set_option maxRecDepth 100000 in
theorem zK29 : zPm 29 := zPm_of (n := 5) (by decide +kernel) (by decide +kernel)
set_option maxRecDepth 100000 in
theorem zK30 : zPm 30 := zPm_of (n := 4) (by decide +kernel) (by decide +kernel)
set_option maxRecDepth 100000 in
theorem zK31 : zPm 31 := zPm_of (n := 7) (by decide +kernel) (by decide +kernel)
set_option maxRecDepth 100000 in
theorem zK32 : zPm 32 := zPm_of (n := 3) (by decide +kernel) (by decide +kernel)
set_option maxRecDepth 100000 in
theorem zK33 : zPm 33 := zPm_of (n := 3) (by decide +kernel) (by decide +kernel)
set_option maxRecDepth 100000 in
theorem zK34 : zPm 34 := zPm_of (n := 9) (by decide +kernel) (by decide +kernel)
set_option maxRecDepth 100000 in
theorem zK36 : zPm 36 := zPm_of (n := 1) (by decide +kernel) (by decide +kernel)
set_option maxRecDepth 100000 in
theorem zK37 : zPm 37 := zPm_of (n := 1) (by decide +kernel) (by decide +kernel)
set_option maxRecDepth 100000 in
theorem zK38 : zPm 38 := zPm_of (n := 3) (by decide +kernel) (by decide +kernel)
set_option maxRecDepth 100000 in
theorem zK39 : zPm 39 := zPm_of (n := 2) (by decide +kernel) (by decide +kernel)
set_option maxRecDepth 100000 in
theorem zK40 : zPm 40 := zPm_of (n := 2) (by decide +kernel) (by decide +kernel)
set_option maxRecDepth 100000 in
theorem zK41 : zPm 41 := zPm_of (n := 2) (by decide +kernel) (by decide +kernel)
set_option maxRecDepth 100000 in
theorem zK42 : zPm 42 := zPm_of (n := 6) (by decide +kernel) (by decide +kernel)
set_option maxRecDepth 100000 in
theorem zK43 : zPm 43 := zPm_of (n := 3) (by decide +kernel) (by decide +kernel)
set_option maxRecDepth 100000 in
theorem zK44 : zPm 44 := zPm_of (n := 4) (by decide +kernel) (by decide +kernel)
set_option maxRecDepth 100000 in
theorem zK45 : zPm 45 := zPm_of (n := 6) (by decide +kernel) (by decide +kernel)
set_option maxRecDepth 100000 in
theorem zK46 : zPm 46 := zPm_of (n := 3) (by decide +kernel) (by decide +kernel)
set_option maxRecDepth 100000 in
theorem zK47 : zPm 47 := zPm_of (n := 3) (by decide +kernel) (by decide +kernel)
set_option maxRecDepth 100000 in
theorem zK48 : zPm 48 := zPm_of (n := 3) (by decide +kernel) (by decide +kernel)
set_option maxRecDepth 100000 in
theorem zK49 : zPm 49 := zPm_of (n := 4) (by decide +kernel) (by decide +kernel)
set_option maxRecDepth 100000 in
theorem zK50 : zPm 50 := zPm_of (n := 6) (by decide +kernel) (by decide +kernel)
set_option maxRecDepth 100000 in
theorem zK51 : zPm 51 := zPm_of (n := 4) (by decide +kernel) (by decide +kernel)
set_option maxRecDepth 100000 in
theorem zK52 : zPm 52 := zPm_of (n := 1) (by decide +kernel) (by decide +kernel)
set_option maxRecDepth 100000 in
theorem zK58 : zPm 58 := zPm_of (n := 8) (by decide +kernel) (by decide +kernel)
set_option maxRecDepth 100000 in
theorem zK59 : zPm 59 := zPm_of (n := 2) (by decide +kernel) (by decide +kernel)
set_option maxRecDepth 100000 in
theorem zK60 : zPm 60 := zPm_of (n := 5) (by decide +kernel) (by decide +kernel)
set_option maxRecDepth 100000 in
theorem zK61 : zPm 61 := zPm_of (n := 7) (by decide +kernel) (by decide +kernel)
set_option maxRecDepth 100000 in
theorem zK62 : zPm 62 := zPm_of (n := 1) (by decide +kernel) (by decide +kernel)
set_option maxRecDepth 100000 in
theorem zK64 : zPm 64 := zPm_of (n := 4) (by decide +kernel) (by decide +kernel)
set_option maxRecDepth 100000 in
theorem zK72 : zPm 72 := zPm_of (n := 1) (by decide +kernel) (by decide +kernel)
set_option maxRecDepth 100000 in
theorem zK74 : zPm 74 := zPm_of (n := 2) (by decide +kernel) (by decide +kernel)
set_option maxRecDepth 100000 in
theorem zK75 : zPm 75 := zPm_of (n := 4) (by decide +kernel) (by decide +kernel)
set_option maxRecDepth 100000 in
theorem zK76 : zPm 76 := zPm_of (n := 3) (by decide +kernel) (by decide +kernel)
set_option maxRecDepth 100000 in
theorem zK77 : zPm 77 := zPm_of (n := 5) (by decide +kernel) (by decide +kernel)
set_option maxRecDepth 100000 in
theorem zK78 : zPm 78 := zPm_of (n := 3) (by decide +kernel) (by decide +kernel)
set_option maxRecDepth 100000 in
theorem zK79 : zPm 79 := zPm_of (n := 4) (by decide +kernel) (by decide +kernel)
set_option maxRecDepth 100000 in
theorem zK80 : zPm 80 := zPm_of (n := 3) (by decide +kernel) (by decide +kernel)
set_option maxRecDepth 100000 in
theorem zK81 : zPm 81 := zPm_of (n := 1) (by decide +kernel) (by decide +kernel)
set_option maxRecDepth 100000 in
theorem zK82 : zPm 82 := zPm_of (n := 3) (by decide +kernel) (by decide +kernel)
set_option maxRecDepth 100000 in
theorem zK83 : zPm 83 := zPm_of (n := 3) (by decide +kernel) (by decide +kernel)
set_option maxRecDepth 100000 in
theorem zK84 : zPm 84 := zPm_of (n := 3) (by decide +kernel) (by decide +kernel)
set_option maxRecDepth 100000 in
theorem zK85 : zPm 85 := zPm_of (n := 5) (by decide +kernel) (by decide +kernel)
set_option maxRecDepth 100000 in
theorem zK86 : zPm 86 := zPm_of (n := 6) (by decide +kernel) (by decide +kernel)
set_option maxRecDepth 100000 in
theorem zK87 : zPm 87 := zPm_of (n := 2) (by decide +kernel) (by decide +kernel)
set_option maxRecDepth 100000 in
theorem zK88 : zPm 88 := zPm_of (n := 3) (by decide +kernel) (by decide +kernel)
set_option maxRecDepth 100000 in
theorem zK89 : zPm 89 := zPm_of (n := 2) (by decide +kernel) (by decide +kernel)
set_option maxRecDepth 100000 in
theorem zK90 : zPm 90 := zPm_of (n := 1) (by decide +kernel) (by decide +kernel)
set_option maxRecDepth 100000 in
theorem zK91 : zPm 91 := zPm_of (n := 6) (by decide +kernel) (by decide +kernel)
set_option maxRecDepth 100000 in
theorem zK92 : zPm 92 := zPm_of (n := 1) (by decide +kernel) (by decide +kernel)
set_option maxRecDepth 100000 in
theorem zK93 : zPm 93 := zPm_of (n := 1) (by decide +kernel) (by decide +kernel)
set_option maxRecDepth 100000 in
theorem zK100 : zPm 100 := zPm_of (n := 2) (by decide +kernel) (by decide +kernel)
set_option maxRecDepth 100000 in
theorem zK101 : zPm 101 := zPm_of (n := 1) (by decide +kernel) (by decide +kernel)
set_option maxRecDepth 100000 in
theorem zK103 : zPm 103 := zPm_of (n := 2) (by decide +kernel) (by decide +kernel)
set_option maxRecDepth 100000 in
theorem zK107 : zPm 107 := zPm_of (n := 2) (by decide +kernel) (by decide +kernel)
set_option maxRecDepth 100000 in
theorem zK108 : zPm 108 := zPm_of (n := 1) (by decide +kernel) (by decide +kernel)
set_option maxRecDepth 100000 in
theorem zK109 : zPm 109 := zPm_of (n := 1) (by decide +kernel) (by decide +kernel)
set_option maxRecDepth 100000 in
theorem zK110 : zPm 110 := zPm_of (n := 2) (by decide +kernel) (by decide +kernel)
set_option maxRecDepth 100000 in
theorem zK111 : zPm 111 := zPm_of (n := 1) (by decide +kernel) (by decide +kernel)
set_option maxRecDepth 100000 in
theorem zK112 : zPm 112 := zPm_of (n := 2) (by decide +kernel) (by decide +kernel)
set_option maxRecDepth 100000 in
theorem zK113 : zPm 113 := zPm_of (n := 2) (by decide +kernel) (by decide +kernel)
set_option maxRecDepth 100000 in
theorem zK114 : zPm 114 := zPm_of (n := 2) (by decide +kernel) (by decide +kernel)
set_option maxRecDepth 100000 in
theorem zK115 : zPm 115 := zPm_of (n := 2) (by decide +kernel) (by decide +kernel)
set_option maxRecDepth 100000 in
theorem zK116 : zPm 116 := zPm_of (n := 2) (by decide +kernel) (by decide +kernel)
set_option maxRecDepth 100000 in
theorem zK117 : zPm 117 := zPm_of (n := 2) (by decide +kernel) (by decide +kernel)
set_option maxRecDepth 100000 in
theorem zK118 : zPm 118 := zPm_of (n := 2) (by decide +kernel) (by decide +kernel)
set_option maxRecDepth 100000 in
theorem zK119 : zPm 119 := zPm_of (n := 7) (by decide +kernel) (by decide +kernel)
set_option maxRecDepth 100000 in
theorem zK120 : zPm 120 := zPm_of (n := 1) (by decide +kernel) (by decide +kernel)
set_option maxRecDepth 100000 in
theorem zK121 : zPm 121 := zPm_of (n := 1) (by decide +kernel) (by decide +kernel)
set_option maxRecDepth 100000 in
theorem zK122 : zPm 122 := zPm_of (n := 2) (by decide +kernel) (by decide +kernel)
set_option maxRecDepth 100000 in
theorem zK123 : zPm 123 := zPm_of (n := 2) (by decide +kernel) (by decide +kernel)
set_option maxRecDepth 100000 in
theorem zK124 : zPm 124 := zPm_of (n := 4) (by decide +kernel) (by decide +kernel)
set_option maxRecDepth 100000 in
theorem zK125 : zPm 125 := zPm_of (n := 5) (by decide +kernel) (by decide +kernel)
set_option maxRecDepth 100000 in
theorem zK126 : zPm 126 := zPm_of (n := 2) (by decide +kernel) (by decide +kernel)
set_option maxRecDepth 100000 in
theorem zK127 : zPm 127 := zPm_of (n := 2) (by decide +kernel) (by decide +kernel)
set_option maxRecDepth 100000 in
theorem zK128 : zPm 128 := zPm_of (n := 8) (by decide +kernel) (by decide +kernel)
set_option maxRecDepth 100000 in
theorem zK129 : zPm 129 := zPm_of (n := 10) (by decide +kernel) (by decide +kernel)
set_option maxRecDepth 100000 in
theorem zK130 : zPm 130 := zPm_of (n := 3) (by decide +kernel) (by decide +kernel)
set_option maxRecDepth 100000 in
theorem zK133 : zPm 133 := zPm_of (n := 2) (by decide +kernel) (by decide +kernel)
set_option maxRecDepth 100000 in
theorem zK134 : zPm 134 := zPm_of (n := 3) (by decide +kernel) (by decide +kernel)
set_option maxRecDepth 100000 in
theorem zK136 : zPm 136 := zPm_of (n := 5) (by decide +kernel) (by decide +kernel)
set_option maxRecDepth 100000 in
theorem zK137 : zPm 137 := zPm_of (n := 5) (by decide +kernel) (by decide +kernel)
set_option maxRecDepth 100000 in
theorem zK139 : zPm 139 := zPm_of (n := 2) (by decide +kernel) (by decide +kernel)
set_option maxRecDepth 100000 in
theorem zK140 : zPm 140 := zPm_of (n := 6) (by decide +kernel) (by decide +kernel)
set_option maxRecDepth 100000 in
theorem zK141 : zPm 141 := zPm_of (n := 2) (by decide +kernel) (by decide +kernel)
set_option maxRecDepth 100000 in
theorem zK157 : zPm 157 := zPm_of (n := 2) (by decide +kernel) (by decide +kernel)
set_option maxRecDepth 100000 in
theorem zK168 : zPm 168 := zPm_of (n := 4) (by decide +kernel) (by decide +kernel)
set_option maxRecDepth 100000 in
theorem zK169 : zPm 169 := zPm_of (n := 1) (by decide +kernel) (by decide +kernel)
set_option maxRecDepth 100000 in
theorem zK170 : zPm 170 := zPm_of (n := 1) (by decide +kernel) (by decide +kernel)
set_option maxRecDepth 100000 in
theorem zK171 : zPm 171 := zPm_of (n := 1) (by decide +kernel) (by decide +kernel)
set_option maxRecDepth 100000 in
theorem zK172 : zPm 172 := zPm_of (n := 3) (by decide +kernel) (by decide +kernel)
set_option maxRecDepth 100000 in
theorem zK173 : zPm 173 := zPm_of (n := 1) (by decide +kernel) (by decide +kernel)
set_option maxRecDepth 100000 in
theorem zK176 : zPm 176 := zPm_of (n := 2) (by decide +kernel) (by decide +kernel)
set_option maxRecDepth 100000 in
theorem zK181 : zPm 181 := zPm_of (n := 2) (by decide +kernel) (by decide +kernel)
set_option maxRecDepth 100000 in
theorem zK182 : zPm 182 := zPm_of (n := 2) (by decide +kernel) (by decide +kernel)
set_option maxRecDepth 100000 in
theorem zK186 : zPm 186 := zPm_of (n := 2) (by decide +kernel) (by decide +kernel)
set_option maxRecDepth 100000 in
theorem zK187 : zPm 187 := zPm_of (n := 2) (by decide +kernel) (by decide +kernel)
set_option maxRecDepth 100000 in
theorem zK315 : zPm 315 := zPm_of (n := 1) (by decide +kernel) (by decide +kernel)
set_option maxRecDepth 100000 in
theorem zK316 : zPm 316 := zPm_of (n := 1) (by decide +kernel) (by decide +kernel)
set_option maxRecDepth 100000 in
theorem zK317 : zPm 317 := zPm_of (n := 2) (by decide +kernel) (by decide +kernel)
set_option maxRecDepth 100000 in
theorem zK318 : zPm 318 := zPm_of (n := 1) (by decide +kernel) (by decide +kernel)
set_option maxRecDepth 100000 in
theorem zK319 : zPm 319 := zPm_of (n := 1) (by decide +kernel) (by decide +kernel)
set_option maxRecDepth 100000 in
theorem zK320 : zPm 320 := zPm_of (n := 1) (by decide +kernel) (by decide +kernel)
set_option maxRecDepth 100000 in
theorem zK321 : zPm 321 := zPm_of (n := 2) (by decide +kernel) (by decide +kernel)
set_option maxRecDepth 100000 in
theorem zK322 : zPm 322 := zPm_of (n := 2) (by decide +kernel) (by decide +kernel)
set_option maxRecDepth 100000 in
theorem zK324 : zPm 324 := zPm_of (n := 1) (by decide +kernel) (by decide +kernel)
set_option maxRecDepth 100000 in
theorem zK325 : zPm 325 := zPm_of (n := 4) (by decide +kernel) (by decide +kernel)
set_option maxRecDepth 100000 in
theorem zKr326_0 : (List.range 96).all (fun i => zda 326 (0 + i)) = true := by decide +kernel
set_option maxRecDepth 100000 in
theorem zKr326_1 : (List.range 96).all (fun i => zda 326 (96 + i)) = true := by decide +kernel
set_option maxRecDepth 100000 in
theorem zKr326_2 : (List.range 96).all (fun i => zda 326 (192 + i)) = true := by decide +kernel
set_option maxRecDepth 100000 in
theorem zKr326_3 : (List.range 96).all (fun i => zda 326 (288 + i)) = true := by decide +kernel
set_option maxRecDepth 100000 in
theorem zKr326_4 : (List.range 96).all (fun i => zda 326 (384 + i)) = true := by decide +kernel
set_option maxRecDepth 100000 in
theorem zKr326_5 : (List.range 96).all (fun i => zda 326 (480 + i)) = true := by decide +kernel
set_option maxRecDepth 100000 in
theorem zKr326_6 : (List.range 96).all (fun i => zda 326 (576 + i)) = true := by decide +kernel
set_option maxRecDepth 100000 in
theorem zKr326_7 : (List.range 96).all (fun i => zda 326 (672 + i)) = true := by decide +kernel
set_option maxRecDepth 100000 in
theorem zKr326_8 : (List.range 96).all (fun i => zda 326 (768 + i)) = true := by decide +kernel
set_option maxRecDepth 100000 in
theorem zKr326_9 : (List.range 96).all (fun i => zda 326 (864 + i)) = true := by decide +kernel
set_option maxRecDepth 100000 in
theorem zKr326_10 : (List.range 96).all (fun i => zda 326 (960 + i)) = true := by decide +kernel
set_option maxRecDepth 100000 in
theorem zKr326_11 : (List.range 96).all (fun i => zda 326 (1056 + i)) = true := by decide +kernel
theorem zK326 : zPm 326 := zPm_of2 (n := 48) (by decide +kernel) (zrg 1056 96 zKr326_11 (zrg 960 96 zKr326_10 (zrg 864 96 zKr326_9 (zrg 768 96 zKr326_8 (zrg 672 96 zKr326_7 (zrg 576 96 zKr326_6 (zrg 480 96 zKr326_5 (zrg 384 96 zKr326_4 (zrg 288 96 zKr326_3 (zrg 192 96 zKr326_2 (zrg 96 96 zKr326_1 (zrg 0 96 zKr326_0 (fun _ h => absurd h (Nat.not_lt_zero _)) (b := 96) rfl) (b := 192) rfl) (b := 288) rfl) (b := 384) rfl) (b := 480) rfl) (b := 576) rfl) (b := 672) rfl) (b := 768) rfl) (b := 864) rfl) (b := 960) rfl) (b := 1056) rfl) (b := 1152) rfl)
theorem zKrc : ∀ m ∈ zrc, zPm m := (List.forall_mem_cons.mpr ⟨zK1, (List.forall_mem_cons.mpr ⟨zK9, (List.forall_mem_cons.mpr ⟨zK10, (List.forall_mem_cons.mpr ⟨zK11, (List.forall_mem_cons.mpr ⟨zK12, (List.forall_mem_cons.mpr ⟨zK14, (List.forall_mem_cons.mpr ⟨zK15, (List.forall_mem_cons.mpr ⟨zK19, (List.forall_mem_cons.mpr ⟨zK20, (List.forall_mem_cons.mpr ⟨zK21, (List.forall_mem_cons.mpr ⟨zK22, (List.forall_mem_cons.mpr ⟨zK23, (List.forall_mem_cons.mpr ⟨zK24, (List.forall_mem_cons.mpr ⟨zK25, (List.forall_mem_cons.mpr ⟨zK26, (List.forall_mem_cons.mpr ⟨zK27, (List.forall_mem_cons.mpr ⟨zK28, (List.forall_mem_cons.mpr ⟨zK29, (List.forall_mem_cons.mpr ⟨zK30, (List.forall_mem_cons.mpr ⟨zK31, (List.forall_mem_cons.mpr ⟨zK32, (List.forall_mem_cons.mpr ⟨zK33, (List.forall_mem_cons.mpr ⟨zK34, (List.forall_mem_cons.mpr ⟨zK36, (List.forall_mem_cons.mpr ⟨zK37, (List.forall_mem_cons.mpr ⟨zK38, (List.forall_mem_cons.mpr ⟨zK39, (List.forall_mem_cons.mpr ⟨zK40, (List.forall_mem_cons.mpr ⟨zK41, (List.forall_mem_cons.mpr ⟨zK42, (List.forall_mem_cons.mpr ⟨zK43, (List.forall_mem_cons.mpr ⟨zK44, (List.forall_mem_cons.mpr ⟨zK45, (List.forall_mem_cons.mpr ⟨zK46, (List.forall_mem_cons.mpr ⟨zK47, (List.forall_mem_cons.mpr ⟨zK48, (List.forall_mem_cons.mpr ⟨zK49, (List.forall_mem_cons.mpr ⟨zK50, (List.forall_mem_cons.mpr ⟨zK51, (List.forall_mem_cons.mpr ⟨zK52, (List.forall_mem_cons.mpr ⟨zK58, (List.forall_mem_cons.mpr ⟨zK59, (List.forall_mem_cons.mpr ⟨zK60, (List.forall_mem_cons.mpr ⟨zK61, (List.forall_mem_cons.mpr ⟨zK62, (List.forall_mem_cons.mpr ⟨zK64, (List.forall_mem_cons.mpr ⟨zK72, (List.forall_mem_cons.mpr ⟨zK74, (List.forall_mem_cons.mpr ⟨zK75, (List.forall_mem_cons.mpr ⟨zK76, (List.forall_mem_cons.mpr ⟨zK77, (List.forall_mem_cons.mpr ⟨zK78, (List.forall_mem_cons.mpr ⟨zK79, (List.forall_mem_cons.mpr ⟨zK80, (List.forall_mem_cons.mpr ⟨zK81, (List.forall_mem_cons.mpr ⟨zK82, (List.forall_mem_cons.mpr ⟨zK83, (List.forall_mem_cons.mpr ⟨zK84, (List.forall_mem_cons.mpr ⟨zK85, (List.forall_mem_cons.mpr ⟨zK86, (List.forall_mem_cons.mpr ⟨zK87, (List.forall_mem_cons.mpr ⟨zK88, (List.forall_mem_cons.mpr ⟨zK89, (List.forall_mem_cons.mpr ⟨zK90, (List.forall_mem_cons.mpr ⟨zK91, (List.forall_mem_cons.mpr ⟨zK92, (List.forall_mem_cons.mpr ⟨zK93, (List.forall_mem_cons.mpr ⟨zK100, (List.forall_mem_cons.mpr ⟨zK101, (List.forall_mem_cons.mpr ⟨zK103, (List.forall_mem_cons.mpr ⟨zK107, (List.forall_mem_cons.mpr ⟨zK108, (List.forall_mem_cons.mpr ⟨zK109, (List.forall_mem_cons.mpr ⟨zK110, (List.forall_mem_cons.mpr ⟨zK111, (List.forall_mem_cons.mpr ⟨zK112, (List.forall_mem_cons.mpr ⟨zK113, (List.forall_mem_cons.mpr ⟨zK114, (List.forall_mem_cons.mpr ⟨zK115, (List.forall_mem_cons.mpr ⟨zK116, (List.forall_mem_cons.mpr ⟨zK117, (List.forall_mem_cons.mpr ⟨zK118, (List.forall_mem_cons.mpr ⟨zK119, (List.forall_mem_cons.mpr ⟨zK120, (List.forall_mem_cons.mpr ⟨zK121, (List.forall_mem_cons.mpr ⟨zK122, (List.forall_mem_cons.mpr ⟨zK123, (List.forall_mem_cons.mpr ⟨zK124, (List.forall_mem_cons.mpr ⟨zK125, (List.forall_mem_cons.mpr ⟨zK126, (List.forall_mem_cons.mpr ⟨zK127, (List.forall_mem_cons.mpr ⟨zK128, (List.forall_mem_cons.mpr ⟨zK129, (List.forall_mem_cons.mpr ⟨zK130, (List.forall_mem_cons.mpr ⟨zK133, (List.forall_mem_cons.mpr ⟨zK134, (List.forall_mem_cons.mpr ⟨zK136, (List.forall_mem_cons.mpr ⟨zK137, (List.forall_mem_cons.mpr ⟨zK139, (List.forall_mem_cons.mpr ⟨zK140, (List.forall_mem_cons.mpr ⟨zK141, (List.forall_mem_cons.mpr ⟨zK157, (List.forall_mem_cons.mpr ⟨zK168, (List.forall_mem_cons.mpr ⟨zK169, (List.forall_mem_cons.mpr ⟨zK170, (List.forall_mem_cons.mpr ⟨zK171, (List.forall_mem_cons.mpr ⟨zK172, (List.forall_mem_cons.mpr ⟨zK173, (List.forall_mem_cons.mpr ⟨zK176, (List.forall_mem_cons.mpr ⟨zK181, (List.forall_mem_cons.mpr ⟨zK182, (List.forall_mem_cons.mpr ⟨zK186, (List.forall_mem_cons.mpr ⟨zK187, (List.forall_mem_cons.mpr ⟨zK315, (List.forall_mem_cons.mpr ⟨zK316, (List.forall_mem_cons.mpr ⟨zK317, (List.forall_mem_cons.mpr ⟨zK318, (List.forall_mem_cons.mpr ⟨zK319, (List.forall_mem_cons.mpr ⟨zK320, (List.forall_mem_cons.mpr ⟨zK321, (List.forall_mem_cons.mpr ⟨zK322, (List.forall_mem_cons.mpr ⟨zK324, (List.forall_mem_cons.mpr ⟨zK325, (fun _ h => absurd h List.not_mem_nil)⟩)⟩)⟩)⟩)⟩)⟩)⟩)⟩)⟩)⟩)⟩)⟩)⟩)⟩)⟩)⟩)⟩)⟩)⟩)⟩)⟩)⟩)⟩)⟩)⟩)⟩)⟩)⟩)⟩)⟩)⟩)⟩)⟩)⟩)⟩)⟩)⟩)⟩)⟩)⟩)⟩)⟩)⟩)⟩)⟩)⟩)⟩)⟩)⟩)⟩)⟩)⟩)⟩)⟩)⟩)⟩)⟩)⟩)⟩)⟩)⟩)⟩)⟩)⟩)⟩)⟩)⟩)⟩)⟩)⟩)⟩)⟩)⟩)⟩)⟩)⟩)⟩)⟩)⟩)⟩)⟩)⟩)⟩)⟩)⟩)⟩)⟩)⟩)⟩)⟩)⟩)⟩)⟩)⟩)⟩)⟩)⟩)⟩)⟩)⟩)⟩)⟩)⟩)⟩)⟩)⟩)⟩)⟩)⟩)⟩)⟩)⟩)⟩)⟩)⟩)⟩)⟩)⟩)⟩)⟩)⟩)⟩)⟩)
/-- the methods that are there -/
def zrlm (m : Nat) : Prop := m ∈ zrc ∨ m = 326
theorem zKall {m : Nat} (h : zrlm m) : zPm m := h.elim (zKrc m) (fun e => by rw [e]; exact zK326)
