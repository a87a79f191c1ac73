/-! ===== THE ABSTRACT MACHINE: values, memory by kinds, one instruction, runs ===== -/
abbrev zV : Type := Int32 ⊕ (Int64 ⊕ ((Nat × Nat) ⊕ Unit))
abbrev zi (x : Int32) : zV := .inl x
abbrev zl (x : Int64) : zV := .inr (.inl x)
abbrev zp (p : Nat × Nat) : zV := .inr (.inr (.inl p))
abbrev zr (k i : Nat) : zV := .inr (.inr (.inl (k, i)))
abbrev zu : zV := .inr (.inr (.inr ()))
/-- ints, longs, references by kind, instance, slot; how many cells are made; the script's length and ints -/
abbrev zM : Type := (Nat → Nat → Nat → Int32) × (Nat → Nat → Nat → Int64) × (Nat → Nat → Nat → Nat × Nat) × Nat × (Nat × (Nat → Int32))
def zgI (M : zM) (k i s : Nat) : Int32 := M.1 k i s
def zgL (M : zM) (k i s : Nat) : Int64 := M.2.1 k i s
def zgR (M : zM) (k i s : Nat) : Nat × Nat := M.2.2.1 k i s
def znx (M : zM) : Nat := M.2.2.2.1
def zsc (M : zM) : Nat × (Nat → Int32) := M.2.2.2.2
def zsI (M : zM) (k i s : Nat) (v : Int32) : zM := (fun k' i' s' => if k' = k ∧ i' = i ∧ s' = s then v else M.1 k' i' s', M.2)
def zsL (M : zM) (k i s : Nat) (v : Int64) : zM := (M.1, fun k' i' s' => if k' = k ∧ i' = i ∧ s' = s then v else M.2.1 k' i' s', M.2.2)
def zsR (M : zM) (k i s : Nat) (v : Nat × Nat) : zM := (M.1, M.2.1, fun k' i' s' => if k' = k ∧ i' = i ∧ s' = s then v else M.2.2.1 k' i' s', M.2.2.2)
/-- a cell more: the next one, its slots zero -/
def znew (M : zM) (k i : Nat) : zM := (fun k' i' s' => if k' = k ∧ i' = i then 0 else M.1 k' i' s', fun k' i' s' => if k' = k ∧ i' = i then 0 else M.2.1 k' i' s', fun k' i' s' => if k' = k ∧ i' = i then (0, 0) else M.2.2.1 k' i' s', M.2.2.2.1 + 1, M.2.2.2.2)
def zin (j : Int32) (n : Nat) : Bool := decide (0 ≤ j.toInt) && decide (j.toInt < (n : Int))
def zib (x : Int32) : Bool := x == 0 || x == 1
/-- an array's element type (1 int, 2 byte, 3 short, 4 boolean, 5 long, 6 references), 0 for what is none -/
def zat (k : Nat) : Nat := (zka k).1
def zlen (M : zM) (k : Nat) : Nat := bif Nat.beq k 16 then (zsc M).1 else (zka k).2.1
/-- the kind of what an array of references holds -/
def zek (k : Nat) : Nat := (zka k).2.2
def zld (M : zM) (k i j : Nat) : Int32 := bif Nat.beq k 16 then (zsc M).2 j else bif Nat.beq k 15 then zsb j else zgI M k i j
/-- what a reference's slot holds: when all is built, the ones that are final are known -/
def zgF (b : Bool) (M : zM) (k i s : Nat) : Nat × Nat := bif b || zmut k s then zgR M k i s else zrt k i s
def zgFI (M : zM) (k i s : Nat) : Int32 := bif Nat.beq k 14 then 0 else zgI M k i s
def znth : Nat → List zV → zV
  | 0, x :: _ => x
  | n + 1, _ :: r => znth n r
  | _, [] => zu
def zsetn : Nat → zV → List zV → List zV
  | 0, v, _ :: r => v :: r
  | n + 1, v, x :: r => x :: zsetn n v r
  | _, _, [] => []
def zkl : zV → zV
  | .inr (.inl _) => zu
  | v => v
/-- a store of one word at a: a long just ahead of it is gone -/
def zst : Nat → zV → List zV → List zV
  | 0, v, _ :: r => v :: r
  | 1, v, x :: _ :: r => zkl x :: v :: r
  | n + 1, v, x :: r => x :: zst n v r
  | _, _, [] => []
/-- a long's store at a -/
def zst2 (a : Nat) (v : zV) (ls : List zV) : List zV := zsetn (a + 1) zu (zst a v ls)
def zwt : List zV → Nat
  | [] => 0
  | .inr (.inl _) :: r => 2 + zwt r
  | _ :: r => 1 + zwt r
def zpush : Option zV → List zV → List zV
  | some v, st => v :: st
  | none, st => st
/-- a method's locals at its entry -/
def zpad (n : Nat) (ls : List zV) : List zV := ls ++ List.replicate (n - ls.length) zu
def zargs : List zV → List zV
  | [] => []
  | .inr (.inl x) :: r => zl x :: zu :: zargs r
  | v :: r => v :: zargs r
def zrk (d : Nat) : List zV → Bool
  | .inr (.inr (.inl p)) :: _ => Nat.beq d 0 || Nat.beq p.1 d
  | _ => Nat.beq d 0
/-- no word that isn't set -/
def zok : List zV → Bool
  | [] => true
  | .inr (.inr (.inr _)) :: _ => false
  | _ :: r => zok r
def zsw {β : Type} (f : Nat → Option β) (x : Int32) (d : Nat) : List (Int32 × Nat) → Option β
  | [] => f d
  | q :: r => if x = q.1 then f q.2 else zsw f x d r
set_option maxHeartbeats 4000000 in
/-- one instruction: on it goes (kN), it returns (kR), it calls (kC) -/
def zX {β : Type} (kN : Nat → List zV → List zV → zM → Option β) (kR : Option zV → zM → Option β) (kC : Nat → List zV → Nat → List zV → List zV → zM → Option β) (b : Bool) (pc : Nat) (ls st : List zV) (M : zM) (E : zE) : Option β :=
  match E with
  | (I, n, (a, d, g), z, w, sw) =>
  match I with
  | .iconst _ | .bipush _ | .sipush _ | .ldc_w _ | .getstatic _ => kN n ls (zi z :: st) M
  | .ldc _ => bif Nat.beq a 1 then kN n ls (zr 14 0 :: st) M else kN n ls (zi z :: st) M
  | .lconst _ | .ldc2_w _ => kN n ls (zl w :: st) M
  | .aconst_null => kN n ls (zr 0 0 :: st) M
  | .iload _ | .iload_n _ => match znth a ls with
    | .inl x => kN n ls (zi x :: st) M
    | _ => none
  | .lload _ | .lload_n _ => match znth a ls with
    | .inr (.inl x) => kN n ls (zl x :: st) M
    | _ => none
  | .aload _ | .aload_n _ => match znth a ls with
    | .inr (.inr (.inl p)) => kN n ls (zp p :: st) M
    | _ => none
  | .istore _ | .istore_n _ => match st with
    | .inl x :: r => kN n (zst a (zi x) ls) r M
    | _ => none
  | .lstore _ | .lstore_n _ => match st with
    | .inr (.inl x) :: r => kN n (zst2 a (zl x) ls) r M
    | _ => none
  | .astore _ | .astore_n _ => match st with
    | .inr (.inr (.inl p)) :: r => kN n (zst a (zp p) ls) r M
    | _ => none
  | .iinc _ _ => match znth a ls with
    | .inl x => kN n (zst a (zi (x + z)) ls) st M
    | _ => none
  | .iadd => match st with
    | .inl y :: .inl x :: r => kN n ls (zi (x + y) :: r) M
    | _ => none
  | .isub => match st with
    | .inl y :: .inl x :: r => kN n ls (zi (x - y) :: r) M
    | _ => none
  | .imul => match st with
    | .inl y :: .inl x :: r => kN n ls (zi (x * y) :: r) M
    | _ => none
  | .iand => match st with
    | .inl y :: .inl x :: r => kN n ls (zi (x &&& y) :: r) M
    | _ => none
  | .ior => match st with
    | .inl y :: .inl x :: r => kN n ls (zi (x ||| y) :: r) M
    | _ => none
  | .ishl => match st with
    | .inl y :: .inl x :: r => kN n ls (zi (x <<< (y &&& 31)) :: r) M
    | _ => none
  | .ixor => match st with
    | .inl y :: .inl x :: r => kN n ls (zi (x ^^^ y) :: r) M
    | _ => none
  | .ishr => match st with
    | .inl y :: .inl x :: r => kN n ls (zi (x >>> (y &&& 31)) :: r) M
    | _ => none
  | .iushr => match st with
    | .inl y :: .inl x :: r => kN n ls (zi (x.toUInt32 >>> (y.toUInt32 &&& Int32.toUInt32 31)).toInt32 :: r) M
    | _ => none
  | .idiv => match st with
    | .inl y :: .inl x :: r => if y = 0 then none else kN n ls (zi (x / y) :: r) M
    | _ => none
  | .irem => match st with
    | .inl y :: .inl x :: r => if y = 0 then none else kN n ls (zi (x - x / y * y) :: r) M
    | _ => none
  | .ineg => match st with
    | .inl x :: r => kN n ls (zi (-x) :: r) M
    | _ => none
  | .i2b => match st with
    | .inl x :: r => kN n ls (zi x.toInt8.toInt32 :: r) M
    | _ => none
  | .i2s => match st with
    | .inl x :: r => kN n ls (zi x.toInt16.toInt32 :: r) M
    | _ => none
  | .i2c => match st with
    | .inl x :: r => kN n ls (zi (x.toUInt32 % 65536).toInt32 :: r) M
    | _ => none
  | .i2l => match st with
    | .inl x :: r => kN n ls (zl x.toInt64 :: r) M
    | _ => none
  | .l2i => match st with
    | .inr (.inl x) :: r => kN n ls (zi x.toInt32 :: r) M
    | _ => none
  | .ladd => match st with
    | .inr (.inl y) :: .inr (.inl x) :: r => kN n ls (zl (x + y) :: r) M
    | _ => none
  | .lsub => match st with
    | .inr (.inl y) :: .inr (.inl x) :: r => kN n ls (zl (x - y) :: r) M
    | _ => none
  | .lmul => match st with
    | .inr (.inl y) :: .inr (.inl x) :: r => kN n ls (zl (x * y) :: r) M
    | _ => none
  | .land => match st with
    | .inr (.inl y) :: .inr (.inl x) :: r => kN n ls (zl (x &&& y) :: r) M
    | _ => none
  | .lor => match st with
    | .inr (.inl y) :: .inr (.inl x) :: r => kN n ls (zl (x ||| y) :: r) M
    | _ => none
  | .ldiv => match st with
    | .inr (.inl y) :: .inr (.inl x) :: r => if y = 0 then none else kN n ls (zl (x / y) :: r) M
    | _ => none
  | .lneg => match st with
    | .inr (.inl x) :: r => kN n ls (zl (-x) :: r) M
    | _ => none
  | .lshl => match st with
    | .inl y :: .inr (.inl x) :: r => kN n ls (zl (x <<< (y.toInt64 &&& 63)) :: r) M
    | _ => none
  | .lcmp => match st with
    | .inr (.inl y) :: .inr (.inl x) :: r => kN n ls (zi (lg_cmp x y) :: r) M
    | _ => none
  | .ifCond c _ => match st with
    | .inl x :: r => match c with
      | .eq => if x = 0 then kN a ls r M else kN n ls r M
      | .ne => if x = 0 then kN n ls r M else kN a ls r M
      | .lt => if x < 0 then kN a ls r M else kN n ls r M
      | .ge => if 0 ≤ x then kN a ls r M else kN n ls r M
      | .gt => if 0 < x then kN a ls r M else kN n ls r M
      | .le => if x ≤ 0 then kN a ls r M else kN n ls r M
    | _ => none
  | .if_icmp c _ => match st with
    | .inl y :: .inl x :: r => match c with
      | .eq => if x = y then kN a ls r M else kN n ls r M
      | .ne => if x = y then kN n ls r M else kN a ls r M
      | .lt => if x < y then kN a ls r M else kN n ls r M
      | .ge => if y ≤ x then kN a ls r M else kN n ls r M
      | .gt => if y < x then kN a ls r M else kN n ls r M
      | .le => if x ≤ y then kN a ls r M else kN n ls r M
    | _ => none
  | .goto _ => kN a ls st M
  | .ifnull _ => match st with
    | .inr (.inr (.inl p)) :: r => bif Nat.beq p.1 0 then kN a ls r M else kN n ls r M
    | _ => none
  | .ifnonnull _ => match st with
    | .inr (.inr (.inl p)) :: r => bif Nat.beq p.1 0 then kN n ls r M else kN a ls r M
    | _ => none
  | .tableswitch _ _ _ _ | .lookupswitch _ _ => match st with
    | .inl x :: r => zsw (fun t => kN t ls r M) x a sw
    | _ => none
  | .getfield _ => match st with
    | .inr (.inr (.inl p)) :: r => bif Nat.beq p.1 a then (match g with
      | 2 => kN n ls (zl (zgL M a p.2 d) :: r) M
      | 3 => kN n ls (zp (bif Nat.beq a 14 then (15, 0) else zgF b M a p.2 d) :: r) M
      | _ => kN n ls (zi (zgFI M a p.2 d) :: r) M) else none
    | _ => none
  | .putfield _ => match st with
    | v :: .inr (.inr (.inl p)) :: r => bif Nat.beq p.1 a then (match g with
      | 0 => match v with
        | .inl x => kN n ls r (zsI M a p.2 d x)
        | _ => none
      | 1 => match v with
        | .inl x => bif zib x then kN n ls r (zsI M a p.2 d x) else none
        | _ => none
      | 3 => match v with
        | .inr (.inr (.inl q)) => bif b || zmut a d then kN n ls r (zsR M a p.2 d q) else none
        | _ => none
      | _ => none) else none
    | _ => none
  | .iaload => match st with
    | .inl j :: .inr (.inr (.inl p)) :: r => bif Nat.beq (zat p.1) 1 then (if zin j (zlen M p.1) = true then kN n ls (zi (zld M p.1 p.2 j.toNatClampNeg) :: r) M else none) else none
    | _ => none
  | .baload => match st with
    | .inl j :: .inr (.inr (.inl p)) :: r => bif Nat.beq (zat p.1) 2 || Nat.beq (zat p.1) 4 then (if zin j (zlen M p.1) = true then kN n ls (zi (zld M p.1 p.2 j.toNatClampNeg) :: r) M else none) else none
    | _ => none
  | .saload => match st with
    | .inl j :: .inr (.inr (.inl p)) :: r => bif Nat.beq (zat p.1) 3 then (if zin j (zlen M p.1) = true then kN n ls (zi (zld M p.1 p.2 j.toNatClampNeg) :: r) M else none) else none
    | _ => none
  | .laload => match st with
    | .inl j :: .inr (.inr (.inl p)) :: r => bif Nat.beq (zat p.1) 5 then (if zin j (zlen M p.1) = true then kN n ls (zl (zgL M p.1 p.2 j.toNatClampNeg) :: r) M else none) else none
    | _ => none
  | .aaload => match st with
    | .inl j :: .inr (.inr (.inl p)) :: r => bif Nat.beq (zat p.1) 6 then (if zin j (zlen M p.1) = true then kN n ls (zp (zgF b M p.1 p.2 j.toNatClampNeg) :: r) M else none) else none
    | _ => none
  | .iastore => match st with
    | .inl x :: .inl j :: .inr (.inr (.inl p)) :: r => bif Nat.beq (zat p.1) 1 && Nat.ble 17 p.1 then (if zin j (zlen M p.1) = true then kN n ls r (zsI M p.1 p.2 j.toNatClampNeg x) else none) else none
    | _ => none
  | .bastore => match st with
    | .inl x :: .inl j :: .inr (.inr (.inl p)) :: r => bif Nat.beq (zat p.1) 2 && Nat.ble 17 p.1 then (if zin j (zlen M p.1) = true then kN n ls r (zsI M p.1 p.2 j.toNatClampNeg x.toInt8.toInt32) else none)
        else bif Nat.beq (zat p.1) 4 then (if zin j (zlen M p.1) = true then kN n ls r (zsI M p.1 p.2 j.toNatClampNeg (x &&& 1)) else none) else none
    | _ => none
  | .sastore => match st with
    | .inl x :: .inl j :: .inr (.inr (.inl p)) :: r => bif Nat.beq (zat p.1) 3 then (if zin j (zlen M p.1) = true then kN n ls r (zsI M p.1 p.2 j.toNatClampNeg x.toInt16.toInt32) else none) else none
    | _ => none
  | .lastore => match st with
    | .inr (.inl x) :: .inl j :: .inr (.inr (.inl p)) :: r => bif Nat.beq (zat p.1) 5 then (if zin j (zlen M p.1) = true then kN n ls r (zsL M p.1 p.2 j.toNatClampNeg x) else none) else none
    | _ => none
  | .aastore => match st with
    | .inr (.inr (.inl q)) :: .inl j :: .inr (.inr (.inl p)) :: r => bif b && (Nat.beq (zat p.1) 6 && Nat.beq q.1 (zek p.1)) then (if zin j (zlen M p.1) = true then kN n ls r (zsR M p.1 p.2 j.toNatClampNeg q) else none) else none
    | _ => none
  | .arraylength => match st with
    | .inr (.inr (.inl p)) :: r => bif Nat.blt 0 (zat p.1) then kN n ls (zi (Int32.ofNat (zlen M p.1)) :: r) M else none
    | _ => none
  | .dup => match st with
    | .inl x :: r => kN n ls (zi x :: zi x :: r) M
    | .inr (.inr (.inl p)) :: r => kN n ls (zp p :: zp p :: r) M
    | _ => none
  | .dup2 => match st with
    | .inl y :: .inr (.inr (.inl p)) :: r => kN n ls (zi y :: zp p :: zi y :: zp p :: r) M
    | _ => none
  | .pop => match st with
    | .inl _ :: r => kN n ls r M
    | _ => none
  | .ireturn => match st with
    | [.inl x] => bif Nat.beq g 0 then kR (some (zi x)) M else bif Nat.beq g 1 then (bif zib x then kR (some (zi x)) M else none) else (bif x.toInt8.toInt32 == x then kR (some (zi x)) M else none)
    | _ => none
  | .lreturn => match st with
    | [.inr (.inl x)] => kR (some (zl x)) M
    | _ => none
  | .areturn => match st with
    | [.inr (.inr (.inl p))] => kR (some (zp p)) M
    | _ => none
  | .return_ => match st with
    | [] => kR none M
    | _ => none
  | .invokestatic _ => bif Nat.beq a 0 then (match st with
    | .inl y :: .inl x :: r => bif Nat.ble (zwt r) 8 && zok r then (bif Nat.beq d 1 then kN n ls (zi (if x < y then y else x) :: r) M else kN n ls (zi (if y < x then y else x) :: r) M) else none
    | _ => none) else bif Nat.ble (zwt (st.drop d)) 8 && (Nat.ble d st.length && (zok st && (zrk g (st.take d).reverse && Nat.ble (zwt (st.take d)) (zml a)))) then kC a (st.take d).reverse n ls (st.drop d) M else none
  | .invokevirtual _ => bif Nat.ble (zwt (st.drop d)) 8 && (Nat.ble d st.length && (zok st && (zrk g (st.take d).reverse && Nat.ble (zwt (st.take d)) (zml a)))) then kC a (st.take d).reverse n ls (st.drop d) M else none
  | .invokespecial _ => bif Nat.beq a 0 then (match st with
    | .inr (.inr (.inl p)) :: r => bif Nat.ble (zwt r) 8 && (zok r && Nat.blt 0 p.1) then kN n ls r M else none
    | _ => none) else bif Nat.ble (zwt (st.drop d)) 8 && (Nat.ble d st.length && (zok st && (zrk g (st.take d).reverse && Nat.ble (zwt (st.take d)) (zml a)))) then kC a (st.take d).reverse n ls (st.drop d) M else none
  | .new _ => bif b && Nat.beq (zkt (znx M)).1 a then kN n ls (zp (zkt (znx M)) :: st) (znew M (zkt (znx M)).1 (zkt (znx M)).2) else none
  | .newarray _ => match st with
    | .inl y :: r => bif b && Nat.beq (zat (zkt (znx M)).1) a then (if y = Int32.ofNat (zka (zkt (znx M)).1).2.1 then kN n ls (zp (zkt (znx M)) :: r) (znew M (zkt (znx M)).1 (zkt (znx M)).2) else none) else none
    | _ => none
  | .anewarray _ => match st with
    | .inl y :: r => bif b && (Nat.beq (zat (zkt (znx M)).1) 6 && Nat.beq (zek (zkt (znx M)).1) a) then (if y = Int32.ofNat (zka (zkt (znx M)).1).2.1 then kN n ls (zp (zkt (znx M)) :: r) (znew M (zkt (znx M)).1 (zkt (znx M)).2) else none) else none
    | _ => none
  | _ => none
/-- a run: n bounds its steps, d the calls that stand open -/
noncomputable def zrun (b : Bool) : Nat → Nat → Nat → Nat → List zV → List zV → zM → Option (Option zV × zM)
  | 0, _, _, _, _, _, _ => none
  | n + 1, d, m, pc, ls, st, M => match zins m pc with
    | none => none
    | some E => zX (fun pc' ls' st' M' => zrun b n d m pc' ls' st' M') (fun v M' => some (v, M'))
        (fun y as pc' ls' st' M' => match d with
          | 0 => none
          | d' + 1 => (zrun b n d' y 0 (zpad (zml y) (zargs as)) [] M').bind fun q => zrun b n d m pc' ls' (zpush q.1 st') q.2) b pc ls st M E.1
